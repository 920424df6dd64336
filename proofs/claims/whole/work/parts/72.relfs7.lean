/-! FILES, VII: WRITE, class against reference -/
theorem why_of {x : xD} {g P S : Nat} (hg : g < 16) (hP : P ≤ 32) (hS : S ≤ 32) (h349 : ¬ x.1 349 g = 0) (h350 : x.1 350 g = nI S) : FX3_whyNotWrite (nI g) (nI P) x = (if P < 32 then (if P = S ∧ P % 8 = 0 then (if x.1 348 5 = 0 then -6 else nI 0) else nI 0) else -4) ∧ DX3_whyNotWrite (nI g) (nI P) x := by
  obtain ⟨n1, n2⟩ := needs_of hg hP hS h349 h350
  have ng : ¬ nI g = -1 := nI_ne_m1 g (by omega)
  rw [FX3_whyNotWrite, DX3_whyNotWrite, if_neg ng, n1]
  refine ⟨?_, fun z => absurd z ng, fun _ => ⟨fun _ => ⟨n2, trivial⟩, fun _ => trivial⟩⟩
  by_cases c : P < 32
  · have cl : nI P < nI 32 := nI_lt c (by decide)
    rw [if_pos cl, if_pos c]
    by_cases c2 : P = S ∧ P % 8 = 0
    · rw [if_pos c2, if_neg nI10, if_pos c2]
    · rw [if_neg c2, if_pos nI00, if_neg c2]
  · have cl : ¬ nI P < nI 32 := nI_nlt (by omega) (by omega)
    rw [if_neg cl, if_neg c]
theorem write_lim {x : xD} {m : mD} {v d g : Nat} {w : Int32} (h : R3 x m) (ho : iOpe m) (hv : v < 8) (hd4 : d < 4) (hg : g < 16) (e14 : m 14 (4 * (v + 4) + d) = nI g) (t1 : m 16 g = 1) (e15 : m 15 (4 * (v + 4) + d) = nI 32) (e17 : m 17 g = nI 32) (h5 : m 5 2 = -1) (htl : ¬ m 0 34 = 0) (hd : m 0 23 = 0 ∨ m 0 23 = 1) : DX3_write (nI (v + 4)) (nI d) w x ∧ Dwrites (v + 4) (4 * (v + 4) + d) g w m ∧ R3 (FX3_write (nI (v + 4)) (nI d) w x) (Fwrites (v + 4) (4 * (v + 4) + d) g w m) := by
  obtain ⟨a1, a2, a3, a4, a5, a6⟩ := at_open h ho hv hd4 hg e14
  rw [e15] at a6
  obtain ⟨u1, u2⟩ := (rTab_of h).2.1 g hg t1
  have h349 : ¬ x.1 349 g = 0 := by rw [(rTab_of h).1 g hg, t1]; decide
  obtain ⟨y1, y2⟩ := why_of (P := 32) (S := 32) hg (by decide) (by decide) h349 (u1.trans e17)
  rw [if_neg (by decide)] at y1
  have n4 : ¬ (-4 : Int32) = 0 := by decide
  obtain ⟨q1, q2, q3, -⟩ := tells_rel (f := 2) (u := v + 4) (v := -4) h (by decide) (by omega) (by omega) hd h5 htl
  rw [FX3_write, DX3_write, Fwrites, Dwrites, a4, a6, y1, e15, if_neg n4, if_pos rfl]
  exact ⟨⟨a2, a3, y2, fun z => absurd z n4, fun _ => ⟨q1, trivial⟩⟩, ⟨by omega, fun _ => ⟨q2, trivial⟩, fun z => absurd rfl z⟩, q3⟩
theorem write_fetch {x : xD} {m : mD} {v d g P S : Nat} {w : Int32} (h : R3 x m) (ho : iOpe m) (hz : iSiz m) (hn : no22 m) (hv : v < 8) (hd4 : d < 4) (hg : g < 16) (e14 : m 14 (4 * (v + 4) + d) = nI g) (t1 : m 16 g = 1) (hPS : P ≤ S) (hS : S ≤ 32) (hP : P < 32) (e15 : m 15 (4 * (v + 4) + d) = nI P) (e17 : m 17 g = nI S) (nb : ¬ (P = S ∧ P % 8 = 0)) (h5 : m 5 2 = -1) (htl : ¬ m 0 34 = 0) (hd : m 0 23 = 0 ∨ m 0 23 = 1) : DX3_write (nI (v + 4)) (nI d) w x ∧ Dwrites (v + 4) (4 * (v + 4) + d) g w m ∧ R3 (FX3_write (nI (v + 4)) (nI d) w x) (Fwrites (v + 4) (4 * (v + 4) + d) g w m) := by
  obtain ⟨a1, a2, a3, a4, a5, a6⟩ := at_open h ho hv hd4 hg e14
  rw [e15] at a6
  obtain ⟨S', hS', e17', hB, -⟩ := hz g hg t1
  have eS : S' = S := (nI_eq (by omega) (by omega)).mp (e17'.symm.trans e17)
  subst eS
  obtain ⟨u1, u2⟩ := (rTab_of h).2.1 g hg t1
  have h349 : ¬ x.1 349 g = 0 := by rw [(rTab_of h).1 g hg, t1]; decide
  obtain ⟨y1, y2⟩ := why_of (P := P) (S := S') hg (by omega) hS h349 (u1.trans e17)
  rw [if_pos hP, if_neg nb] at y1
  have hb8 : 8 * (P / 8) < S' := by omega
  have n18 := hB (P / 8) (by omega) hb8
  have B := block_of (x := FX3_takeInHand (nI (v + 4)) (nI d) (nI 0) w x) (g := g) (b := P / 8) (S := S') hg (by omega) hS h349 (u1.trans e17) hb8
  have B1 : FX4_blockOf (nI g) ((nI (P / 8)).toInt64) (FX3_takeInHand (nI (v + 4)) (nI d) (nI 0) w x) = m 18 (4 * g + P / 8) := B.1.trans (u2 (P / 8) (by omega) n18)
  obtain ⟨z1, z2⟩ := needs_of (x := FX3_takeInHand (nI (v + 4)) (nI d) (nI 0) w x) (P := P) (S := S') hg (by omega) hS h349 (u1.trans e17)
  rw [if_neg nb] at z1
  have A := hand_ask (v := v) (d := d) (r := nI 0) (w := w) (w' := w) (st := nI 2) (k := nI 20) (b := m 18 (4 * g + P / 8)) h hv hd4 (by decide) (fun _ => rfl) (Or.inl ⟨rfl, hn⟩) h5 htl hd
  have hth : DX3_takeInHand (nI (v + 4)) (nI d) (nI 0) w x := ⟨Or.inl nI00, trivial⟩
  have dv : nI P / nI 8 = nI (P / 8) := pk_div (by omega) (by decide) (by decide)
  have ei : nI (4 * g) + nI (P / 8) = nI (4 * g + P / 8) := nI_add _ _
  have hci : (nI (4 * g + P / 8)).toNatClampNeg = 4 * g + P / 8 := nI_clamp (by omega)
  have n32 : ¬ nI P = nI 32 := fun z => by have := (nI_eq (by omega) (by decide)).mp z; omega
  have m17 : ab_up (ab_up (ab_up m 0 37 (nI (v + 4))) 0 38 (nI (4 * (v + 4) + d))) 0 39 w 17 g = nI S' := by rw [ab_up_ne (by decide), ab_up_ne (by decide), ab_up_ne (by decide), e17]
  have e18 : ab_up (ab_up (ab_up (ab_up (ab_up m 0 37 (nI (v + 4))) 0 38 (nI (4 * (v + 4) + d))) 0 39 w) 0 36 (nI 2)) 0 40 (nI 20) 18 (4 * g + P / 8) = m 18 (4 * g + P / 8) := by rw [ab_up_ne (by decide), ab_up_ne (by decide), ab_up_ne (by decide), ab_up_ne (by decide), ab_up_ne (by decide)]
  have xe : (ab_up (FX3_takeInHand (nI (v + 4)) (nI d) (nI 0) w x).1 347 10 (m 18 (4 * g + P / 8)), (FX3_takeInHand (nI (v + 4)) (nI d) (nI 0) w x).2) = (xHand (nI (v + 4)) (nI d) (nI 0) w (m 18 (4 * g + P / 8)) x.1, x.2) := rfl
  have A1 : DX3_ask (nI 20) (ab_up (FX3_takeInHand (nI (v + 4)) (nI d) (nI 0) w x).1 347 10 (m 18 (4 * g + P / 8)), (FX3_takeInHand (nI (v + 4)) (nI d) (nI 0) w x).2) := A.1
  have A2 : DasksDriver (ab_up (ab_up (ab_up (ab_up (ab_up (ab_up m 0 37 (nI (v + 4))) 0 38 (nI (4 * (v + 4) + d))) 0 39 w) 0 36 (nI 2)) 0 40 (nI 20)) 0 41 (m 18 (4 * g + P / 8))) := A.2.1
  have ex : FX3_write (nI (v + 4)) (nI d) w x = FX3_ask (nI 20) (xHand (nI (v + 4)) (nI d) (nI 0) w (m 18 (4 * g + P / 8)) x.1, x.2) := by
    rw [FX3_write, a4, a6, y1, if_pos nI00]
    dsimp only
    rw [z1, if_pos nI00, dv, B1, xe]
  have dx : DX3_write (nI (v + 4)) (nI d) w x := by
    rw [DX3_write, a4, a6, y1]
    dsimp only
    rw [z1, dv, B1]
    exact ⟨a2, a3, y2, fun _ => ⟨hth, z2, fun _ => ⟨B.2, A1, trivial⟩, fun z => absurd nI00 z⟩, fun z => absurd nI00 z⟩
  have em : Fwrites (v + 4) (4 * (v + 4) + d) g w m = FasksDriver (mHand (nI (v + 4)) (nI (4 * (v + 4) + d)) w (nI 2) (nI 20) (m 18 (4 * g + P / 8)) m) := by
    rw [Fwrites, e15, if_neg n32]
    dsimp only
    rw [m17, pk_rem (show P < 2 ^ 31 by omega) (by decide) (by decide), dv, ei, hci, e18]
    by_cases c : P = S'
    · have c2 : ¬ P % 8 = 0 := fun z => nb ⟨c, z⟩
      rw [if_pos (by rw [c]), if_neg (nI_ne0 (by omega) (by omega))]
      rfl
    · rw [if_neg (fun z => c ((nI_eq (by omega) (by omega)).mp z))]
      rfl
  have dm : Dwrites (v + 4) (4 * (v + 4) + d) g w m := by
    rw [Dwrites, e15]
    refine ⟨by omega, fun z => absurd z n32, fun _ => ?_⟩
    dsimp only
    rw [m17, pk_rem (show P < 2 ^ 31 by omega) (by decide) (by decide), dv, ei, hci, e18]
    have tail : ¬ nI (4 * g + P / 8) < 0 ∧ 4 * g + P / 8 < 64 ∧ DasksDriver (ab_up (ab_up (ab_up (ab_up (ab_up (ab_up m 0 37 (nI (v + 4))) 0 38 (nI (4 * (v + 4) + d))) 0 39 w) 0 36 (nI 2)) 0 40 (nI 20)) 0 41 (m 18 (4 * g + P / 8))) ∧ True := ⟨nI_pos (by omega), by omega, A2, trivial⟩
    refine ⟨hg, fun c => ⟨fun c2 => ?_, fun _ => tail⟩, fun _ => tail⟩
    have c' : P = S' := (nI_eq (by omega) (by omega)).mp c
    have c2' : P % 8 = 0 := by
      apply Classical.byContradiction
      intro z
      exact nI_ne0 (show 0 < P % 8 by omega) (by omega) c2
    exact absurd ⟨c', c2'⟩ nb
  rw [ex, em]
  exact ⟨dx, dm, A.2.2⟩
theorem write_store {x : xD} {m : mD} {v d g P : Nat} {w : Int32} (h : R3 x m) (ho : iOpe m) (hv : v < 8) (hd4 : d < 4) (hg : g < 16) (e14 : m 14 (4 * (v + 4) + d) = nI g) (t1 : m 16 g = 1) (hP : P < 32) (e15 : m 15 (4 * (v + 4) + d) = nI P) (e17 : m 17 g = nI P) (h8 : P % 8 = 0) (h35 : m 0 35 = 0) (h5 : m 5 2 = -1) (htl : ¬ m 0 34 = 0) (hd : m 0 23 = 0 ∨ m 0 23 = 1) : DX3_write (nI (v + 4)) (nI d) w x ∧ Dwrites (v + 4) (4 * (v + 4) + d) g w m ∧ R3 (FX3_write (nI (v + 4)) (nI d) w x) (Fwrites (v + 4) (4 * (v + 4) + d) g w m) := by
  obtain ⟨a1, a2, a3, a4, a5, a6⟩ := at_open h ho hv hd4 hg e14
  rw [e15] at a6
  have hc : (nI g).toNatClampNeg = g := nI_clamp (by omega)
  obtain ⟨u1, u2⟩ := (rTab_of h).2.1 g hg t1
  have h349 : ¬ x.1 349 g = 0 := by rw [(rTab_of h).1 g hg, t1]; decide
  obtain ⟨y1, y2⟩ := why_of (P := P) (S := P) hg (by omega) (by omega) h349 (u1.trans e17)
  rw [if_pos hP, if_pos ⟨rfl, h8⟩] at y1
  obtain ⟨z1, z2⟩ := needs_of (x := FX3_takeInHand (nI (v + 4)) (nI d) (nI 0) w x) (P := P) (S := P) hg (by omega) (by omega) h349 (u1.trans e17)
  rw [if_pos ⟨rfl, h8⟩] at z1
  have n32 : ¬ nI P = nI 32 := fun z => by have := (nI_eq (by omega) (by decide)).mp z; omega
  have m17 : ab_up (ab_up (ab_up m 0 37 (nI (v + 4))) 0 38 (nI (4 * (v + 4) + d))) 0 39 w 17 g = nI P := by rw [ab_up_ne (by decide), ab_up_ne (by decide), ab_up_ne (by decide), e17]
  have r0 : nI P - nI P / nI 8 * nI 8 = 0 := by rw [pk_rem (show P < 2 ^ 31 by omega) (by decide) (by decide), h8]; exact nI00
  obtain ⟨f, hf, f1, f2⟩ := first_ex (fun j => m 19 j = 0) 24
  have t5 := (rTab_of h).2.2.2.2
  have hth : DX3_takeInHand (nI (v + 4)) (nI d) (nI 0) w x := ⟨Or.inl nI00, trivial⟩
  have m19 : ∀ j, ab_up (ab_up (ab_up m 0 37 (nI (v + 4))) 0 38 (nI (4 * (v + 4) + d))) 0 39 w 19 j = m 19 j := fun j => by rw [ab_up_ne (by decide), ab_up_ne (by decide), ab_up_ne (by decide)]
  have em0 : Fwrites (v + 4) (4 * (v + 4) + d) g w m = Fwrites_62 25 (v + 4) (4 * (v + 4) + d) g w (nI P) 0 (ab_up (ab_up (ab_up m 0 37 (nI (v + 4))) 0 38 (nI (4 * (v + 4) + d))) 0 39 w) := by
    rw [Fwrites, e15, if_neg n32]
    dsimp only
    rw [m17, if_pos rfl, if_pos r0]
  have dm0 : Dwrites_62 25 (v + 4) (4 * (v + 4) + d) g w (nI P) 0 (ab_up (ab_up (ab_up m 0 37 (nI (v + 4))) 0 38 (nI (4 * (v + 4) + d))) 0 39 w) → Dwrites (v + 4) (4 * (v + 4) + d) g w m := fun D => by
    rw [Dwrites, e15]
    refine ⟨by omega, fun z => absurd z n32, fun _ => ?_⟩
    dsimp only
    rw [m17]
    exact ⟨hg, fun _ => ⟨fun _ => D, fun z => absurd r0 z⟩, fun z => absurd rfl z⟩
  by_cases hf24 : f < 24
  · have hpos : 0 < cnt (fun i => decide (m 19 i = 0)) 24 := cnt_pos (f := f) (by show decide (m 19 f = 0) = true; rw [f2 hf24]; decide) 24 hf24
    have n5 : ¬ x.1 348 5 = 0 := by rw [t5]; exact nI_ne0 hpos (by have := cnt_le (fun i => decide (m 19 i = 0)) 24; omega)
    rw [if_neg n5] at y1
    have H0 := hand0 (u := nI (v + 4)) (e := nI d) (r := nI 0) (w := w) (a := nI (v + 4)) (b := nI (4 * (v + 4) + d)) (c := w) h h35
    obtain ⟨k1, k2⟩ := takeB_l (P := P) H0 hg hP hf (fun j hj => by rw [m19]; exact f1 j hj) (fun hj => by rw [m19]; exact f2 hj) 25 0 (by omega) (by omega)
    rw [if_pos hf24] at k1
    have B := takeB_rel (P := P) H0 hg hP hf24 (by rw [m19]; exact f2 hf24)
    have N := nums_rel (G := gW w) (k := nI f) B (by rw [ab_up_ne (by decide), ab_up_ne (by decide), ab_up_nj (by decide), ab_up_nj (by decide), ab_up_nj (by decide)]; exact h35)
    have h5' : (fil (ab_up (ab_up (ab_up (ab_up (ab_up m 0 37 (nI (v + 4))) 0 38 (nI (4 * (v + 4) + d))) 0 39 w) 19 f (nI 1)) 18 (4 * g + P / 8) (nI f)) 22 0 8 (gW w)) 5 2 = -1 := h5
    have htl' : ¬ (fil (ab_up (ab_up (ab_up (ab_up (ab_up m 0 37 (nI (v + 4))) 0 38 (nI (4 * (v + 4) + d))) 0 39 w) 19 f (nI 1)) 18 (4 * g + P / 8) (nI f)) 22 0 8 (gW w)) 0 34 = 0 := htl
    have hd' : (fil (ab_up (ab_up (ab_up (ab_up (ab_up m 0 37 (nI (v + 4))) 0 38 (nI (4 * (v + 4) + d))) 0 39 w) 19 f (nI 1)) 18 (4 * g + P / 8) (nI f)) 22 0 8 (gW w)) 0 23 = 0 ∨ (fil (ab_up (ab_up (ab_up (ab_up (ab_up m 0 37 (nI (v + 4))) 0 38 (nI (4 * (v + 4) + d))) 0 39 w) 19 f (nI 1)) 18 (4 * g + P / 8) (nI f)) 22 0 8 (gW w)) 0 23 = 1 := hd
    have A := hand_ask (v := v) (d := d) (r := nI 0) (w := w) (w' := w) (st := nI 3) (k := nI 21) (b := nI f) N hv hd4 (by decide) (fun _ => rfl) (Or.inr ⟨rfl, fun i hi => by
      show fil _ 356 0 8 (gW w) 356 i = fil _ 22 0 8 (gW w) 22 i
      rw [fil_in (by omega) (by omega), fil_in (by omega) (by omega)]⟩) h5' htl' hd'
    generalize hzx : FX3_takeInHand (nI (v + 4)) (nI d) (nI 0) w x = z9 at *
    have eX : xHand (nI (v + 4)) (nI d) (nI 0) w (nI f) (fil (ab_up (xTB g P f z9.1) 347 10 (nI f)) 356 0 8 (gW w)) = fil (ab_up (xTB g P f z9.1) 347 10 (nI f)) 356 0 8 (gW w) := by
      subst hzx
      have q6 : (fil (ab_up (xTB g P f (FX3_takeInHand (nI (v + 4)) (nI d) (nI 0) w x).1) 347 10 (nI f)) 356 0 8 (gW w)) 347 6 = nI (v + 4) := rfl
      have q7 : (fil (ab_up (xTB g P f (FX3_takeInHand (nI (v + 4)) (nI d) (nI 0) w x).1) 347 10 (nI f)) 356 0 8 (gW w)) 347 7 = nI d := rfl
      have q5 : (fil (ab_up (xTB g P f (FX3_takeInHand (nI (v + 4)) (nI d) (nI 0) w x).1) 347 10 (nI f)) 356 0 8 (gW w)) 347 5 = nI 0 := rfl
      have q8 : (fil (ab_up (xTB g P f (FX3_takeInHand (nI (v + 4)) (nI d) (nI 0) w x).1) 347 10 (nI f)) 356 0 8 (gW w)) 347 8 = w := rfl
      have q10 : (fil (ab_up (xTB g P f (FX3_takeInHand (nI (v + 4)) (nI d) (nI 0) w x).1) 347 10 (nI f)) 356 0 8 (gW w)) 347 10 = nI f := rfl
      rw [xHand, ab_up_self q6, ab_up_self q7, ab_up_self q5, ab_up_self q8, ab_up_self q10]
    rw [eX] at A
    have eM : mHand (nI (v + 4)) (nI (4 * (v + 4) + d)) w (nI 3) (nI 21) (nI f) (fil (ab_up (ab_up (ab_up (ab_up (ab_up m 0 37 (nI (v + 4))) 0 38 (nI (4 * (v + 4) + d))) 0 39 w) 19 f (nI 1)) 18 (4 * g + P / 8) (nI f)) 22 0 8 (gW w)) = mSt g P (fil (ab_up (ab_up (ab_up (ab_up (ab_up m 0 37 (nI (v + 4))) 0 38 (nI (4 * (v + 4) + d))) 0 39 w) 19 f (nI 1)) 18 (4 * g + P / 8) (nI f)) 22 0 8 (gW w)) := by
      have q37 : (fil (ab_up (ab_up (ab_up (ab_up (ab_up m 0 37 (nI (v + 4))) 0 38 (nI (4 * (v + 4) + d))) 0 39 w) 19 f (nI 1)) 18 (4 * g + P / 8) (nI f)) 22 0 8 (gW w)) 0 37 = nI (v + 4) := rfl
      have q38 : (fil (ab_up (ab_up (ab_up (ab_up (ab_up m 0 37 (nI (v + 4))) 0 38 (nI (4 * (v + 4) + d))) 0 39 w) 19 f (nI 1)) 18 (4 * g + P / 8) (nI f)) 22 0 8 (gW w)) 0 38 = nI (4 * (v + 4) + d) := rfl
      have q39 : (fil (ab_up (ab_up (ab_up (ab_up (ab_up m 0 37 (nI (v + 4))) 0 38 (nI (4 * (v + 4) + d))) 0 39 w) 19 f (nI 1)) 18 (4 * g + P / 8) (nI f)) 22 0 8 (gW w)) 0 39 = w := rfl
      have q18 : (fil (ab_up (ab_up (ab_up (ab_up (ab_up m 0 37 (nI (v + 4))) 0 38 (nI (4 * (v + 4) + d))) 0 39 w) 19 f (nI 1)) 18 (4 * g + P / 8) (nI f)) 22 0 8 (gW w)) 18 (4 * g + P / 8) = nI f := by rw [fil_q (by decide), ab_up_eq]
      rw [mHand, mSt, ab_up_self q37, ab_up_self q38, ab_up_self q39, q18]
    rw [eM] at A
    obtain ⟨l1, l2⟩ := FX3_write_117_l (c := ab_up (xTB g P f z9.1) 347 10 (nI f)) (r := z9.2) (u := nI (v + 4)) (e := nI d) A.1 9 0 (by omega) (by omega)
    rw [fil_0] at l1 l2
    obtain ⟨o1, o2⟩ := Fwrites_128_l (u := v + 4) (s := 4 * (v + 4) + d) hg hP A.2.1 25 0 (by omega) (by omega)
    rw [fil_0] at o1 o2
    obtain ⟨p1, p2⟩ := Fwrites_62_l (u := v + 4) (s := 4 * (v + 4) + d) (w := w) hg hP hf (fun j hj => by rw [m19]; exact f1 j hj) (fun hj => by rw [m19]; exact f2 hj) (fun _ => o2) (fun z => absurd hf24 z) 25 0 (by omega) (by omega)
    rw [if_pos hf24, o1] at p1
    have hz9 : ¬ z9.1 349 g = 0 := by subst hzx; exact h349
    obtain ⟨hh1, hh2⟩ := has_of hg hz9
    have tb : FX4_takeBlock (nI g) (nI P) z9 = (nI f, (xTB g P f z9.1, z9.2)) ∧ DX4_takeBlock (nI g) (nI P) z9 := by
      have c0 : ¬ nI P < 0 := nI_pos (by omega)
      have c32 : nI P < nI 32 := nI_lt hP (by decide)
      rw [FX4_takeBlock, DX4_takeBlock, if_neg hh1, if_neg c0, if_pos c32, k1]
      exact ⟨rfl, hh2, fun z => absurd z hh1, fun _ => ⟨fun z => absurd z c0, fun _ => ⟨fun _ => k2, fun z => absurd c32 z⟩⟩⟩
    have ex : FX3_write (nI (v + 4)) (nI d) w x = FX3_ask (nI 21) (fil (ab_up (xTB g P f z9.1) 347 10 (nI f)) 356 0 8 (gW w), z9.2) := by
      rw [FX3_write, a4, a6, y1, if_pos nI00]
      dsimp only
      rw [hzx, z1, if_neg nI10, tb.1]
      exact l1
    have dx : DX3_write (nI (v + 4)) (nI d) w x := by
      rw [DX3_write, a4, a6, y1]
      dsimp only
      rw [hzx, z1, tb.1]
      exact ⟨a2, a3, y2, fun _ => ⟨hth, z2, fun z => absurd z nI10, fun _ => ⟨tb.2, l2⟩⟩, fun z => absurd nI00 z⟩
    rw [ex, em0, p1]
    exact ⟨dx, dm0 p2, A.2.2⟩
  · have hz0 : cnt (fun i => decide (m 19 i = 0)) 24 = 0 := cnt_0 24 (fun i hi => decide_eq_false (f1 i (by omega)))
    have n5 : x.1 348 5 = 0 := by rw [t5, hz0]; exact nI00
    rw [if_pos n5] at y1
    have n6 : ¬ (-6 : Int32) = 0 := by decide
    have H0 := hand_m (a := nI (v + 4)) (b := nI (4 * (v + 4) + d)) (c := w) h h35
    obtain ⟨q1, q2, q3, -⟩ := tells_rel (f := 2) (u := v + 4) (v := -6) H0 (by decide) (by omega) (by omega) hd h5 htl
    obtain ⟨p1, p2⟩ := Fwrites_62_l (u := v + 4) (s := 4 * (v + 4) + d) (w := w) (m := ab_up (ab_up (ab_up m 0 37 (nI (v + 4))) 0 38 (nI (4 * (v + 4) + d))) 0 39 w) hg hP hf (fun j hj => by rw [m19]; exact f1 j hj) (fun hj => by rw [m19]; exact f2 hj) (fun z => absurd z hf24) (fun _ => q2) 25 0 (by omega) (by omega)
    rw [if_neg hf24] at p1
    rw [em0, p1, FX3_write, DX3_write, a4, a6, y1, if_neg n6]
    exact ⟨⟨a2, a3, y2, fun z => absurd z n6, fun _ => ⟨q1, trivial⟩⟩, dm0 p2, q3⟩
theorem write_open {x : xD} {m : mD} {v d g : Nat} {w : Int32} (h : R3 x m) (ho : iOpe m) (hT : iOpT m) (hz : iSiz m) (hn : no22 m) (hv : v < 8) (hd4 : d < 4) (hg : g < 16) (e14 : m 14 (4 * (v + 4) + d) = nI g) (h35 : m 0 35 = 0) (h5 : m 5 2 = -1) (htl : ¬ m 0 34 = 0) (hd : m 0 23 = 0 ∨ m 0 23 = 1) : DX3_write (nI (v + 4)) (nI d) w x ∧ Dwrites (v + 4) (4 * (v + 4) + d) g w m ∧ R3 (FX3_write (nI (v + 4)) (nI d) w x) (Fwrites (v + 4) (4 * (v + 4) + d) g w m) := by
  obtain ⟨t1, P, S, hPS, hS, e15, e17⟩ := hT v d g hv hd4 hg e14
  by_cases c : P < 32
  · by_cases nb : P = S ∧ P % 8 = 0
    · obtain ⟨rfl, h8⟩ := nb
      exact write_store h ho hv hd4 hg e14 t1 c e15 e17 h8 h35 h5 htl hd
    · exact write_fetch h ho hz hn hv hd4 hg e14 t1 hPS hS c e15 e17 nb h5 htl hd
  · have e1 : P = 32 := by omega
    have e2 : S = 32 := by omega
    subst e1 e2
    exact write_lim h ho hv hd4 hg e14 t1 e15 e17 h5 htl hd
