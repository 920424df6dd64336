/-! count of the face -/
theorem nI_inc (n : Nat) : nI n + nI 1 = nI (n + 1) := (Int32.ofNat_add n 1).symm
theorem nI_inc0 (a : Int32) : a + nI 0 = a := by show a + 0 = a; exact Int32.add_zero a
def cEnd (w a2 a3 : Int32) (m : mD) : Int32 × mD := Fcount_43 1 w a2 a3 12 m
theorem live_user {x : xD} {m : mD} {k : Nat} (h : RM x m) (hk : k < 12) (h4 : 4 ≤ k) : (x.1 3 k = 0 ↔ ¬ m 7 k = nI 1) := by
  have hu : ¬ FisUser (nI k) = 0 := fun z => by have := (isUser_z k hk).mp z; omega
  rw [h.2.2.1 k hk, Flives, if_neg (by omega), if_neg hu]
  by_cases c : m 7 k = nI 1
  · rw [if_pos c]
    exact ⟨fun z => absurd z nI10, fun z => absurd c z⟩
  · rw [if_neg c]
    exact ⟨fun _ => c, fun _ => nI00⟩
theorem Fcount_43_end {n : Nat} {w a2 a3 : Int32} {m : mD} : Fcount_43 (n + 1) w a2 a3 12 m = cEnd w a2 a3 m := by
  rw [cEnd, Fcount_43, Fcount_43, if_pos (Nat.le_refl 12), if_pos (Nat.le_refl 12)]
theorem count_43 {x : xD} {m : mD} {w a2 : Int32} (h : RM x m) (hE : ∀ a, Dcount_43 1 w a2 a 12 m) : ∀ (n n' k : Nat) (a3 : Int32), 4 ≤ k → k ≤ 12 → 12 - k < n → 12 - k < n' → Fcount_43 n w a2 a3 k m = cEnd w a2 (FX1_livingUsers_4 n' a3 k x) m ∧ Dcount_43 n w a2 a3 k m ∧ DX1_livingUsers_4 n' a3 k x := by
  intro n
  induction n with
  | zero => intro n' k a3 _ _ h; omega
  | succ n ih =>
    intro n' k a3 h4 hk hn hn'
    obtain ⟨q, rfl⟩ : ∃ q, n' = q + 1 := ⟨n' - 1, by omega⟩
    by_cases e : k = 12
    · subst e
      rw [Fcount_43_end, FX1_livingUsers_4, if_pos (by decide)]
      have hE := (hE a3).2.1 (by decide)
      exact ⟨rfl, ⟨by decide, fun _ => hE, fun z => absurd (by decide) z⟩, ⟨by decide, fun _ => trivial, fun z => absurd (by decide) z⟩⟩
    · have e2 : ¬ 12 ≤ k := by omega
      have hl := live_user h (by omega : k < 12) h4
      obtain ⟨i1, i2, i3⟩ := ih q (k + 1) (a3 + nI 1) (by omega) (by omega) (by omega) (by omega)
      obtain ⟨j1, j2, j3⟩ := ih q (k + 1) (a3 + nI 0) (by omega) (by omega) (by omega) (by omega)
      rw [Fcount_43, FX1_livingUsers_4, if_neg e2, if_neg e2]
      refine ⟨?_, ⟨by omega, fun z => absurd z e2, fun _ => ⟨by omega, fun _ => i2, fun _ => j2⟩⟩, ⟨by omega, fun z => absurd z e2, fun _ => ⟨by omega, fun _ => j3, fun _ => i3⟩⟩⟩
      by_cases c : m 7 k = nI 1
      · rw [if_pos c, if_neg (fun z => hl.mp z c)]
        exact i1
      · rw [if_neg c, if_pos (hl.mpr c)]
        exact j1
theorem count_9 {m : mD} {w : Int32} (hE : Dcount_43 25 w (nI (cnt (fun i => decide (m 19 i = 0)) 24)) (nI 0) 4 m) : ∀ (n k : Nat), k ≤ 24 → 24 - k < n → Fcount_9 n w (nI (cnt (fun i => decide (m 19 i = 0)) k)) k m = Fcount_43 25 w (nI (cnt (fun i => decide (m 19 i = 0)) 24)) (nI 0) 4 m ∧ Dcount_9 n w (nI (cnt (fun i => decide (m 19 i = 0)) k)) k m := by
  intro n
  induction n with
  | zero => intro k _ h; omega
  | succ n ih =>
    intro k hk hn
    by_cases e : k = 24
    · subst e
      rw [Fcount_9, if_pos (by decide)]
      exact ⟨rfl, by decide, fun _ => hE, fun z => absurd (by decide) z⟩
    · have e2 : ¬ 24 ≤ k := by omega
      obtain ⟨i1, i2⟩ := ih (k + 1) (by omega) (by omega)
      rw [cnt] at i1 i2
      rw [Fcount_9, Dcount_9, if_neg e2]
      by_cases c : m 19 k = 0
      · rw [if_pos (by simp [c]), ← nI_inc] at i1 i2
        rw [if_pos c]
        exact ⟨i1, by omega, fun z => absurd z e2, fun _ => ⟨by omega, fun _ => i2, fun z => absurd c z⟩⟩
      · rw [if_neg (by simp [c]), Nat.add_zero] at i1 i2
        rw [if_neg c, nI_inc0]
        exact ⟨i1, by omega, fun z => absurd z e2, fun _ => ⟨by omega, fun z => absurd z c, fun _ => i2⟩⟩
theorem files_4 {m : mD} (hi : iThe m) : ∀ (n k : Nat), k ≤ 16 → 16 - k < n → FfilesThere_4 n (nI (cnt (fun i => decide (m 16 i = 1)) k)) k m = nI (cnt (fun i => decide (m 16 i = 1)) 16) ∧ DfilesThere_4 n (nI (cnt (fun i => decide (m 16 i = 1)) k)) k m := by
  intro n
  induction n with
  | zero => intro k _ h; omega
  | succ n ih =>
    intro k hk hn
    by_cases e : k = 16
    · subst e
      rw [FfilesThere_4, if_pos (by decide)]
      exact ⟨rfl, by decide, fun _ => trivial, fun z => absurd (by decide) z⟩
    · have e2 : ¬ 16 ≤ k := by omega
      obtain ⟨i1, i2⟩ := ih (k + 1) (by omega) (by omega)
      rw [cnt] at i1 i2
      rw [FfilesThere_4, DfilesThere_4, if_neg e2]
      rcases hi k (by omega) with c | c
      · rw [if_neg (by rw [c]; decide), Nat.add_zero] at i1 i2
        rw [if_pos c, nI_inc0]
        exact ⟨i1, by omega, fun z => absurd z e2, fun _ => ⟨by omega, fun _ => i2, fun z => absurd c z⟩⟩
      · have c0 : ¬ m 16 k = 0 := by rw [c]; decide
        rw [if_pos (by rw [c]; decide), ← nI_inc] at i1 i2
        rw [if_neg c0]
        exact ⟨i1, by omega, fun z => absurd z e2, fun _ => ⟨by omega, fun z => absurd z c0, fun _ => i2⟩⟩
/-- the numbers that count needs: whose turn, the job's kind -/
def iCou (m : mD) : Prop := (∃ k, k < 12 ∧ m 0 48 = nI k) ∧ (m 0 27 = 0 ∨ m 0 27 = 20 ∨ m 0 27 = 21)
theorem cEnd_2 {w a b : Int32} {m : mD} : (cEnd w a b m).2 = m := by
  rw [cEnd, Fcount_43, if_pos (Nat.le_refl 12)]
  simp only [apply_ite Prod.snd, ite_self]
theorem count_rel {x : xD} {m : mD} {w : Int32} (h : R3 x m) (hi : iThe m) (hc : iCou m) : DX10_count w x ∧ Dcount w m ∧ (FX10_count w x).1 = (Fcount w m).1 ∧ R3 (FX10_count w x).2 (Fcount w m).2 := by
  have ht : R3 x (ab_up m 0 0 (nI 0)) := h.thr
  have hi' : iThe (ab_up m 0 0 (nI 0)) := hi
  have hc' : iCou (ab_up m 0 0 (nI 0)) := hc
  rw [Fcount, Dcount]
  clear h hi hc
  generalize ab_up m 0 0 (nI 0) = n at *
  obtain ⟨⟨k, hk, ek⟩, hj⟩ := hc'
  have hck : (nI k).toNatClampNeg = k := nI_clamp (by omega)
  obtain ⟨f1, f2⟩ := files_4 hi' 17 0 (by decide) (by decide)
  have f1 : FfilesThere n = nI (cnt (fun i => decide (n 16 i = 1)) 16) := f1
  have f2 : DfilesThere n := f2
  have hE : ∀ a2 a, Dcount_43 1 w a2 a 12 n := fun a2 a => ⟨by decide, fun _ => ⟨fun _ => trivial, fun _ => ⟨by rw [ek]; exact nI_pos (by omega), trivial⟩, fun _ => trivial, fun _ => trivial, fun _ => trivial, fun _ => trivial, fun _ => trivial, fun _ => trivial, fun _ => trivial, fun _ => trivial, fun _ => ⟨f2, trivial⟩, fun _ => trivial, fun _ => trivial, fun _ => trivial, fun _ => trivial⟩, fun z => absurd (by decide) z⟩
  obtain ⟨g1, g2, g3⟩ := count_43 (w := w) (a2 := nI (cnt (fun i => decide (n 19 i = 0)) 24)) ht.1 (hE _) 25 9 4 (nI 0) (by decide) (by decide) (by decide) (by decide)
  obtain ⟨k1, k2⟩ := count_9 g2 25 0 (by decide) (by decide)
  have k1 : Fcount_9 25 w (nI 0) 0 n = _ := k1
  have k2 : Dcount_9 25 w (nI 0) 0 n := k2
  rw [k1, g1, cEnd_2]
  have ex2 : (FX10_count w x).2 = x := by
    rw [FX10_count]
    simp only [apply_ite Prod.snd, ite_self]
  rw [ex2]
  refine ⟨⟨fun _ => trivial, fun _ => trivial, fun _ => trivial, fun _ => trivial, fun _ => trivial, fun _ => trivial, fun _ => trivial, fun _ => trivial, fun _ => trivial, fun _ => trivial, fun _ => trivial, fun _ => trivial, fun _ => ⟨g3, trivial⟩, fun _ => trivial, fun _ => trivial⟩, k2, ?_, ht⟩
  obtain ⟨⟨-, -, l3, l4, l5, l6⟩, -, ⟨h1, h2, h3⟩, -, ⟨d1, d2, d3, -⟩, ⟨-, -, -, t4, t5⟩, -, ⟨p1, -⟩, ⟨-, q1, -⟩, -⟩ := ht
  have l3 : x.1 3 1 = n 0 23 := l3 1 (by decide)
  have h1 : x.1 0 6 = n 0 47 := h1
  have h2 : x.1 0 7 = n 0 48 := h2
  have h3 : x.1 0 8 = n 0 30 := h3
  have d1 : x.1 344 2 = n 0 24 := d1
  have d2 : x.1 344 3 = n 0 26 := d2
  have d3 : x.1 344 4 = (if n 0 27 = 0 then -1 else n 0 27) := d3
  have t4 : x.1 348 4 = nI (cnt (fun i => decide (n 16 i = 1)) 16) := t4
  have t5 : x.1 348 5 = nI (cnt (fun i => decide (n 19 i = 0)) 24) := t5
  have p1 : x.1 347 2 = n 0 35 := p1
  have q1 : x.1 357 4 = n 0 43 := q1
  have j5 : (x.1 344 4 = -1 ↔ n 0 27 ≤ 0) := by
    rw [d3]
    rcases hj with e | e | e <;> rw [e] <;> decide
  rw [cEnd, Fcount_43, if_pos (Nat.le_refl 12), FX10_count, FX1_livingUsers, h1, h2, h3, l3, l4, l5, l6, d1, d2, t4, t5, p1, q1, f1, ek, hck]
  simp only [j5, apply_ite Prod.fst]
