/-! FILES, XII: what it takes -/
def Ffgo (z7 : mD) : mD :=
  if (z7 6 1) = 0 then
    z7
  else if (z7 6 1) = 22 then
    if (z7 0 35) = 0 then
      z7
    else
      let z9 := FgoesOn  z7
      z9
  else if (z7 6 1) = 30 then
    let z13 := Fcopies ((z7 6 2).toNatClampNeg) ((z7 6 3).toNatClampNeg) z7
    let z15 := Fdrafts (nI (32)) (nI (0)) (nI (0)) z13
    let z17 := Fsends 2 3 z15
    z17
  else if (z7 6 1) = 31 then
    let z20 := FclosesAll ((z7 6 2).toNatClampNeg) z7
    let z22 := Fdrafts (nI (32)) (nI (0)) (nI (0)) z20
    let z24 := Fsends 2 3 z22
    z24
  else if (z7 6 1) = 42 then
    let m25 := ab_up z7 0 34 (z7 6 2)
    if (m25 0 35) = 0 then
      m25
    else
      let z27 := FasksDriver  m25
      z27
  else
    let z30 := Fbegins ((z7 6 0).toNatClampNeg) (z7 6 1) (z7 6 2) (z7 6 3) z7
    z30
def Dfgo (z7 : mD) : Prop :=
  ((z7 6 1) = 0 →
    True) ∧
  ((z7 6 1) = 22 →
    (((z7 0 35) = 0) →
      True) ∧
    (¬ ((z7 0 35) = 0) →
      (DgoesOn  z7) ∧
      let z9 := FgoesOn  z7
      True)) ∧
  ((z7 6 1) = 30 →
    (¬ (z7 6 2) < 0) ∧
    (¬ (z7 6 3) < 0) ∧
    (Dcopies ((z7 6 2).toNatClampNeg) ((z7 6 3).toNatClampNeg) z7) ∧
    let z13 := Fcopies ((z7 6 2).toNatClampNeg) ((z7 6 3).toNatClampNeg) z7
    (Ddrafts (nI (32)) (nI (0)) (nI (0)) z13) ∧
    let z15 := Fdrafts (nI (32)) (nI (0)) (nI (0)) z13
    (Dsends 2 3 z15) ∧
    let z17 := Fsends 2 3 z15
    True) ∧
  ((z7 6 1) = 31 →
    (¬ (z7 6 2) < 0) ∧
    (DclosesAll ((z7 6 2).toNatClampNeg) z7) ∧
    let z20 := FclosesAll ((z7 6 2).toNatClampNeg) z7
    (Ddrafts (nI (32)) (nI (0)) (nI (0)) z20) ∧
    let z22 := Fdrafts (nI (32)) (nI (0)) (nI (0)) z20
    (Dsends 2 3 z22) ∧
    let z24 := Fsends 2 3 z22
    True) ∧
  ((z7 6 1) = 42 →
    let m25 := ab_up z7 0 34 (z7 6 2)
    (((m25 0 35) = 0) →
      True) ∧
    (¬ ((m25 0 35) = 0) →
      (DasksDriver  m25) ∧
      let z27 := FasksDriver  m25
      True)) ∧
  ((∀ c ∈ ([(0, 136), (22, 137), (30, 171), (31, 202), (42, 149)] : List (Int32 × Nat)), ¬ (z7 6 1) = c.1) →
    (¬ (z7 6 0) < 0) ∧
    (Dbegins ((z7 6 0).toNatClampNeg) (z7 6 1) (z7 6 2) (z7 6 3) z7) ∧
    let z30 := Fbegins ((z7 6 0).toNatClampNeg) (z7 6 1) (z7 6 2) (z7 6 3) z7
    True)
def FXfgo (w4 : Nat) (z3 : Option Nat × xD) : xD :=
      if (z3.2.1 w4 2) = 1 then
        let z8 := FX3_openFile (z3.2.1 w4 1) (z3.2.1 w4 3) z3.2
        let z11 := FX1_send (nI (2)) (z3.2.1 w4 1) (nI (50)) (z8.1) (nI (0)) z8.2
        z11
      else if (z3.2.1 w4 2) = 2 then
        let z14 := FX3_handle (z3.2.1 w4 1) (z3.2.1 w4 2) (z3.2.1 w4 3) (z3.2.1 w4 4) z3.2
        let z17 := FX1_send (nI (2)) (z3.2.1 w4 1) (nI (50)) (z14.1) (nI (0)) z14.2
        z17
      else if (z3.2.1 w4 2) = 3 then
        let z20 := FX3_read (z3.2.1 w4 1) (z3.2.1 w4 3) z3.2
        z20
      else if (z3.2.1 w4 2) = 4 then
        let z23 := FX3_write (z3.2.1 w4 1) (z3.2.1 w4 3) (z3.2.1 w4 4) z3.2
        z23
      else if (z3.2.1 w4 2) = 5 then
        let z26 := FX3_handle (z3.2.1 w4 1) (z3.2.1 w4 2) (z3.2.1 w4 3) (z3.2.1 w4 4) z3.2
        let z29 := FX1_send (nI (2)) (z3.2.1 w4 1) (nI (50)) (z26.1) (nI (0)) z26.2
        z29
      else if (z3.2.1 w4 2) = 6 then
        let z32 := FX3_removeFile (z3.2.1 w4 3) z3.2
        let z35 := FX1_send (nI (2)) (z3.2.1 w4 1) (nI (50)) (z32.1) (nI (0)) z32.2
        z35
      else if (z3.2.1 w4 2) = 7 then
        let z38 := FX3_handle (z3.2.1 w4 1) (z3.2.1 w4 2) (z3.2.1 w4 3) (z3.2.1 w4 4) z3.2
        let z41 := FX1_send (nI (2)) (z3.2.1 w4 1) (nI (50)) (z38.1) (nI (0)) z38.2
        z41
      else if (z3.2.1 w4 2) = 22 then
        let z44 := FX3_goOn (w4 + 1) z3.2
        z44
      else if (z3.2.1 w4 2) = 30 then
        let z47 := FX7_copyAll (z3.2.1 w4 3) (z3.2.1 w4 4) z3.2
        let z50 := FX1_send (nI (2)) (nI (3)) (nI (32)) (nI (0)) (nI (0)) z47
        z50
      else if (z3.2.1 w4 2) = 31 then
        let z53 := FX7_closeAll (z3.2.1 w4 3) z3.2
        let z56 := FX1_send (nI (2)) (nI (3)) (nI (32)) (nI (0)) (nI (0)) z53
        z56
      else if (z3.2.1 w4 2) = 42 then
        let z59 := FX3_hearOfLife (z3.2.1 w4 3) z3.2
        z59
      else
        z3.2
def DXfgo (w4 : Nat) (z3 : Option Nat × xD) : Prop :=
      (isX w4 6) ∧
      ((z3.2.1 w4 2) = 1 →
        (DX3_openFile (z3.2.1 w4 1) (z3.2.1 w4 3) z3.2) ∧
        let z8 := FX3_openFile (z3.2.1 w4 1) (z3.2.1 w4 3) z3.2
        (DX1_send (nI (2)) (z3.2.1 w4 1) (nI (50)) (z8.1) (nI (0)) z8.2) ∧
        let z11 := FX1_send (nI (2)) (z3.2.1 w4 1) (nI (50)) (z8.1) (nI (0)) z8.2
        True) ∧
      ((z3.2.1 w4 2) = 2 →
        (DX3_handle (z3.2.1 w4 1) (z3.2.1 w4 2) (z3.2.1 w4 3) (z3.2.1 w4 4) z3.2) ∧
        let z14 := FX3_handle (z3.2.1 w4 1) (z3.2.1 w4 2) (z3.2.1 w4 3) (z3.2.1 w4 4) z3.2
        (DX1_send (nI (2)) (z3.2.1 w4 1) (nI (50)) (z14.1) (nI (0)) z14.2) ∧
        let z17 := FX1_send (nI (2)) (z3.2.1 w4 1) (nI (50)) (z14.1) (nI (0)) z14.2
        True) ∧
      ((z3.2.1 w4 2) = 3 →
        (DX3_read (z3.2.1 w4 1) (z3.2.1 w4 3) z3.2) ∧
        let z20 := FX3_read (z3.2.1 w4 1) (z3.2.1 w4 3) z3.2
        True) ∧
      ((z3.2.1 w4 2) = 4 →
        (DX3_write (z3.2.1 w4 1) (z3.2.1 w4 3) (z3.2.1 w4 4) z3.2) ∧
        let z23 := FX3_write (z3.2.1 w4 1) (z3.2.1 w4 3) (z3.2.1 w4 4) z3.2
        True) ∧
      ((z3.2.1 w4 2) = 5 →
        (DX3_handle (z3.2.1 w4 1) (z3.2.1 w4 2) (z3.2.1 w4 3) (z3.2.1 w4 4) z3.2) ∧
        let z26 := FX3_handle (z3.2.1 w4 1) (z3.2.1 w4 2) (z3.2.1 w4 3) (z3.2.1 w4 4) z3.2
        (DX1_send (nI (2)) (z3.2.1 w4 1) (nI (50)) (z26.1) (nI (0)) z26.2) ∧
        let z29 := FX1_send (nI (2)) (z3.2.1 w4 1) (nI (50)) (z26.1) (nI (0)) z26.2
        True) ∧
      ((z3.2.1 w4 2) = 6 →
        (DX3_removeFile (z3.2.1 w4 3) z3.2) ∧
        let z32 := FX3_removeFile (z3.2.1 w4 3) z3.2
        (DX1_send (nI (2)) (z3.2.1 w4 1) (nI (50)) (z32.1) (nI (0)) z32.2) ∧
        let z35 := FX1_send (nI (2)) (z3.2.1 w4 1) (nI (50)) (z32.1) (nI (0)) z32.2
        True) ∧
      ((z3.2.1 w4 2) = 7 →
        (DX3_handle (z3.2.1 w4 1) (z3.2.1 w4 2) (z3.2.1 w4 3) (z3.2.1 w4 4) z3.2) ∧
        let z38 := FX3_handle (z3.2.1 w4 1) (z3.2.1 w4 2) (z3.2.1 w4 3) (z3.2.1 w4 4) z3.2
        (DX1_send (nI (2)) (z3.2.1 w4 1) (nI (50)) (z38.1) (nI (0)) z38.2) ∧
        let z41 := FX1_send (nI (2)) (z3.2.1 w4 1) (nI (50)) (z38.1) (nI (0)) z38.2
        True) ∧
      ((z3.2.1 w4 2) = 22 →
        (DX3_goOn (w4 + 1) z3.2) ∧
        let z44 := FX3_goOn (w4 + 1) z3.2
        True) ∧
      ((z3.2.1 w4 2) = 30 →
        (DX7_copyAll (z3.2.1 w4 3) (z3.2.1 w4 4) z3.2) ∧
        let z47 := FX7_copyAll (z3.2.1 w4 3) (z3.2.1 w4 4) z3.2
        (DX1_send (nI (2)) (nI (3)) (nI (32)) (nI (0)) (nI (0)) z47) ∧
        let z50 := FX1_send (nI (2)) (nI (3)) (nI (32)) (nI (0)) (nI (0)) z47
        True) ∧
      ((z3.2.1 w4 2) = 31 →
        (DX7_closeAll (z3.2.1 w4 3) z3.2) ∧
        let z53 := FX7_closeAll (z3.2.1 w4 3) z3.2
        (DX1_send (nI (2)) (nI (3)) (nI (32)) (nI (0)) (nI (0)) z53) ∧
        let z56 := FX1_send (nI (2)) (nI (3)) (nI (32)) (nI (0)) (nI (0)) z53
        True) ∧
      ((z3.2.1 w4 2) = 42 →
        (DX3_hearOfLife (z3.2.1 w4 3) z3.2) ∧
        let z59 := FX3_hearOfLife (z3.2.1 w4 3) z3.2
        True) ∧
      ((∀ c ∈ ([(1, 220), (2, 382), (3, 270), (4, 286), (5, 382), (6, 247), (7, 382), (22, 306), (30, 330), (31, 358), (42, 318)] : List (Int32 × Nat)), ¬ (z3.2.1 w4 2) = c.1) →
        True)
theorem goOn_rel {x : xD} {m : mD} {w : Nat} (h : R3 x m) (hw : isX w 6) (he : eqM (m 0 40) x.1 w (m 6)) (k22 : m 6 1 = nI 22) (ho : iOpe m) (h35 : m 0 35 = 1) (hi : iWai m) (h5 : m 5 2 = -1) (htl : ¬ m 0 34 = 0) (hd : m 0 23 = 0 ∨ m 0 23 = 1) : DX3_goOn (w + 1) x ∧ DgoesOn m ∧ R3 (FX3_goOn (w + 1) x) (FgoesOn m) := by
  obtain ⟨v, d, g, P, S, B, hv, hd4, hg, hPS, hS, hP, hB, e37, e38, e14, t1, e15, e17, e41, e18, st⟩ := hi h35
  have b6' : x.1 347 2 = m 0 35 ∧ x.1 347 4 = m 0 34 ∧ (m 0 35 = 1 → x.1 347 6 = m 0 37 ∧ m 0 38 = nI 4 * m 0 37 + x.1 347 7 ∧ x.1 347 9 = m 0 40 ∧ x.1 347 10 = m 0 41 ∧ x.1 347 5 = (if m 0 36 = 1 then 1 else 0) ∧ (¬ m 0 36 = 1 → x.1 347 8 = m 0 39) ∧ (m 0 40 = 21 → ∀ i, i < 8 → x.1 356 i = m 22 i)) := h.2.2.2.2.2.2.2.1
  obtain ⟨c2, c4, c⟩ := b6'
  obtain ⟨c6, c7, c9, c10, c5, c8, -⟩ := c h35
  have c2 : ¬ x.1 347 2 = 0 := by rw [c2, h35]; decide
  have c6 : x.1 347 6 = nI (v + 4) := c6.trans e37
  have c7 : x.1 347 7 = nI d := by
    rw [e38, e37, ← slot_m v hv d hd4] at c7
    exact (add_cancel c7).symm
  have num : m 0 40 = nI 20 → ∀ i, i < 8 → x.1 (w + 1) i = m 6 (5 + i) := fun z => he.2.2.2.2.2 (Or.inr ⟨k22, z⟩)
  rcases st with ⟨s1, s2, s3⟩ | ⟨s1, s2⟩ | ⟨s1, s2⟩
  · exact goOn_1 h hw (num s2) ho hv hd4 hg hP e37 e38 e14 e15 s1 c2 (by rw [c5, if_pos (show m 0 36 = 1 from s1)]; decide) c6 c7 h5 htl hd
  · exact goOn_2 h hw (num s2) ho hv hd4 hg hP h35 e38 e14 e15 s1 c2 (by rw [c5, if_neg (by rw [s1]; decide)]) (c9.trans s2) c6 c7 h5 htl hd
  · exact goOn_3 h ho hv hd4 hg hP hS e37 e38 e14 t1 e15 e17 s1 c2 (by rw [c5, if_neg (by rw [s1]; decide)]) (by rw [c9, s2]; decide) c6 c7 h5 htl hd
/-- what a message of FILES' inbox may be: G its fields -/
def msgF (G : Nat → Int32) : Prop := ∃ s, s < 12 ∧ G 0 = nI s ∧ (G 1 = 0 ∨ (4 ≤ s ∧ (G 1 = nI 1 ∨ G 1 = nI 2 ∨ G 1 = nI 3 ∨ G 1 = nI 4 ∨ G 1 = nI 5 ∨ G 1 = nI 6 ∨ G 1 = nI 7)) ∨ G 1 = nI 22 ∨ (G 1 = nI 30 ∧ ∃ a b, a < 8 ∧ b < 8 ∧ G 2 = nI (a + 4) ∧ G 3 = nI (b + 4)) ∨ (G 1 = nI 31 ∧ ∃ a, a < 8 ∧ G 2 = nI (a + 4)) ∨ (G 1 = nI 42 ∧ ¬ G 2 = 0))
def iFls (m : mD) : Prop := iOpe m ∧ iOpT m ∧ iThe m ∧ iNoB m ∧ (∀ k, k < 16 → m 14 k = -1) ∧ rng18 m ∧ iSiz m ∧ iWai m ∧ (m 0 35 = 0 ∨ m 0 35 = 1) ∧ (m 0 35 = 0 → no22 m)
theorem fgo_rel {x : xD} {m : mD} {w : Nat} {o : Option Nat} (h : R3 x m) (hw : isX w 6) (he : eqM (m 0 40) x.1 w (m 6)) (hm : msgF (m 6)) (hc : (m 6 1 = nI 1 ∨ m 6 1 = nI 2 ∨ m 6 1 = nI 3 ∨ m 6 1 = nI 4 ∨ m 6 1 = nI 5 ∨ m 6 1 = nI 6 ∨ m 6 1 = nI 7) → m 0 35 = 0) (hi : iFls m) (h5 : m 5 2 = -1) (htl : ¬ m 0 34 = 0) (hd : m 0 23 = 0 ∨ m 0 23 = 1) : DXfgo w (o, x) ∧ Dfgo m ∧ R3 (FXfgo w (o, x)) (Ffgo m) := by
  obtain ⟨ho, hT, hth, hnb, hlo, hr, hz, hwa, hfl, hn22⟩ := hi
  have he0 := he
  obtain ⟨e1, e2, e3, e4, -, -⟩ := he
  obtain ⟨s, hs, es, hk⟩ := hm
  have hcs : (nI s).toNatClampNeg = s := nI_clamp (by omega)
  have ps : ¬ nI s < 0 := nI_pos (by omega)
  have e1 : x.1 w 1 = nI s := e1.trans es
  have c2 : x.1 347 2 = m 0 35 := h.2.2.2.2.2.2.2.1.1
  have S32 := fun (y : xD) (n : mD) (hh : R3 y n) (a1 : n 5 2 = -1) (a2 : ¬ n 0 34 = 0) (a3 : n 0 23 = 0 ∨ n 0 23 = 1) => sendR (f := 2) (t := 3) (k := nI 32) (a := nI 0) (b := nI 0) hh (by decide) (by decide) a3 (by decide) (by decide) a1 a2
  rw [DXfgo, Dfgo, FXfgo, Ffgo]
  dsimp only
  rw [e1, e2, e3, e4, es, hcs]
  have L : ∀ (D1 D2 : Prop) (R : Prop), D1 → D2 → R → D1 ∧ D2 ∧ R := fun _ _ _ a b c => ⟨a, b, c⟩
  rcases hk with k | ⟨s4, k⟩ | k | ⟨k, va, vb, hva, hvb, ea, eb⟩ | ⟨k, va, hva, ea⟩ | ⟨k, ea⟩
  · have ne : ∀ c : Int32, ¬ 0 = c → ¬ m 6 1 = c := fun c hc' z => hc' (k.symm.trans z)
    have nx1 := ne 1 (by decide)
    have nx2 := ne 2 (by decide)
    have nx3 := ne 3 (by decide)
    have nx4 := ne 4 (by decide)
    have nx5 := ne 5 (by decide)
    have nx6 := ne 6 (by decide)
    have nx7 := ne 7 (by decide)
    have nx22 := ne 22 (by decide)
    have nx30 := ne 30 (by decide)
    have nx31 := ne 31 (by decide)
    have nx42 := ne 42 (by decide)
    refine ⟨⟨hw, fun z => absurd z nx1, fun z => absurd z nx2, fun z => absurd z nx3, fun z => absurd z nx4, fun z => absurd z nx5, fun z => absurd z nx6, fun z => absurd z nx7, fun z => absurd z nx22, fun z => absurd z nx30, fun z => absurd z nx31, fun z => absurd z nx42, fun _ => trivial⟩, ⟨fun _ => trivial, fun z => absurd z nx22, fun z => absurd z nx30, fun z => absurd z nx31, fun z => absurd z nx42, fun z => absurd k (z (0, 136) (by decide))⟩, ?_⟩
    rw [if_neg nx1, if_neg nx2, if_neg nx3, if_neg nx4, if_neg nx5, if_neg nx6, if_neg nx7, if_neg nx22, if_neg nx30, if_neg nx31, if_neg nx42, if_pos k]
    exact h
  · obtain ⟨v, hv, rfl⟩ : ∃ v, v < 8 ∧ s = v + 4 := ⟨s - 4, by omega, by omega⟩
    have h35 := hc k
    have hn := hn22 h35
    have k0 : ¬ m 6 1 = 0 := by rcases k with z | z | z | z | z | z | z <;> rw [z] <;> decide
    have k22 : ¬ m 6 1 = 22 := by rcases k with z | z | z | z | z | z | z <;> rw [z] <;> decide
    have k30 : ¬ m 6 1 = 30 := by rcases k with z | z | z | z | z | z | z <;> rw [z] <;> decide
    have k31 : ¬ m 6 1 = 31 := by rcases k with z | z | z | z | z | z | z <;> rw [z] <;> decide
    have k42 : ¬ m 6 1 = 42 := by rcases k with z | z | z | z | z | z | z <;> rw [z] <;> decide
    have O := begO (a := m 6 2) (b := m 6 3) h ho hth hnb hv h5 htl hd
    have Rd := begR (a := m 6 2) (b := m 6 3) h ho hT hz hn hv h5 htl hd
    have Wr := begW (a := m 6 2) (b := m 6 3) h ho hT hz hn hv h35 h5 htl hd
    have Rm := begD (a := m 6 2) (b := m 6 3) h hth hlo hr hz hv h35 h5 htl hd
    have H2 := handle_rel (k := nI 2) (a := m 6 2) (b := m 6 3) h ho hT hv (Or.inl rfl) h5 htl hd
    have H5 := handle_rel (k := nI 5) (a := m 6 2) (b := m 6 3) h ho hT hv (Or.inr (Or.inl rfl)) h5 htl hd
    have H7 := handle_rel (k := nI 7) (a := m 6 2) (b := m 6 3) h ho hT hv (Or.inr (Or.inr rfl)) h5 htl hd
    have DB : Dbegins (v + 4) (m 6 1) (m 6 2) (m 6 3) m := by
      rcases k with z | z | z | z | z | z | z <;> rw [z]
      · exact O.2.2.1
      · exact H2.2.2.1
      · exact Rd.2.1
      · exact Wr.2.1
      · exact H5.2.2.1
      · exact Rm.2.2.1
      · exact H7.2.2.1
    refine ⟨⟨hw, fun _ => ⟨O.1, O.2.1, trivial⟩, fun z => ?_, fun _ => ⟨Rd.1, trivial⟩, fun _ => ⟨Wr.1, trivial⟩, fun z => ?_, fun _ => ⟨Rm.1, Rm.2.1, trivial⟩, fun z => ?_, fun z => absurd z k22, fun z => absurd z k30, fun z => absurd z k31, fun z => absurd z k42, fun _ => trivial⟩, ⟨fun z => absurd z k0, fun z => absurd z k22, fun z => absurd z k30, fun z => absurd z k31, fun z => absurd z k42, fun _ => ⟨ps, DB, trivial⟩⟩, ?_⟩
    · rw [z]; exact ⟨H2.1, H2.2.1, trivial⟩
    · rw [z]; exact ⟨H5.1, H5.2.1, trivial⟩
    · rw [z]; exact ⟨H7.1, H7.2.1, trivial⟩
    · rw [if_neg k0, if_neg k22, if_neg k30, if_neg k31, if_neg k42, if_neg k22, if_neg k30, if_neg k31, if_neg k42]
      rcases k with z | z | z | z | z | z | z
      · rw [if_pos (show m 6 1 = 1 from z), z]; exact O.2.2.2
      · rw [if_neg (show ¬ m 6 1 = 1 by rw [z]; decide), if_pos (show m 6 1 = 2 from z), z]; exact H2.2.2.2
      · rw [if_neg (show ¬ m 6 1 = 1 by rw [z]; decide), if_neg (show ¬ m 6 1 = 2 by rw [z]; decide), if_pos (show m 6 1 = 3 from z), z]; exact Rd.2.2
      · rw [if_neg (show ¬ m 6 1 = 1 by rw [z]; decide), if_neg (show ¬ m 6 1 = 2 by rw [z]; decide), if_neg (show ¬ m 6 1 = 3 by rw [z]; decide), if_pos (show m 6 1 = 4 from z), z]; exact Wr.2.2
      · rw [if_neg (show ¬ m 6 1 = 1 by rw [z]; decide), if_neg (show ¬ m 6 1 = 2 by rw [z]; decide), if_neg (show ¬ m 6 1 = 3 by rw [z]; decide), if_neg (show ¬ m 6 1 = 4 by rw [z]; decide), if_pos (show m 6 1 = 5 from z), z]; exact H5.2.2.2
      · rw [if_neg (show ¬ m 6 1 = 1 by rw [z]; decide), if_neg (show ¬ m 6 1 = 2 by rw [z]; decide), if_neg (show ¬ m 6 1 = 3 by rw [z]; decide), if_neg (show ¬ m 6 1 = 4 by rw [z]; decide), if_neg (show ¬ m 6 1 = 5 by rw [z]; decide), if_pos (show m 6 1 = 6 from z), z]; exact Rm.2.2.2
      · rw [if_neg (show ¬ m 6 1 = 1 by rw [z]; decide), if_neg (show ¬ m 6 1 = 2 by rw [z]; decide), if_neg (show ¬ m 6 1 = 3 by rw [z]; decide), if_neg (show ¬ m 6 1 = 4 by rw [z]; decide), if_neg (show ¬ m 6 1 = 5 by rw [z]; decide), if_neg (show ¬ m 6 1 = 6 by rw [z]; decide), if_pos (show m 6 1 = 7 from z), z]; exact H7.2.2.2
  · have ne : ∀ c : Int32, ¬ nI 22 = c → ¬ m 6 1 = c := fun c hc' z => hc' (k.symm.trans z)
    have nx0 := ne 0 (by decide)
    have nx1 := ne 1 (by decide)
    have nx2 := ne 2 (by decide)
    have nx3 := ne 3 (by decide)
    have nx4 := ne 4 (by decide)
    have nx5 := ne 5 (by decide)
    have nx6 := ne 6 (by decide)
    have nx7 := ne 7 (by decide)
    have nx30 := ne 30 (by decide)
    have nx31 := ne 31 (by decide)
    have nx42 := ne 42 (by decide)
    have G : DX3_goOn (w + 1) x ∧ (¬ m 0 35 = 0 → DgoesOn m) ∧ R3 (FX3_goOn (w + 1) x) (if m 0 35 = 0 then m else FgoesOn m) := by
      rcases hfl with z | z
      · have z2 : x.1 347 2 = 0 := c2.trans z
        have e : FX3_goOn (w + 1) x = x := by rw [FX3_goOn, if_pos z2]
        rw [e, if_pos z]
        exact ⟨⟨fun _ => trivial, fun y => absurd z2 y⟩, fun y => absurd z y, h⟩
      · have z0 : ¬ m 0 35 = 0 := by rw [z]; decide
        obtain ⟨g1, g2, g3⟩ := goOn_rel h hw he0 k ho z hwa h5 htl hd
        rw [if_neg z0]
        exact ⟨g1, fun _ => g2, g3⟩
    refine ⟨⟨hw, fun z => absurd z nx1, fun z => absurd z nx2, fun z => absurd z nx3, fun z => absurd z nx4, fun z => absurd z nx5, fun z => absurd z nx6, fun z => absurd z nx7, fun _ => ⟨G.1, trivial⟩, fun z => absurd z nx30, fun z => absurd z nx31, fun z => absurd z nx42, fun _ => trivial⟩, ⟨fun z => absurd z nx0, fun _ => ⟨fun _ => trivial, fun z => ⟨G.2.1 z, trivial⟩⟩, fun z => absurd z nx30, fun z => absurd z nx31, fun z => absurd z nx42, fun z => absurd k (z (22, 137) (by decide))⟩, ?_⟩
    rw [if_neg nx1, if_neg nx2, if_neg nx3, if_neg nx4, if_neg nx5, if_neg nx6, if_neg nx7, if_pos (show m 6 1 = 22 from k), if_neg nx0, if_pos (show m 6 1 = 22 from k)]
    exact G.2.2
  · have ne : ∀ c : Int32, ¬ nI 30 = c → ¬ m 6 1 = c := fun c hc' z => hc' (k.symm.trans z)
    have nx0 := ne 0 (by decide)
    have nx1 := ne 1 (by decide)
    have nx2 := ne 2 (by decide)
    have nx3 := ne 3 (by decide)
    have nx4 := ne 4 (by decide)
    have nx5 := ne 5 (by decide)
    have nx6 := ne 6 (by decide)
    have nx7 := ne 7 (by decide)
    have nx22 := ne 22 (by decide)
    have nx31 := ne 31 (by decide)
    have nx42 := ne 42 (by decide)
    have ca : (nI (va + 4)).toNatClampNeg = va + 4 := nI_clamp (by omega)
    have cb : (nI (vb + 4)).toNatClampNeg = vb + 4 := nI_clamp (by omega)
    obtain ⟨g1, g2, g3, g4⟩ := copyAll_l hva hvb 5 0 x m h ho (by decide) (by decide)
    have g1 : DX7_copyAll (nI (va + 4)) (nI (vb + 4)) x := g1
    have g2 : Dcopies (va + 4) (vb + 4) m := g2
    have g3 : R3 (FX7_copyAll (nI (va + 4)) (nI (vb + 4)) x) (Fcopies (va + 4) (vb + 4) m) := g3
    have g4 : ∀ a j, ¬ a = 14 → ¬ a = 15 → Fcopies (va + 4) (vb + 4) m a j = m a j := g4
    obtain ⟨t1, t2, t3, -⟩ := S32 _ _ g3 (by rw [g4 5 2 (by decide) (by decide)]; exact h5) (by rw [g4 0 34 (by decide) (by decide)]; exact htl) (by rw [g4 0 23 (by decide) (by decide)]; exact hd)
    rw [ea, eb, ca, cb]
    refine ⟨⟨hw, fun z => absurd z nx1, fun z => absurd z nx2, fun z => absurd z nx3, fun z => absurd z nx4, fun z => absurd z nx5, fun z => absurd z nx6, fun z => absurd z nx7, fun z => absurd z nx22, fun _ => ⟨g1, t1, trivial⟩, fun z => absurd z nx31, fun z => absurd z nx42, fun _ => trivial⟩, ⟨fun z => absurd z nx0, fun z => absurd z nx22, fun _ => ⟨nI_pos (by omega), nI_pos (by omega), g2, Ddrafts_ok _ _ _ _, t2, trivial⟩, fun z => absurd z nx31, fun z => absurd z nx42, fun z => absurd k (z (30, 171) (by decide))⟩, ?_⟩
    rw [if_neg nx1, if_neg nx2, if_neg nx3, if_neg nx4, if_neg nx5, if_neg nx6, if_neg nx7, if_neg nx22, if_pos (show m 6 1 = 30 from k), if_neg nx0, if_neg nx22, if_pos (show m 6 1 = 30 from k)]
    exact t3
  · have ne : ∀ c : Int32, ¬ nI 31 = c → ¬ m 6 1 = c := fun c hc' z => hc' (k.symm.trans z)
    have nx0 := ne 0 (by decide)
    have nx1 := ne 1 (by decide)
    have nx2 := ne 2 (by decide)
    have nx3 := ne 3 (by decide)
    have nx4 := ne 4 (by decide)
    have nx5 := ne 5 (by decide)
    have nx6 := ne 6 (by decide)
    have nx7 := ne 7 (by decide)
    have nx22 := ne 22 (by decide)
    have nx30 := ne 30 (by decide)
    have nx42 := ne 42 (by decide)
    have ca : (nI (va + 4)).toNatClampNeg = va + 4 := nI_clamp (by omega)
    obtain ⟨g1, g2, g3, g4⟩ := closeAll_l hva 5 0 x m h (by decide) (by decide)
    have g1 : DX7_closeAll (nI (va + 4)) x := g1
    have g2 : DclosesAll (va + 4) m := g2
    have g3 : R3 (FX7_closeAll (nI (va + 4)) x) (FclosesAll (va + 4) m) := g3
    have g4 : ∀ a j, ¬ a = 14 → FclosesAll (va + 4) m a j = m a j := g4
    obtain ⟨t1, t2, t3, -⟩ := S32 _ _ g3 (by rw [g4 5 2 (by decide)]; exact h5) (by rw [g4 0 34 (by decide)]; exact htl) (by rw [g4 0 23 (by decide)]; exact hd)
    rw [ea, ca]
    refine ⟨⟨hw, fun z => absurd z nx1, fun z => absurd z nx2, fun z => absurd z nx3, fun z => absurd z nx4, fun z => absurd z nx5, fun z => absurd z nx6, fun z => absurd z nx7, fun z => absurd z nx22, fun z => absurd z nx30, fun _ => ⟨g1, t1, trivial⟩, fun z => absurd z nx42, fun _ => trivial⟩, ⟨fun z => absurd z nx0, fun z => absurd z nx22, fun z => absurd z nx30, fun _ => ⟨nI_pos (by omega), g2, Ddrafts_ok _ _ _ _, t2, trivial⟩, fun z => absurd z nx42, fun z => absurd k (z (31, 202) (by decide))⟩, ?_⟩
    rw [if_neg nx1, if_neg nx2, if_neg nx3, if_neg nx4, if_neg nx5, if_neg nx6, if_neg nx7, if_neg nx22, if_neg nx30, if_pos (show m 6 1 = 31 from k), if_neg nx0, if_neg nx22, if_neg nx30, if_pos (show m 6 1 = 31 from k)]
    exact t3
  · have ne : ∀ c : Int32, ¬ nI 42 = c → ¬ m 6 1 = c := fun c hc' z => hc' (k.symm.trans z)
    have nx0 := ne 0 (by decide)
    have nx1 := ne 1 (by decide)
    have nx2 := ne 2 (by decide)
    have nx3 := ne 3 (by decide)
    have nx4 := ne 4 (by decide)
    have nx5 := ne 5 (by decide)
    have nx6 := ne 6 (by decide)
    have nx7 := ne 7 (by decide)
    have nx22 := ne 22 (by decide)
    have nx30 := ne 30 (by decide)
    have nx31 := ne 31 (by decide)
    have G := hear_rel (v := m 6 2) h h5 hd ea hfl (fun z => by
      obtain ⟨v, d, g, P, S, B, -, -, -, -, -, -, -, -, -, -, -, -, -, -, -, st⟩ := hwa z
      rcases st with y | y | y
      · exact Or.inl y.2.1
      · exact Or.inl y.2
      · exact Or.inr y.2)
    have m35 : ab_up m 0 34 (m 6 2) 0 35 = m 0 35 := ab_up_nj (by decide)
    refine ⟨⟨hw, fun z => absurd z nx1, fun z => absurd z nx2, fun z => absurd z nx3, fun z => absurd z nx4, fun z => absurd z nx5, fun z => absurd z nx6, fun z => absurd z nx7, fun z => absurd z nx22, fun z => absurd z nx30, fun z => absurd z nx31, fun _ => ⟨G.1, trivial⟩, fun _ => trivial⟩, ⟨fun z => absurd z nx0, fun z => absurd z nx22, fun z => absurd z nx30, fun z => absurd z nx31, fun _ => ⟨fun _ => trivial, fun z => ⟨G.2.1 (by rw [← m35]; exact z), trivial⟩⟩, fun z => absurd k (z (42, 149) (by decide))⟩, ?_⟩
    rw [if_neg nx1, if_neg nx2, if_neg nx3, if_neg nx4, if_neg nx5, if_neg nx6, if_neg nx7, if_neg nx22, if_neg nx30, if_neg nx31, if_pos (show m 6 1 = 42 from k), if_neg nx0, if_neg nx22, if_neg nx30, if_neg nx31, if_pos (show m 6 1 = 42 from k), m35]
    exact G.2.2
