/-! FILES, XI: the calls -/
def FbO (u : Nat) (k : Int32) (s g : Nat) (b : Int32) (m : mD) : mD := if k = nI 2 then Ftells 2 u (nI 0) (ab_up m 14 s (-1)) else if k = nI 3 then Freads u s g m else if k = nI 4 then Fwrites u s g b m else if k = nI 5 then (if b < 0 then Ftells 2 u (-1) m else if m 17 g < b then Ftells 2 u (-1) m else Ftells 2 u (nI 0) (ab_up m 15 s b)) else Ftells 2 u (m 17 g) m
theorem beg_no {m : mD} {v : Nat} {k a b : Int32} (hv : v < 8) (hk1 : ¬ k = nI 1) (hk6 : ¬ k = nI 6) (hno : a < 0 ∨ nI 3 < a ∨ ∃ d, d < 4 ∧ a = nI d ∧ m 14 (4 * (v + 4) + d) = -1) (T : Dtells 2 (v + 4) (-8) m) : Fbegins (v + 4) k a b m = Ftells 2 (v + 4) (-8) m ∧ Dbegins (v + 4) k a b m := by
  rw [Fbegins, Dbegins, if_neg hk1, if_neg hk6]
  by_cases c0 : a < 0
  · rw [if_pos c0]
    exact ⟨rfl, fun z => absurd z hk1, fun _ => ⟨fun z => absurd z hk6, fun _ => ⟨fun _ => ⟨T, trivial⟩, fun z => absurd c0 z⟩⟩⟩
  · rw [if_neg c0]
    by_cases c3 : nI 3 < a
    · rw [if_pos c3]
      exact ⟨rfl, fun z => absurd z hk1, fun _ => ⟨fun z => absurd z hk6, fun _ => ⟨fun z => absurd z c0, fun _ => ⟨fun _ => ⟨T, trivial⟩, fun z => absurd c3 z⟩⟩⟩⟩
    · obtain ⟨d, hd, rfl, e⟩ := (hno.resolve_left c0).resolve_left c3
      have ei : nI (4 * (v + 4)) + nI d = nI (4 * (v + 4) + d) := nI_add _ _
      have hc : (nI (4 * (v + 4) + d)).toNatClampNeg = 4 * (v + 4) + d := nI_clamp (by omega)
      have n0 : ¬ (0 : Int32) ≤ m 14 (4 * (v + 4) + d) := by rw [e]; decide
      rw [if_neg c3, ei, hc, if_neg n0]
      exact ⟨rfl, fun z => absurd z hk1, fun _ => ⟨fun z => absurd z hk6, fun _ => ⟨fun z => absurd z c0, fun _ => ⟨fun z => absurd z c3, fun _ => ⟨nI_pos (by omega), by omega, fun z => absurd z n0, fun _ => ⟨T, trivial⟩⟩⟩⟩⟩⟩
theorem beg_yes {m : mD} {v d g : Nat} {k b : Int32} (hv : v < 8) (hd : d < 4) (hg : g < 16) (hk1 : ¬ k = nI 1) (hk6 : ¬ k = nI 6) (e14 : m 14 (4 * (v + 4) + d) = nI g) (T2 : k = nI 2 → Dtells 2 (v + 4) (nI 0) (ab_up m 14 (4 * (v + 4) + d) (-1))) (T3 : k = nI 3 → Dreads (v + 4) (4 * (v + 4) + d) g m) (T4 : k = nI 4 → Dwrites (v + 4) (4 * (v + 4) + d) g b m) (T5 : Dtells 2 (v + 4) (-1) m) (T5' : k = nI 5 → Dtells 2 (v + 4) (nI 0) (ab_up m 15 (4 * (v + 4) + d) b)) (T7 : Dtells 2 (v + 4) (m 17 g) m) : Fbegins (v + 4) k (nI d) b m = FbO (v + 4) k (4 * (v + 4) + d) g b m ∧ Dbegins (v + 4) k (nI d) b m := by
  have c0 : ¬ nI d < 0 := nI_pos (by omega)
  have c3 : ¬ nI 3 < nI d := nI_nlt (by omega) (by decide)
  have ei : nI (4 * (v + 4)) + nI d = nI (4 * (v + 4) + d) := nI_add _ _
  have hc : (nI (4 * (v + 4) + d)).toNatClampNeg = 4 * (v + 4) + d := nI_clamp (by omega)
  have hcg : (nI g).toNatClampNeg = g := nI_clamp (by omega)
  have n0 : (0 : Int32) ≤ nI g := nI_pos' (by omega)
  have ps : ¬ nI (4 * (v + 4) + d) < 0 := nI_pos (by omega)
  have pg : ¬ nI g < 0 := nI_pos (by omega)
  have hs : 4 * (v + 4) + d < 48 := by omega
  have es : ab_up m 15 (4 * (v + 4) + d) (m 15 (4 * (v + 4) + d)) = m := ab_up_self rfl
  rw [Fbegins, Dbegins, if_neg hk1, if_neg hk6, if_neg c0, if_neg c3, ei, hc, e14, hcg, if_pos n0, es, FbO]
  exact ⟨rfl, fun z => absurd z hk1, fun _ => ⟨fun z => absurd z hk6, fun _ => ⟨fun z => absurd z c0, fun _ => ⟨fun z => absurd z c3, fun _ => ⟨ps, hs, fun _ => ⟨ps, hs, fun z => ⟨ps, hs, T2 z, trivial⟩, fun _ => ⟨fun z => ⟨ps, pg, T3 z, trivial⟩, fun _ => ⟨fun z => ⟨ps, pg, T4 z, trivial⟩, fun _ => ⟨fun z => ⟨fun _ => ⟨ps, hs, ps, hs, T5, trivial⟩, fun _ => ⟨pg, hg, fun _ => ⟨ps, hs, ps, hs, T5, trivial⟩, fun _ => ⟨ps, hs, T5' z, trivial⟩⟩⟩, fun _ => ⟨pg, hg, T7, trivial⟩⟩⟩⟩⟩, fun z => absurd n0 z⟩⟩⟩⟩⟩
/-- a descriptor's number: none such, closed, or open -/
theorem desc_cases {m : mD} {v : Nat} (a : Int32) (ho : iOpe m) (hv : v < 8) : (a < 0 ∨ nI 3 < a) ∨ (∃ d, d < 4 ∧ a = nI d ∧ m 14 (4 * (v + 4) + d) = -1) ∨ ∃ d g, d < 4 ∧ g < 16 ∧ a = nI d ∧ m 14 (4 * (v + 4) + d) = nI g := by
  by_cases c0 : a < 0
  · exact Or.inl (Or.inl c0)
  · by_cases c3 : nI 3 < a
    · exact Or.inl (Or.inr c3)
    · obtain ⟨d, hd, rfl⟩ := small4 c0 c3
      rcases ho v d hv hd with z | ⟨g, hg, z⟩
      · exact Or.inr (Or.inl ⟨d, hd, rfl, z⟩)
      · exact Or.inr (Or.inr ⟨d, g, hd, hg, rfl, z⟩)
theorem none_file {x : xD} {m : mD} {v : Nat} {a : Int32} (h : R3 x m) (ho : iOpe m) (hv : v < 8) (hno : (a < 0 ∨ nI 3 < a) ∨ ∃ d, d < 4 ∧ a = nI d ∧ m 14 (4 * (v + 4) + d) = -1) : DX7_fileAt (nI (v + 4)) a x ∧ DX7_placeAt (nI (v + 4)) a x ∧ FX7_fileAt (nI (v + 4)) a x = -1 := by
  rcases hno with z | ⟨d, hd, rfl, e⟩
  · obtain ⟨-, b1, b2, b3, -⟩ := at_no (x := x) hv z
    exact ⟨b1, b2, b3⟩
  · obtain ⟨-, b1, b2, b3, -⟩ := at_rel h ho hv hd
    exact ⟨b1, b2, b3.trans e⟩
theorem handle_rel {x : xD} {m : mD} {v : Nat} {k a b : Int32} (h : R3 x m) (ho : iOpe m) (hT : iOpT m) (hv : v < 8) (hk : k = nI 2 ∨ k = nI 5 ∨ k = nI 7) (h5 : m 5 2 = -1) (htl : ¬ m 0 34 = 0) (hd : m 0 23 = 0 ∨ m 0 23 = 1) : DX3_handle (nI (v + 4)) k a b x ∧ DX1_send (nI 2) (nI (v + 4)) (nI 50) (FX3_handle (nI (v + 4)) k a b x).1 (nI 0) (FX3_handle (nI (v + 4)) k a b x).2 ∧ Dbegins (v + 4) k a b m ∧ R3 (FX1_send (nI 2) (nI (v + 4)) (nI 50) (FX3_handle (nI (v + 4)) k a b x).1 (nI 0) (FX3_handle (nI (v + 4)) k a b x).2) (Fbegins (v + 4) k a b m) := by
  have k1 : ¬ k = nI 1 := by rcases hk with z | z | z <;> rw [z] <;> decide
  have k6 : ¬ k = nI 6 := by rcases hk with z | z | z <;> rw [z] <;> decide
  have k3 : ¬ k = nI 3 := by rcases hk with z | z | z <;> rw [z] <;> decide
  have k4 : ¬ k = nI 4 := by rcases hk with z | z | z <;> rw [z] <;> decide
  have T := fun (y : xD) (n : mD) (hh : R3 y n) (a1 : n 5 2 = -1) (a2 : ¬ n 0 34 = 0) (a3 : n 0 23 = 0 ∨ n 0 23 = 1) (q : Int32) => tells_rel (f := 2) (u := v + 4) (v := q) hh (by decide) (by omega) (by omega) a3 a1 a2
  have T0 := T x m h h5 htl hd
  have no : ((a < 0 ∨ nI 3 < a) ∨ ∃ d, d < 4 ∧ a = nI d ∧ m 14 (4 * (v + 4) + d) = -1) → DX3_handle (nI (v + 4)) k a b x ∧ DX1_send (nI 2) (nI (v + 4)) (nI 50) (FX3_handle (nI (v + 4)) k a b x).1 (nI 0) (FX3_handle (nI (v + 4)) k a b x).2 ∧ Dbegins (v + 4) k a b m ∧ R3 (FX1_send (nI 2) (nI (v + 4)) (nI 50) (FX3_handle (nI (v + 4)) k a b x).1 (nI 0) (FX3_handle (nI (v + 4)) k a b x).2) (Fbegins (v + 4) k a b m) := fun hno => by
    obtain ⟨n1, n2, n3⟩ := none_file h ho hv hno
    obtain ⟨f1, f2⟩ := beg_no (b := b) hv k1 k6 (hno.elim (fun z => z.elim (fun y => Or.inl y) (fun y => Or.inr (Or.inl y))) (fun z => Or.inr (Or.inr z))) (T0 (-8)).2.1
    have e : FX3_handle (nI (v + 4)) k a b x = (-8, x) := by rw [FX3_handle, if_pos n3]
    rw [e, f1]
    exact ⟨⟨n1, fun _ => trivial, fun z => absurd n3 z⟩, (T0 (-8)).1, f2, (T0 (-8)).2.2.1⟩
  rcases desc_cases a ho hv with z | z | ⟨d, g, hd4, hg, rfl, e14⟩
  · exact no (Or.inl z)
  · exact no (Or.inr z)
  · obtain ⟨a1, a2, a3, a4, a5, a6⟩ := at_open h ho hv hd4 hg e14
    obtain ⟨t1, -⟩ := hT v d g hv hd4 hg e14
    obtain ⟨s1, s2⟩ := size_rel h hg t1
    have ng : ¬ FX7_fileAt (nI (v + 4)) (nI d) x = -1 := by rw [a4]; exact nI_ne_m1 g (by omega)
    have C := close_rel (p := nI 0) h hv hd4
    have TC := T _ _ C (by rw [ab_up_ne (by decide)]; exact h5) (by rw [ab_up_ne (by decide)]; exact htl) (by rw [ab_up_ne (by decide)]; exact hd) (nI 0)
    have PL := place_rel (q := b) h hv hd4
    have TP := T _ _ PL (by rw [ab_up_ne (by decide)]; exact h5) (by rw [ab_up_ne (by decide)]; exact htl) (by rw [ab_up_ne (by decide)]; exact hd) (nI 0)
    obtain ⟨f1, f2⟩ := beg_yes (b := b) hv hd4 hg k1 k6 e14 (fun _ => TC.2.1) (fun z => absurd z k3) (fun z => absurd z k4) (T0 (-1)).2.1 (fun _ => TP.2.1) (T0 (m 17 g)).2.1
    obtain ⟨p1, p2⟩ := FX7_set_eq (x := x) (f := -1) (p := nI 0) hv hd4
    obtain ⟨q1, q2⟩ := FX7_setPlace_eq (q := b) h ho hv hd4 hg e14
    have dx : DX3_handle (nI (v + 4)) k (nI d) b x := by
      rw [DX3_handle, a4]
      exact ⟨a2, fun _ => trivial, fun _ => ⟨fun _ => ⟨s2, trivial⟩, fun _ => ⟨fun _ => ⟨p2, trivial⟩, fun _ => ⟨fun _ => trivial, fun _ => ⟨s2, fun _ => ⟨q2, trivial⟩, fun _ => trivial⟩⟩⟩⟩⟩
    refine ⟨dx, ?_⟩
    rw [f1, FbO, if_neg k3, if_neg k4, FX3_handle, if_neg ng, a4, s1, p1, q1]
    rcases hk with rfl | rfl | rfl
    · rw [if_neg (show ¬ nI 2 = nI 7 by decide), if_pos rfl, if_pos rfl]
      exact ⟨TC.1, f2, TC.2.2.1⟩
    · rw [if_neg (show ¬ nI 5 = nI 7 by decide), if_neg (show ¬ nI 5 = nI 2 by decide), if_neg (show ¬ nI 5 = nI 2 by decide), if_pos rfl]
      by_cases c0 : b < 0
      · rw [if_pos c0, if_pos c0]
        exact ⟨(T0 _).1, f2, (T0 _).2.2.1⟩
      · rw [if_neg c0, if_neg c0]
        by_cases c1 : b ≤ m 17 g
        · have c1' : ¬ m 17 g < b := Int32.not_lt.mpr c1
          rw [if_pos c1, if_neg c1']
          exact ⟨TP.1, f2, TP.2.2.1⟩
        · have c1' : m 17 g < b := Int32.not_le.mp c1
          rw [if_neg c1, if_pos c1']
          exact ⟨(T0 _).1, f2, (T0 _).2.2.1⟩
    · rw [if_pos rfl, if_neg (show ¬ nI 7 = nI 2 by decide), if_neg (show ¬ nI 7 = nI 5 by decide)]
      exact ⟨(T0 _).1, f2, (T0 _).2.2.1⟩
theorem begR {x : xD} {m : mD} {v : Nat} {a b : Int32} (h : R3 x m) (ho : iOpe m) (hT : iOpT m) (hz : iSiz m) (hn : no22 m) (hv : v < 8) (h5 : m 5 2 = -1) (htl : ¬ m 0 34 = 0) (hd : m 0 23 = 0 ∨ m 0 23 = 1) : DX3_read (nI (v + 4)) a x ∧ Dbegins (v + 4) (nI 3) a b m ∧ R3 (FX3_read (nI (v + 4)) a x) (Fbegins (v + 4) (nI 3) a b m) := by
  have T0 := fun q : Int32 => tells_rel (f := 2) (u := v + 4) (v := q) h (by decide) (by omega) (by omega) hd h5 htl
  have no : ((a < 0 ∨ nI 3 < a) ∨ ∃ d, d < 4 ∧ a = nI d ∧ m 14 (4 * (v + 4) + d) = -1) → DX3_read (nI (v + 4)) a x ∧ Dbegins (v + 4) (nI 3) a b m ∧ R3 (FX3_read (nI (v + 4)) a x) (Fbegins (v + 4) (nI 3) a b m) := fun hno => by
    obtain ⟨n1, n2, n3⟩ := none_file h ho hv hno
    obtain ⟨f1, f2⟩ := beg_no (b := b) (k := nI 3) hv (by decide) (by decide) (hno.elim (fun z => z.elim (fun y => Or.inl y) (fun y => Or.inr (Or.inl y))) (fun z => Or.inr (Or.inr z))) (T0 (-8)).2.1
    have e : FX3_read (nI (v + 4)) a x = FX1_send (nI 2) (nI (v + 4)) (nI 50) (-8) (nI 0) x := by rw [FX3_read, if_pos n3, if_pos n3]
    rw [e, f1]
    exact ⟨⟨n1, n2, fun _ => ⟨fun _ => ⟨(T0 (-8)).1, trivial⟩, fun z => absurd n3 z⟩, fun z => absurd n3 z⟩, f2, (T0 (-8)).2.2.1⟩
  rcases desc_cases a ho hv with z | z | ⟨d, g, hd4, hg, rfl, e14⟩
  · exact no (Or.inl z)
  · exact no (Or.inr z)
  · obtain ⟨r1, r2, r3⟩ := read_open h ho hT hz hn hv hd4 hg e14 h5 htl hd
    obtain ⟨f1, f2⟩ := beg_yes (b := b) (k := nI 3) hv hd4 hg (by decide) (by decide) e14 (fun z => absurd z (by decide)) (fun _ => r2) (fun z => absurd z (by decide)) (T0 (-1)).2.1 (fun z => absurd z (by decide)) (T0 (m 17 g)).2.1
    rw [f1, FbO, if_neg (by decide), if_pos rfl]
    exact ⟨r1, f2, r3⟩
theorem begW {x : xD} {m : mD} {v : Nat} {a b : Int32} (h : R3 x m) (ho : iOpe m) (hT : iOpT m) (hz : iSiz m) (hn : no22 m) (hv : v < 8) (h35 : m 0 35 = 0) (h5 : m 5 2 = -1) (htl : ¬ m 0 34 = 0) (hd : m 0 23 = 0 ∨ m 0 23 = 1) : DX3_write (nI (v + 4)) a b x ∧ Dbegins (v + 4) (nI 4) a b m ∧ R3 (FX3_write (nI (v + 4)) a b x) (Fbegins (v + 4) (nI 4) a b m) := by
  have T0 := fun q : Int32 => tells_rel (f := 2) (u := v + 4) (v := q) h (by decide) (by omega) (by omega) hd h5 htl
  have no : ((a < 0 ∨ nI 3 < a) ∨ ∃ d, d < 4 ∧ a = nI d ∧ m 14 (4 * (v + 4) + d) = -1) → DX3_write (nI (v + 4)) a b x ∧ Dbegins (v + 4) (nI 4) a b m ∧ R3 (FX3_write (nI (v + 4)) a b x) (Fbegins (v + 4) (nI 4) a b m) := fun hno => by
    obtain ⟨n1, n2, n3⟩ := none_file h ho hv hno
    obtain ⟨f1, f2⟩ := beg_no (b := b) (k := nI 4) hv (by decide) (by decide) (hno.elim (fun z => z.elim (fun y => Or.inl y) (fun y => Or.inr (Or.inl y))) (fun z => Or.inr (Or.inr z))) (T0 (-8)).2.1
    have ew : FX3_whyNotWrite (-1) (FX7_placeAt (nI (v + 4)) a x) x = -8 := by rw [FX3_whyNotWrite, if_pos rfl]
    have n8 : ¬ (-8 : Int32) = 0 := by decide
    rw [f1, FX3_write, DX3_write, n3, ew, if_neg n8]
    exact ⟨⟨n1, n2, ⟨fun _ => trivial, fun z => absurd rfl z⟩, fun z => absurd z n8, fun _ => ⟨(T0 (-8)).1, trivial⟩⟩, f2, (T0 (-8)).2.2.1⟩
  rcases desc_cases a ho hv with z | z | ⟨d, g, hd4, hg, rfl, e14⟩
  · exact no (Or.inl z)
  · exact no (Or.inr z)
  · obtain ⟨r1, r2, r3⟩ := write_open (w := b) h ho hT hz hn hv hd4 hg e14 h35 h5 htl hd
    obtain ⟨f1, f2⟩ := beg_yes (b := b) (k := nI 4) hv hd4 hg (by decide) (by decide) e14 (fun z => absurd z (by decide)) (fun z => absurd z (by decide)) (fun _ => r2) (T0 (-1)).2.1 (fun z => absurd z (by decide)) (T0 (m 17 g)).2.1
    rw [f1, FbO, if_neg (by decide), if_neg (by decide), if_pos rfl]
    exact ⟨r1, f2, r3⟩
theorem begO {x : xD} {m : mD} {v : Nat} {a b : Int32} (h : R3 x m) (ho : iOpe m) (hi : iThe m) (hb : iNoB m) (hv : v < 8) (h5 : m 5 2 = -1) (htl : ¬ m 0 34 = 0) (hd : m 0 23 = 0 ∨ m 0 23 = 1) : DX3_openFile (nI (v + 4)) a x ∧ DX1_send (nI 2) (nI (v + 4)) (nI 50) (FX3_openFile (nI (v + 4)) a x).1 (nI 0) (FX3_openFile (nI (v + 4)) a x).2 ∧ Dbegins (v + 4) (nI 1) a b m ∧ R3 (FX1_send (nI 2) (nI (v + 4)) (nI 50) (FX3_openFile (nI (v + 4)) a x).1 (nI 0) (FX3_openFile (nI (v + 4)) a x).2) (Fbegins (v + 4) (nI 1) a b m) := by
  obtain ⟨o1, o2, o3, o4, o5⟩ := open_rel (a := a) h ho hi hb hv
  obtain ⟨t1, t2, t3, -⟩ := tells_rel (f := 2) (u := v + 4) (v := (Fopens (v + 4) a m).1) o4 (by decide) (by omega) (by omega) (by rw [o5 0 23 (by omega)]; exact hd) (by rw [o5 5 2 (by omega)]; exact h5) (by rw [o5 0 34 (by omega)]; exact htl)
  rw [o3, Fbegins, Dbegins, if_pos rfl]
  exact ⟨o1, t1, ⟨fun _ => ⟨o2, t2, trivial⟩, fun z => absurd rfl z⟩, t3⟩
theorem begD {x : xD} {m : mD} {v : Nat} {a b : Int32} (h : R3 x m) (hi : iThe m) (hl : ∀ k, k < 16 → m 14 k = -1) (hr : rng18 m) (hz : iSiz m) (hv : v < 8) (h35 : m 0 35 = 0) (h5 : m 5 2 = -1) (htl : ¬ m 0 34 = 0) (hd : m 0 23 = 0 ∨ m 0 23 = 1) : DX3_removeFile a x ∧ DX1_send (nI 2) (nI (v + 4)) (nI 50) (FX3_removeFile a x).1 (nI 0) (FX3_removeFile a x).2 ∧ Dbegins (v + 4) (nI 6) a b m ∧ R3 (FX1_send (nI 2) (nI (v + 4)) (nI 50) (FX3_removeFile a x).1 (nI 0) (FX3_removeFile a x).2) (Fbegins (v + 4) (nI 6) a b m) := by
  obtain ⟨o1, o2, o3, o4, o5⟩ := remove_rel (a := a) h hi hl hr hz h35
  obtain ⟨t1, t2, t3, -⟩ := tells_rel (f := 2) (u := v + 4) (v := (Fremoves a m).1) o4 (by decide) (by omega) (by omega) (by rw [o5 0 23 (by omega) (by omega) (by omega)]; exact hd) (by rw [o5 5 2 (by omega) (by omega) (by omega)]; exact h5) (by rw [o5 0 34 (by omega) (by omega) (by omega)]; exact htl)
  rw [o3, Fbegins, Dbegins, if_neg (by decide), if_pos rfl]
  exact ⟨o1, t1, ⟨fun z => absurd z (by decide), fun _ => ⟨fun _ => ⟨o2, t2, trivial⟩, fun z => absurd rfl z⟩⟩, t3⟩
