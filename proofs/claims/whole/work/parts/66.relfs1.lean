/-! FILES, I: descriptors -/
theorem slot_cl {v d : Nat} (hv : v < 8) (hd : d < 4) : (nI (4 * v + d)).toNatClampNeg = 4 * v + d := nI_clamp (by omega)
/-- what a descriptor is, class and reference -/
theorem at_rel {x : xD} {m : mD} {v d : Nat} (h : R3 x m) (ho : iOpe m) (hv : v < 8) (hd : d < 4) : DX7_slot (nI (v + 4)) (nI d) x ∧ DX7_fileAt (nI (v + 4)) (nI d) x ∧ DX7_placeAt (nI (v + 4)) (nI d) x ∧ FX7_fileAt (nI (v + 4)) (nI d) x = m 14 (4 * (v + 4) + d) ∧
    ((m 14 (4 * (v + 4) + d) = -1 ∧ FX7_slot (nI (v + 4)) (nI d) x = -1 ∧ FX7_placeAt (nI (v + 4)) (nI d) x = -1) ∨ (0 ≤ m 14 (4 * (v + 4) + d) ∧ FX7_slot (nI (v + 4)) (nI d) x = nI (4 * v + d) ∧ FX7_placeAt (nI (v + 4)) (nI d) x = m 15 (4 * (v + 4) + d))) := by
  obtain ⟨s1, s2⟩ := slot_rel h ho hv hd
  rcases s2 with ⟨a1, a2⟩ | ⟨a1, a2, a3, a4⟩
  · refine ⟨s1, ⟨s1, fun _ => trivial, fun z => absurd a2 z⟩, ⟨s1, fun _ => trivial, fun z => absurd a2 z⟩, ?_, Or.inl ⟨a1, a2, ?_⟩⟩
    · rw [FX7_fileAt, if_pos a2, a1]
    · rw [FX7_placeAt, if_pos a2]
  · have n1 : ¬ FX7_slot (nI (v + 4)) (nI d) x = -1 := by rw [a2]; exact nI_ne_m1 _ (by omega)
    have dd : ¬ FX7_slot (nI (v + 4)) (nI d) x < 0 ∧ (FX7_slot (nI (v + 4)) (nI d) x).toNatClampNeg < 32 ∧ True := by
      rw [a2, slot_cl hv hd]
      exact ⟨nI_pos (by omega), by omega, trivial⟩
    refine ⟨s1, ⟨s1, fun _ => trivial, fun _ => dd⟩, ⟨s1, fun _ => trivial, fun _ => dd⟩, ?_, Or.inr ⟨a1, a2, ?_⟩⟩
    · rw [FX7_fileAt, if_neg n1, a2, slot_cl hv hd, a3]
    · rw [FX7_placeAt, if_neg n1, a2, slot_cl hv hd, a4]
/-- a number that is no descriptor -/
theorem at_no {x : xD} {v : Nat} {e : Int32} (hv : v < 8) (he : e < 0 ∨ nI 3 < e) : DX7_slot (nI (v + 4)) e x ∧ DX7_fileAt (nI (v + 4)) e x ∧ DX7_placeAt (nI (v + 4)) e x ∧ FX7_fileAt (nI (v + 4)) e x = -1 ∧ FX7_placeAt (nI (v + 4)) e x = -1 := by
  have hu : ¬ FX10_isUser (nI (v + 4)) = 0 := userX (by omega) (by omega)
  have n4 : ¬ e < 0 → ¬ e < nI 4 := fun c z => by
    rcases he with y | y
    · exact c y
    · obtain ⟨n, hn, rfl⟩ := range_of (N := 4) (by decide) c (by intro w; exact Int32.lt_irrefl (Int32.lt_of_lt_of_le z w))
      have := (nI_ltI (by decide) (by omega)).mp y
      omega
  have sl : FX7_slot (nI (v + 4)) e x = -1 := by
    rw [FX7_slot, if_neg hu]
    by_cases c : e < 0
    · rw [if_pos c]
    · rw [if_neg c, if_neg (n4 c)]
  have ds : DX7_slot (nI (v + 4)) e x := ⟨fun _ => trivial, fun _ => ⟨fun _ => trivial, fun c => ⟨fun z => absurd z (n4 c), fun _ => trivial⟩⟩⟩
  refine ⟨ds, ⟨ds, fun _ => trivial, fun z => absurd sl z⟩, ⟨ds, fun _ => trivial, fun z => absurd sl z⟩, ?_, ?_⟩
  · rw [FX7_fileAt, if_pos sl]
  · rw [FX7_placeAt, if_pos sl]
theorem FX7_set_eq {x : xD} {v d : Nat} {f p : Int32} (hv : v < 8) (hd : d < 4) : FX7_set (nI (v + 4)) (nI d) f p x = (ab_up (ab_up x.1 354 (4 * v + d) f) 355 (4 * v + d) p, x.2) ∧ DX7_set (nI (v + 4)) (nI d) f p x := by
  have hu : ¬ FX10_isUser (nI (v + 4)) = 0 := userX (by omega) (by omega)
  have c0 : ¬ nI d < 0 := nI_pos (by omega)
  have c4 : ¬ nI 4 ≤ nI d := nI_ge hd (by decide)
  rw [FX7_set, DX7_set, if_neg hu, if_neg c0, if_neg c4, slot_x v hv d hd, slot_cl hv hd]
  have p0 : ¬ nI (4 * v + d) < 0 := nI_pos (by omega)
  exact ⟨rfl, fun z => absurd z hu, fun _ => ⟨fun z => absurd z c0, fun _ => ⟨fun z => absurd z c4, fun _ => ⟨p0, by omega, p0, by omega, trivial⟩⟩⟩⟩
theorem rOpe_of {x : xD} {m : mD} (h : R3 x m) : ∀ u d, u < 8 → d < 4 → x.1 354 (4 * u + d) = m 14 (4 * (u + 4) + d) ∧ (¬ m 14 (4 * (u + 4) + d) < 0 → x.1 355 (4 * u + d) = m 15 (4 * (u + 4) + d)) := h.2.2.2.2.2.2.1
/-- a descriptor set -/
theorem set_rel {x : xD} {m : mD} {v d : Nat} {f p : Int32} (h : R3 x m) (hv : v < 8) (hd : d < 4) : R3 (ab_up (ab_up x.1 354 (4 * v + d) f) 355 (4 * v + d) p, x.2) (ab_up (ab_up m 14 (4 * (v + 4) + d) f) 15 (4 * (v + 4) + d) p) := by
  have b5' := rOpe_of h
  obtain ⟨r1, r2, b1, b2, b3, b4, b5, b6, b7, b8⟩ := h
  have mo : ∀ q j, ¬ q = 14 → ¬ q = 15 → ab_up (ab_up m 14 (4 * (v + 4) + d) f) 15 (4 * (v + 4) + d) p q j = m q j := fun q j e1 e2 => by rw [ab_up_ne e2, ab_up_ne e1]
  obtain ⟨c1, c2⟩ := RMH.rest (x' := (ab_up (ab_up x.1 354 (4 * v + d) f) 355 (4 * v + d) p, x.2)) (m' := ab_up (ab_up m 14 (4 * (v + 4) + d) f) 15 (4 * (v + 4) + d) p) r1 r2 rfl (fun q j _ hq => by show ab_up _ _ _ _ _ _ = _; rw [ab_up_ne (by omega), ab_up_ne (by omega)]) (fun q j hq => mo q j (by omega) (by omega)) (fun j hj => mo 0 j (by omega) (by omega))
  refine ⟨c1, c2, b1, b2, b3, b4, fun u e hu he => ?_, b6, b7, b8⟩
  show ab_up x.1 354 (4 * v + d) f 354 (4 * u + e) = ab_up m 14 (4 * (v + 4) + d) f 14 (4 * (u + 4) + e) ∧ (¬ ab_up m 14 (4 * (v + 4) + d) f 14 (4 * (u + 4) + e) < 0 → ab_up (ab_up x.1 354 (4 * v + d) f) 355 (4 * v + d) p 355 (4 * u + e) = ab_up (ab_up m 14 (4 * (v + 4) + d) f) 15 (4 * (v + 4) + d) p 15 (4 * (u + 4) + e))
  by_cases e0 : 4 * u + e = 4 * v + d
  · have e1 : 4 * (u + 4) + e = 4 * (v + 4) + d := by omega
    rw [e0, e1, ab_up_eq, ab_up_eq, ab_up_eq, ab_up_eq]
    exact ⟨rfl, fun _ => rfl⟩
  · have e1 : ¬ 4 * (u + 4) + e = 4 * (v + 4) + d := by omega
    obtain ⟨q1, q2⟩ := b5' u e hu he
    have l1 : ab_up (ab_up x.1 354 (4 * v + d) f) 355 (4 * v + d) p 355 (4 * u + e) = x.1 355 (4 * u + e) := by rw [ab_up_nj e0, ab_up_ne (by decide)]
    have l2 : ab_up (ab_up m 14 (4 * (v + 4) + d) f) 15 (4 * (v + 4) + d) p 15 (4 * (u + 4) + e) = m 15 (4 * (u + 4) + e) := by rw [ab_up_nj e1, ab_up_ne (by decide)]
    rw [l1, l2, ab_up_nj e0, ab_up_nj e1]
    exact ⟨q1, q2⟩
/-- the reference's place of a closed descriptor is no matter -/
theorem close_rel {x : xD} {m : mD} {v d : Nat} {p : Int32} (h : R3 x m) (hv : v < 8) (hd : d < 4) : R3 (ab_up (ab_up x.1 354 (4 * v + d) (-1)) 355 (4 * v + d) p, x.2) (ab_up m 14 (4 * (v + 4) + d) (-1)) := by
  have b5' := rOpe_of h
  obtain ⟨r1, r2, b1, b2, b3, b4, b5, b6, b7, b8⟩ := h
  have mo : ∀ q j, ¬ q = 14 → ab_up m 14 (4 * (v + 4) + d) (-1) q j = m q j := fun q j e1 => ab_up_ne e1
  obtain ⟨c1, c2⟩ := RMH.rest (x' := (ab_up (ab_up x.1 354 (4 * v + d) (-1)) 355 (4 * v + d) p, x.2)) (m' := ab_up m 14 (4 * (v + 4) + d) (-1)) r1 r2 rfl (fun q j _ hq => by show ab_up _ _ _ _ _ _ = _; rw [ab_up_ne (by omega), ab_up_ne (by omega)]) (fun q j hq => mo q j (by omega)) (fun j hj => mo 0 j (by omega))
  refine ⟨c1, c2, b1, b2, b3, b4, fun u e hu he => ?_, b6, b7, b8⟩
  show ab_up x.1 354 (4 * v + d) (-1) 354 (4 * u + e) = ab_up m 14 (4 * (v + 4) + d) (-1) 14 (4 * (u + 4) + e) ∧ (¬ ab_up m 14 (4 * (v + 4) + d) (-1) 14 (4 * (u + 4) + e) < 0 → ab_up (ab_up x.1 354 (4 * v + d) (-1)) 355 (4 * v + d) p 355 (4 * u + e) = m 15 (4 * (u + 4) + e))
  by_cases e0 : 4 * u + e = 4 * v + d
  · have e1 : 4 * (u + 4) + e = 4 * (v + 4) + d := by omega
    rw [e0, e1, ab_up_eq, ab_up_eq]
    exact ⟨rfl, fun z => absurd (by decide) z⟩
  · have e1 : ¬ 4 * (u + 4) + e = 4 * (v + 4) + d := by omega
    obtain ⟨q1, q2⟩ := b5' u e hu he
    have l1 : ab_up (ab_up x.1 354 (4 * v + d) (-1)) 355 (4 * v + d) p 355 (4 * u + e) = x.1 355 (4 * u + e) := by rw [ab_up_nj e0, ab_up_ne (by decide)]
    rw [l1, ab_up_nj e0, ab_up_nj e1]
    exact ⟨q1, q2⟩
theorem iOpe.set {m : mD} {v d : Nat} {f : Int32} (h : iOpe m) (hf : f = -1 ∨ ∃ i, i < 16 ∧ f = nI i) : iOpe (ab_up m 14 (4 * (v + 4) + d) f) := by
  intro u e hu he
  by_cases e0 : 4 * (u + 4) + e = 4 * (v + 4) + d
  · rw [e0, ab_up_eq]; exact hf
  · rw [ab_up_nj e0]; exact h u e hu he
/-- all of a user's descriptors closed -/
theorem closeAll_l {v : Nat} (hv : v < 8) : ∀ (n k : Nat) (x : xD) (m : mD), R3 x m → k ≤ 4 → 4 - k < n → DX7_closeAll_2 n (nI (v + 4)) k x ∧ DclosesAll_2 n (v + 4) k m ∧ R3 (FX7_closeAll_2 n (nI (v + 4)) k x) (FclosesAll_2 n (v + 4) k m) ∧ ∀ a j, ¬ a = 14 → FclosesAll_2 n (v + 4) k m a j = m a j := by
  intro n
  induction n with
  | zero => intro k x m _ _ h; omega
  | succ n ih =>
    intro k x m h hk hn
    rw [FX7_closeAll_2, DX7_closeAll_2, FclosesAll_2, DclosesAll_2]
    by_cases e : 4 ≤ k
    · rw [if_pos e, if_pos e]
      exact ⟨⟨by omega, fun _ => trivial, fun z => absurd e z⟩, ⟨by omega, fun _ => trivial, fun z => absurd e z⟩, h, fun _ _ _ => rfl⟩
    · obtain ⟨s1, s2⟩ := FX7_set_eq (x := x) (d := k) (f := -1) (p := nI 0) hv (by omega)
      have C := close_rel (d := k) (p := nI 0) h hv (by omega)
      obtain ⟨i1, i2, i3, i4⟩ := ih (k + 1) _ _ C (by omega) (by omega)
      rw [if_neg e, if_neg e, s1]
      exact ⟨⟨by omega, fun z => absurd z e, fun _ => ⟨s2, i1⟩⟩, ⟨by omega, fun z => absurd z e, fun _ => ⟨by omega, i2⟩⟩, i3, fun a j ha => (i4 a j ha).trans (ab_up_ne ha)⟩
/-- all of a user's descriptors copied -/
theorem copyAll_l {v t : Nat} (hv : v < 8) (ht : t < 8) : ∀ (n k : Nat) (x : xD) (m : mD), R3 x m → iOpe m → k ≤ 4 → 4 - k < n → DX7_copyAll_2 n (nI (v + 4)) (nI (t + 4)) k x ∧ Dcopies_2 n (v + 4) (t + 4) k m ∧ R3 (FX7_copyAll_2 n (nI (v + 4)) (nI (t + 4)) k x) (Fcopies_2 n (v + 4) (t + 4) k m) ∧ ∀ a j, ¬ a = 14 → ¬ a = 15 → Fcopies_2 n (v + 4) (t + 4) k m a j = m a j := by
  intro n
  induction n with
  | zero => intro k x m _ _ _ h; omega
  | succ n ih =>
    intro k x m h ho hk hn
    rw [FX7_copyAll_2, DX7_copyAll_2, Fcopies_2, Dcopies_2]
    by_cases e : 4 ≤ k
    · rw [if_pos e, if_pos e]
      exact ⟨⟨by omega, fun _ => trivial, fun z => absurd e z⟩, ⟨by omega, fun _ => trivial, fun z => absurd e z⟩, h, fun _ _ _ _ => rfl⟩
    · obtain ⟨a1, a2, a3, a4, a5⟩ := at_rel (d := k) h ho hv (by omega)
      obtain ⟨s1, s2⟩ := FX7_set_eq (x := x) (v := t) (d := k) (f := FX7_fileAt (nI (v + 4)) (nI k) x) (p := FX7_placeAt (nI (v + 4)) (nI k) x) ht (by omega)
      have e15 : ab_up m 14 (4 * (t + 4) + k) (m 14 (4 * (v + 4) + k)) 15 (4 * (v + 4) + k) = m 15 (4 * (v + 4) + k) := ab_up_ne (by decide)
      have C : R3 (ab_up (ab_up x.1 354 (4 * t + k) (FX7_fileAt (nI (v + 4)) (nI k) x)) 355 (4 * t + k) (FX7_placeAt (nI (v + 4)) (nI k) x), x.2) (ab_up (ab_up m 14 (4 * (t + 4) + k) (m 14 (4 * (v + 4) + k))) 15 (4 * (t + 4) + k) (m 15 (4 * (v + 4) + k))) := by
        rw [a4]
        rcases a5 with ⟨c1, c2, c3⟩ | ⟨c1, c2, c3⟩
        · rw [c1, c3]
          have C0 := close_rel (d := k) (p := -1) h ht (by omega)
          obtain ⟨r1, r2, b1, b2, b3, b4, b5, b6, b7, b8⟩ := C0
          obtain ⟨d1, d2⟩ := RMH.rest (x' := (ab_up (ab_up x.1 354 (4 * t + k) (-1)) 355 (4 * t + k) (-1), x.2)) (m' := ab_up (ab_up m 14 (4 * (t + 4) + k) (-1)) 15 (4 * (t + 4) + k) (m 15 (4 * (v + 4) + k))) r1 r2 rfl (fun _ _ _ _ => rfl) (fun q j hq => ab_up_ne (by omega)) (fun j hj => ab_up_ne (by omega))
          refine ⟨d1, d2, b1, b2, b3, b4, fun u e2 hu he => ?_, b6, b7, b8⟩
          have q : ab_up (ab_up x.1 354 (4 * t + k) (-1)) 355 (4 * t + k) (-1) 354 (4 * u + e2) = ab_up m 14 (4 * (t + 4) + k) (-1) 14 (4 * (u + 4) + e2) ∧ (¬ ab_up m 14 (4 * (t + 4) + k) (-1) 14 (4 * (u + 4) + e2) < 0 → ab_up (ab_up x.1 354 (4 * t + k) (-1)) 355 (4 * t + k) (-1) 355 (4 * u + e2) = m 15 (4 * (u + 4) + e2)) := b5 u e2 hu he
          show ab_up (ab_up x.1 354 (4 * t + k) (-1)) 355 (4 * t + k) (-1) 354 (4 * u + e2) = ab_up m 14 (4 * (t + 4) + k) (-1) 14 (4 * (u + 4) + e2) ∧ (¬ ab_up m 14 (4 * (t + 4) + k) (-1) 14 (4 * (u + 4) + e2) < 0 → ab_up (ab_up x.1 354 (4 * t + k) (-1)) 355 (4 * t + k) (-1) 355 (4 * u + e2) = ab_up (ab_up m 14 (4 * (t + 4) + k) (-1)) 15 (4 * (t + 4) + k) (m 15 (4 * (v + 4) + k)) 15 (4 * (u + 4) + e2))
          refine ⟨q.1, fun z => ?_⟩
          have ne : ¬ 4 * (u + 4) + e2 = 4 * (t + 4) + k := fun y => z (by rw [y, ab_up_eq]; decide)
          rw [q.2 z, ab_up_nj ne, ab_up_ne (by decide)]
        · rw [c3]
          exact set_rel h ht (by omega)
      have ho' : iOpe (ab_up (ab_up m 14 (4 * (t + 4) + k) (m 14 (4 * (v + 4) + k))) 15 (4 * (t + 4) + k) (m 15 (4 * (v + 4) + k))) := fun u e2 hu he => by
        rw [ab_up_ne (by decide)]
        exact iOpe.set (v := t) (d := k) ho (ho v k hv (by omega)) u e2 hu he
      obtain ⟨i1, i2, i3, i4⟩ := ih (k + 1) _ _ C ho' (by omega) (by omega)
      rw [if_neg e, if_neg e, s1]
      dsimp only
      rw [e15]
      exact ⟨⟨by omega, fun z => absurd z e, fun _ => ⟨a2, a3, s2, i1⟩⟩, ⟨by omega, fun z => absurd z e, fun _ => ⟨by omega, by omega, by omega, by omega, i2⟩⟩, i3, fun a j ha hb => (i4 a j ha hb).trans (by rw [ab_up_ne hb, ab_up_ne ha])⟩
