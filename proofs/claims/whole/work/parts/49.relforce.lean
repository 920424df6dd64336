/-! force of the face -/
theorem force_rel {x : xD} {m : mD} {f t : Int32} (h : R3 x m) (hd : m 0 23 = 0 ∨ m 0 23 = 1) : DX10_force f t x ∧ Dforce f t m ∧ (FX10_force f t x).1 = (Fforce f t m).1 ∧ R3 (FX10_force f t x).2 (Fforce f t m).2 := by
  have ht : R3 x (ab_up m 0 0 (nI 0)) := h.thr
  have hd' : (ab_up m 0 0 (nI 0)) 0 23 = 0 ∨ (ab_up m 0 0 (nI 0)) 0 23 = 1 := hd
  rw [FX10_force, Fforce, DX10_force, Dforce, isPart_same, isPart_same]
  clear h hd
  generalize ab_up m 0 0 (nI 0) = n at *
  by_cases cf : FisPart f = 0
  · rw [if_pos cf, if_pos cf]
    exact ⟨⟨fun _ => trivial, fun z => absurd cf z⟩, ⟨fun _ => trivial, fun z => absurd cf z⟩, rfl, ht⟩
  · rw [if_neg cf, if_neg cf]
    by_cases ct : FisPart t = 0
    · rw [if_pos ct, if_pos ct]
      exact ⟨⟨fun z => absurd z cf, fun _ => ⟨fun _ => trivial, fun z => absurd ct z⟩⟩, ⟨fun z => absurd z cf, fun _ => ⟨fun _ => trivial, fun z => absurd ct z⟩⟩, rfl, ht⟩
    · rw [if_neg ct, if_neg ct]
      obtain ⟨p, hp, rfl⟩ := part_of cf
      obtain ⟨q, hq, rfl⟩ := part_of ct
      have hcp : (nI p).toNatClampNeg = p := nI_clamp (by omega)
      have hcq : (nI q).toNatClampNeg = q := nI_clamp (by omega)
      have pp := nI_pos (n := p) (by omega)
      have pq := nI_pos (n := q) (by omega)
      have hl : x.1 3 p = Flives p n := ht.1.2.2.1 p hp
      rw [hcp, hcq, hl]
      by_cases cl : Flives p n = 0
      · rw [if_pos cl, if_pos cl]
        exact ⟨⟨fun z => absurd z cf, fun _ => ⟨fun z => absurd z ct, fun _ => ⟨pp, hp, fun _ => trivial, fun z => absurd cl z⟩⟩⟩, ⟨fun z => absurd z cf, fun _ => ⟨fun z => absurd z ct, fun _ => ⟨pp, Dlives_ok hp hd', fun _ => trivial, fun z => absurd cl z⟩⟩⟩, rfl, ht⟩
      · rw [if_neg cl, if_neg cl]
        obtain ⟨g1, g2, g3, g4⟩ := loose_rel (k := nI 0) (a := nI 0) (b := nI 0) (c := nI 0) ht hp hq hd' (by decide) (Or.inl nI00)
        exact ⟨⟨fun z => absurd z cf, fun _ => ⟨fun z => absurd z ct, fun _ => ⟨pp, hp, fun z => absurd z cl, fun _ => ⟨g1, trivial⟩⟩⟩⟩, ⟨fun z => absurd z cf, fun _ => ⟨fun z => absurd z ct, fun _ => ⟨pp, Dlives_ok hp hd', fun z => absurd z cl, fun _ => ⟨Ddrafts_ok _ _ _ _, pp, pq, g2, trivial⟩⟩⟩⟩, g3, g4⟩
