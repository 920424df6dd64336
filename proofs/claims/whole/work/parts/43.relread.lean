/-! THE WHOLE RELATION, and the small methods of the face: crash, hang, inbox, message -/
def R3 (x : xD) (m : mD) : Prop := RM x m ∧ RH x m ∧ RR x.1 m
theorem R3.thr {x : xD} {m : mD} {v : Int32} (h : R3 x m) : R3 x (ab_up m 0 0 v) := by
  obtain ⟨r1, r2, b1, b2, b3, b4, b5, b6, b7, b8⟩ := h
  exact ⟨r1.mc (fun _ _ => rfl) (fun _ _ => rfl) (fun _ _ => rfl) (fun j hj => by rcases hj with rfl | rfl | rfl | rfl | rfl <;> rfl), r2.fr (fun _ _ _ => ⟨rfl, rfl⟩) (fun _ _ => rfl) (fun _ _ => rfl) rfl rfl, b1, b2, b3, b4, b5, b6, b7, b8⟩
theorem crash_rel {x : xD} {m : mD} (h : R3 x m) : DX10_crash x ∧ (FX10_crash x).1 = (Fcrash m).1 ∧ R3 (FX10_crash x).2 (Fcrash m).2 := by
  have l1 : x.1 3 1 = m 0 23 := h.1.2.2.1 1 (by decide)
  have ht : R3 x (ab_up m 0 0 (nI 0)) := h.thr
  have e : (ab_up m 0 0 (nI 0)) 0 23 = m 0 23 := rfl
  rw [FX10_crash, Fcrash, DX10_crash]
  dsimp only
  rw [l1, e]
  refine ⟨⟨fun _ => trivial, fun _ => ⟨DX10_breakDriver_ok, trivial⟩⟩, ?_⟩
  by_cases c : m 0 23 = 0
  · rw [if_pos c, if_pos c]
    exact ⟨rfl, ht⟩
  · rw [if_neg c, if_neg c]
    obtain ⟨-, b2, b3, b4⟩ := break_rel ht.1 ht.2.1 ht.2.2
    exact ⟨rfl, b2, b3, b4⟩
theorem hang_rel {x : xD} {m : mD} (h : R3 x m) : (FX10_hang x).1 = (Fhang m).1 ∧ R3 (FX10_hang x).2 (Fhang m).2 := by
  have l1 : x.1 3 1 = m 0 23 := h.1.2.2.1 1 (by decide)
  have l2 : x.1 344 2 = m 0 24 := h.2.2.2.2.1.1
  have ht : R3 x (ab_up m 0 0 (nI 0)) := h.thr
  have e : (ab_up m 0 0 (nI 0)) 0 23 = m 0 23 := rfl
  have e2 : (ab_up m 0 0 (nI 0)) 0 24 = m 0 24 := rfl
  rw [FX10_hang, Fhang]
  dsimp only
  rw [l1, l2, e, e2]
  by_cases c : m 0 23 = 0
  · rw [if_pos c, if_pos c]
    exact ⟨rfl, ht⟩
  · rw [if_neg c, if_neg c]
    by_cases c2 : m 0 24 = 0
    · rw [if_pos c2, if_pos c2]
      refine ⟨rfl, ?_⟩
      generalize ab_up m 0 0 (nI 0) = n at *
      obtain ⟨r1, r2, b1, b2, b3, b4, b5, b6, b7, b8⟩ := ht
      refine ⟨(r1.xc (x' := (ab_up x.1 344 2 (nI 1), x.2)) (fun _ _ _ _ => rfl) (fun p hp => ab_up_ne (by omega)) (fun p hp a j _ _ => ab_up_ne (by omega)) (fun p hp => rfl) rfl rfl rfl).mc (fun _ _ => rfl) (fun _ _ => rfl) (fun _ _ => rfl) (fun j hj => by rcases hj with rfl | rfl | rfl | rfl | rfl <;> rfl), r2.fr (fun p hp j => ⟨ab_up_ne (by omega), ab_up_ne (by omega)⟩) (fun _ _ => rfl) (fun _ _ => rfl) rfl rfl, b1, b2, ⟨rfl, b3.2.1, b3.2.2.1, b3.2.2.2.1, b3.2.2.2.2.1, b3.2.2.2.2.2⟩, b4, b5, b6, b7, b8⟩
    · rw [if_neg c2, if_neg c2]
      exact ⟨rfl, ht⟩
theorem part_of {p : Int32} (h : ¬ FisPart p = 0) : ∃ n, n < 12 ∧ p = nI n := by
  rw [FisPart] at h
  by_cases c : p < 0
  · rw [if_pos c] at h; exact absurd nI00 h
  · rw [if_neg c] at h
    by_cases c2 : nI 12 ≤ p
    · rw [if_pos c2] at h; exact absurd nI00 h
    · refine ⟨p.toNatClampNeg, ?_, ab_nat c⟩
      refine Nat.lt_of_not_le (fun z => c2 ?_)
      rw [ab_nat c]
      exact nI_le z (Int32.toNatClampNeg_lt p)
theorem isPart_same {p : Int32} : FX10_isPart p = FisPart p := rfl
theorem inbox_rel {x : xD} {m : mD} {p : Int32} (h : R3 x m) : DX10_inbox p x ∧ Dinbox p m ∧ (FX10_inbox p x).1 = (Finbox p m).1 ∧ R3 (FX10_inbox p x).2 (Finbox p m).2 := by
  have ht : R3 x (ab_up m 0 0 (nI 0)) := h.thr
  have e : ∀ j, (ab_up m 0 0 (nI 0)) 2 j = m 2 j := fun _ => rfl
  rw [DX10_inbox, Dinbox, FX10_inbox, Finbox, isPart_same, e]
  by_cases c : FisPart p = 0
  · rw [if_pos c, if_pos c]
    exact ⟨⟨fun _ => trivial, fun z => absurd c z⟩, ⟨fun _ => trivial, fun z => absurd c z⟩, rfl, ht⟩
  · rw [if_neg c, if_neg c]
    obtain ⟨n, hn, rfl⟩ := part_of c
    have hc : (nI n).toNatClampNeg = n := nI_clamp (by omega)
    obtain ⟨M, hM, e1, e2, e3⟩ := h.1.2.1 n hn
    have hcM : (nI M).toNatClampNeg = M := nI_clamp (by omega)
    rw [hc, e1, e2, hcM]
    have hp := nI_pos (n := n) (by omega)
    exact ⟨⟨fun z => absurd z c, fun _ => ⟨hp, hn, trivial⟩⟩, ⟨fun z => absurd z c, fun _ => ⟨hp, hn, nI_pos (by omega), trivial⟩⟩, rfl, ht⟩
