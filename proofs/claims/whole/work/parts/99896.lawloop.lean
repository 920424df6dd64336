/-! THE LAW's LOOP -/
theorem and15 (a : Int32) : ∃ j, j < 16 ∧ a &&& nI 15 = nI j := by
  have hb : (a &&& nI 15).toBitVec.toNat < 16 := by
    rw [Int32.toBitVec_and, BitVec.toNat_and]
    exact Nat.lt_of_le_of_lt Nat.and_le_right (by decide)
  refine ⟨(a &&& nI 15).toBitVec.toNat, hb, ?_⟩
  apply Int32.toBitVec_inj.mp
  apply BitVec.eq_of_toNat_eq
  show _ = (BitVec.ofNat 32 (a &&& nI 15).toBitVec.toNat).toNat
  rw [BitVec.toNat_ofNat, Nat.mod_eq_of_lt (by omega)]
theorem cmp5 {L i : Nat} (hL : L ≤ 2560) (hi : i ≤ 2565) : nI L - nI 5 < nI i ↔ L < i + 5 := by
  by_cases h : 5 ≤ L
  · rw [pk_sub h, nI_ltI (by omega) (by omega)]
    omega
  · have e : ∀ L, L < 5 → nI L - nI 5 < 0 := by decide
    have h0 : ¬ nI i < 0 := nI_pos (by omega)
    have h1 : nI L - nI 5 < nI i := Int32.lt_of_lt_of_le (e L (by omega)) (Int32.not_lt.mp h0)
    exact ⟨fun _ => by omega, fun _ => h1⟩
def tgt16 (j : Nat) : Nat := ([104, 165, 190, 227, 240, 253, 290, 358, 407, 444, 512, 537, 586] : List Nat).getD j 611
section LWL
variable {l : Launch} {p : Program} {e : Env} {s : State} {m : MethodId} {below : List Frame} {meth : Method} {c : Code} {b L : Nat} {xs : Nat → Int32} {G : ab_G} {cL : ClassId} {kc ks i : Nat} {x : xD} {n : mD} {v : Int64}
theorem LW_head (C : lwC l p s m meth c b L xs G cL) (hi : i ≤ 2565) (Ke : L < i + 5 → LW l p e s m below meth c b G cL kc ks 617 (lvI b G i) [] x n v) (Kg : i + 5 ≤ L → LW l p e s m below meth c b G cL kc ks 32 (lvI b G i) [] x n v) : LW l p e s m below meth c b G cL kc ks 23 (lvI b G i) [] x n v := by
  intro H locs ls hs hl
  obtain ⟨⟨hx, hb, -, -, -, -, hX, hbl, -⟩, hL, -⟩ := C
  refine lv_iload hx hb dL_law_23 (lv_at hl 4 rfl) ?_
  refine lv_aload_n hx hb dL_law_25 rfl (lv_at hl 0 rfl) ?_
  refine va_slen (A := fun q => s.heap.size ≤ q) hx hb hX hbl (Nat.not_le.mpr hbl) hs.2.2.2.1 dL_law_26 ?_
  refine lv_iconst (v := nI 5) hx hb dL_law_27 (by decide) ?_
  refine lv_isub hx hb dL_law_28 ?_
  refine lv_icmp_gt (tgt := 617) hx hb dL_law_29 (by decide) (fun h => ?_) (fun h => ?_)
  · exact Ke ((cmp5 hL hi).mp h) H locs ls hs hl
  · refine Kg ?_ H locs ls hs hl
    apply Classical.byContradiction
    intro z
    exact h ((cmp5 hL hi).mpr (by omega))
theorem LW_exit (C : lwC l p s m meth c b L xs G cL) (hb' : kc ≤ 601024 ∧ ks ≤ 7293034) : LW l p e s m below meth c b G cL kc ks 617 (lvI b G i) [] x n v := by
  intro H locs ls hs hl
  obtain ⟨⟨hx, hb, hr, -, -, -, -, -, hlocks, -⟩, -⟩ := C
  refine lv_iconst (v := 1) hx hb dL_law_617 (by decide) ?_
  refine va_forget (fun q hq => hs.2.2.2.1.2.2 q hq) ?_
  refine W.widen (k := 601024) (n := 7293034) hb'.1 hb'.2 ?_
  exact lw_ret hx hb hr hlocks dL_law_618
theorem LW_next (C : lwC l p s m meth c b L xs G cL) (K : LW l p e s m below meth c b G cL kc ks 23 (lvI b G (i + 5)) [] x n v) : LW l p e s m below meth c b G cL kc ks 611 (lvI b G i) [] x n v := by
  intro H locs ls hs hl
  obtain ⟨⟨hx, hb, -⟩, -⟩ := C
  refine lv_iinc (v := nI (i + 5)) (lv' := [(4, .int (nI (i + 5))), (0, .ref b), (1, .ref G.1), (2, .ref (G.1 + 366)), (3, .ref (G.1 + 389))]) hx hb dL_law_611 hl (k := 4) rfl (by rw [show Int32.ofInt 5 = nI 5 by decide, nI_add]) (by decide) rfl (fun ls' hl' => ?_)
  refine lv_goto (tgt := 23) hx hb dL_law_614 (by decide) ?_
  exact K H locs ls' hs (lv_sub hl' [1, 2, 3, 4, 0] rfl)
set_option maxHeartbeats 4000000 in
theorem LW_sw (C : lwC l p s m meth c b L xs G cL) (hi : i < L) (K : ∀ j, j < 16 → LW l p e s m below meth c b G cL kc ks (tgt16 j) (lvI b G i) [] x n v) : LW l p e s m below meth c b G cL kc ks 32 (lvI b G i) [] x n v := by
  intro H locs ls hs hl
  obtain ⟨⟨hx, hb, -, -, -, -, hX, hbl, -⟩, hL, -⟩ := C
  refine lv_aload_n hx hb dL_law_32 rfl (lv_at hl 0 rfl) ?_
  refine lv_iload hx hb dL_law_33 (lv_at hl 4 rfl) ?_
  refine va_sld (A := fun q => s.heap.size ≤ q) hx hb hX hbl (Nat.not_le.mpr hbl) hs.2.2.2.1 (vp_in_nI hi (by omega)) dL_law_35 ?_
  refine lv_bipush (v := nI 15) hx hb dL_law_36 (by decide) ?_
  refine lv_iand hx hb dL_law_38 ?_
  obtain ⟨j, hj, ej⟩ := and15 (xs (nI i).toNatClampNeg)
  rw [ej]
  have hjs : j = 0 ∨ j = 1 ∨ j = 2 ∨ j = 3 ∨ j = 4 ∨ j = 5 ∨ j = 6 ∨ j = 7 ∨ j = 8 ∨ j = 9 ∨ j = 10 ∨ j = 11 ∨ j = 12 ∨ j = 13 ∨ j = 14 ∨ j = 15 := by omega
  rcases hjs with rfl | rfl | rfl | rfl | rfl | rfl | rfl | rfl | rfl | rfl | rfl | rfl | rfl | rfl | rfl | rfl
  · exact lv_tableIn (tgt := 104) (off := 65) hx hb dL_law_39 (by decide) (by decide) rfl (by decide) (K 0 hj H locs ls hs hl)
  · exact lv_tableIn (tgt := 165) (off := 126) hx hb dL_law_39 (by decide) (by decide) rfl (by decide) (K 1 hj H locs ls hs hl)
  · exact lv_tableIn (tgt := 190) (off := 151) hx hb dL_law_39 (by decide) (by decide) rfl (by decide) (K 2 hj H locs ls hs hl)
  · exact lv_tableIn (tgt := 227) (off := 188) hx hb dL_law_39 (by decide) (by decide) rfl (by decide) (K 3 hj H locs ls hs hl)
  · exact lv_tableIn (tgt := 240) (off := 201) hx hb dL_law_39 (by decide) (by decide) rfl (by decide) (K 4 hj H locs ls hs hl)
  · exact lv_tableIn (tgt := 253) (off := 214) hx hb dL_law_39 (by decide) (by decide) rfl (by decide) (K 5 hj H locs ls hs hl)
  · exact lv_tableIn (tgt := 290) (off := 251) hx hb dL_law_39 (by decide) (by decide) rfl (by decide) (K 6 hj H locs ls hs hl)
  · exact lv_tableIn (tgt := 358) (off := 319) hx hb dL_law_39 (by decide) (by decide) rfl (by decide) (K 7 hj H locs ls hs hl)
  · exact lv_tableIn (tgt := 407) (off := 368) hx hb dL_law_39 (by decide) (by decide) rfl (by decide) (K 8 hj H locs ls hs hl)
  · exact lv_tableIn (tgt := 444) (off := 405) hx hb dL_law_39 (by decide) (by decide) rfl (by decide) (K 9 hj H locs ls hs hl)
  · exact lv_tableIn (tgt := 512) (off := 473) hx hb dL_law_39 (by decide) (by decide) rfl (by decide) (K 10 hj H locs ls hs hl)
  · exact lv_tableIn (tgt := 537) (off := 498) hx hb dL_law_39 (by decide) (by decide) rfl (by decide) (K 11 hj H locs ls hs hl)
  · exact lv_tableIn (tgt := 586) (off := 547) hx hb dL_law_39 (by decide) (by decide) rfl (by decide) (K 12 hj H locs ls hs hl)
  · exact lv_tableOut (tgt := 611) hx hb dL_law_39 (by decide) (by decide) (K 13 hj H locs ls hs hl)
  · exact lv_tableOut (tgt := 611) hx hb dL_law_39 (by decide) (by decide) (K 14 hj H locs ls hs hl)
  · exact lv_tableOut (tgt := 611) hx hb dL_law_39 (by decide) (by decide) (K 15 hj H locs ls hs hl)
/-- at the loop's head, i ints read: class and reference agree -/
theorem law_loop (C : lwC l p s m meth c b L xs G cL) : ∀ (k i : Nat) (x : xD) (n : mD) (v : Int64), i ≤ 2565 → L < i + 5 + 5 * k → JJ (4000 * i) x n → LW l p e s m below meth c b G cL (400 + i) (6000 + 6 * i) 23 (lvI b G i) [] x n v := by
  have hL := C.2.1
  intro k
  induction k with
  | zero =>
    intro i x n v hi hk _
    exact LW_head C hi (fun _ => LW_exit C ⟨by omega, by omega⟩) (fun z => absurd z (by omega))
  | succ k ih =>
    intro i x n v hi hk hJ
    refine LW_head C hi (fun _ => LW_exit C ⟨by omega, by omega⟩) (fun hg => ?_)
    have hb' : 400 + i ≤ 4000 ∧ 6000 + 6 * i ≤ 29000 := ⟨by omega, by omega⟩
    have K : ∀ (x' : xD) (n' : mD) (v' : Int64), JJ (4000 * i + 20000) x' n' → LW l p e s m below meth c b G cL (400 + i + 1) (6000 + 6 * i + 6) 611 (lvI b G i) [] x' n' v' := fun x' n' v' h => by
      have h' : JJ (4000 * (i + 5)) x' n' := by rw [show 4000 * (i + 5) = 4000 * i + 20000 by omega]; exact h
      exact LW_next C (LW_wide (by omega) (by omega) (ih (i + 5) x' n' v' (by omega) (by omega) h'))
    refine LW_sw C (by omega) (fun j hj => ?_)
    have hS : 4000 * i + 20000 < 1000000000 := by omega
    have hi4 : i + 4 < L := by omega
    have hjs : j = 0 ∨ j = 1 ∨ j = 2 ∨ j = 3 ∨ j = 4 ∨ j = 5 ∨ j = 6 ∨ j = 7 ∨ j = 8 ∨ j = 9 ∨ j = 10 ∨ j = 11 ∨ j = 12 ∨ 13 ≤ j := by omega
    rcases hjs with rfl | rfl | rfl | rfl | rfl | rfl | rfl | rfl | rfl | rfl | rfl | rfl | rfl | h13
    · exact op_call C hb' hi4 hJ hS K
    · exact op_steps C hb' hi4 hJ hS K
    · exact op_until C hb' hi4 hJ hS K
    · exact op_crash C hb' hi4 hJ hS K
    · exact op_hang C hb' hi4 hJ hS K
    · exact op_force C hb' hi4 hJ hS K
    · exact op_user C hb' hi4 hJ hS K
    · exact op_descriptor C hb' hi4 hJ hS K
    · exact op_file C hb' hi4 hJ hS K
    · exact op_disk C hb' hi4 hJ hS K
    · exact op_inbox C hb' hi4 hJ hS K
    · exact op_message C hb' hi4 hJ hS K
    · exact op_count C hb' hi4 hJ hS K
    · have e : tgt16 j = 611 := by
        have h3 : j = 13 ∨ j = 14 ∨ j = 15 := by omega
        rcases h3 with rfl | rfl | rfl <;> rfl
      rw [e]
      exact LW_wide (by omega) (by omega) (K x n v (hJ.mono (by omega)))
end LWL
