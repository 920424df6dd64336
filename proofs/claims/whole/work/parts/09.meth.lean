/-! SWITCHES; WHAT IS STATIC OF EACH METHOD -/
def ab_lchk (pc : Nat) (dflt : Int) : List (Int × Int) → List (Int32 × Nat) → Nat → Bool
  | [], [], dt => (pc : Int) + dflt == (dt : Int)
  | (a, o) :: r, (v, t) :: cs, dt => v.toInt == a && ((pc : Int) + o == (t : Int) && ab_lchk pc dflt r cs dt)
  | _, _, _ => false
theorem ab_lchk_ok {pc : Nat} {dflt : Int} {x : Int32} {dt : Nat} : ∀ (ps : List (Int × Int)) (cs : List (Int32 × Nat)), ab_lchk pc dflt ps cs dt = true → ∃ (off : Int) (tgt : Nat), Op.lookupswitch.offset ps dflt x.toInt = off ∧ (pc : Int) + off = (tgt : Int) ∧ ((∃ c ∈ cs, x = c.1 ∧ tgt = c.2) ∨ ((∀ c ∈ cs, ¬ x = c.1) ∧ tgt = dt))
  | [], [], h => by
    simp only [ab_lchk, beq_iff_eq] at h
    exact ⟨dflt, dt, by simp [Op.lookupswitch.offset], h, Or.inr ⟨fun c hc => absurd hc List.not_mem_nil, rfl⟩⟩
  | (a, o) :: r, (v, t) :: cs, h => by
    simp only [ab_lchk, Bool.and_eq_true, beq_iff_eq] at h
    obtain ⟨h1, h2, h3⟩ := h
    by_cases hx : x = v
    · refine ⟨o, t, ?_, h2, Or.inl ⟨(v, t), List.mem_cons_self, hx, rfl⟩⟩
      rw [Op.lookupswitch.offset_cons, if_pos]
      rw [hx, h1]
    · obtain ⟨off, tgt, e1, e2, e3⟩ := ab_lchk_ok r cs h3
      refine ⟨off, tgt, (lv_osw hx h1).trans e1, e2, ?_⟩
      rcases e3 with ⟨c, hc, e4⟩ | ⟨e4, e5⟩
      · exact Or.inl ⟨c, List.mem_cons_of_mem _ hc, e4⟩
      · exact Or.inr ⟨fun c hc => by
          rcases List.mem_cons.mp hc with rfl | hc
          · exact hx
          · exact e4 c hc, e5⟩
  | [], _ :: _, h => by simp [ab_lchk] at h
  | _ :: _, [], h => by simp [ab_lchk] at h
def ab_tchk (pc : Nat) (dflt lo hi : Int) (offs : Array Int) (cs : List (Int32 × Nat)) (dt : Nat) : Bool :=
  ((pc : Int) + dflt == (dt : Int)) && (cs.all (fun c => decide (lo ≤ c.1.toInt) && decide (c.1.toInt ≤ hi)) && (List.range (hi - lo + 1).toNat).all (fun i => match offs[i]? with
    | some off => decide (0 ≤ (pc : Int) + off) && (cs.any (fun c => c.1.toInt == lo + i && (c.2 : Int) == (pc : Int) + off) || (((pc : Int) + off == (dt : Int)) && cs.all (fun c => !(c.1.toInt == lo + i))))
    | none => false))
theorem ab_c0 {P : Int32 × Nat → Prop} : ∀ c ∈ ([] : List (Int32 × Nat)), P c := fun _ h => absurd h List.not_mem_nil
theorem ab_c1 {P : Int32 × Nat → Prop} {a : Int32 × Nat} {cs : List (Int32 × Nat)} (h : P a) (hs : ∀ c ∈ cs, P c) : ∀ c ∈ a :: cs, P c := fun c hc => by
  rcases List.mem_cons.mp hc with rfl | hc
  · exact h
  · exact hs c hc
section ABSW
variable {M : ab_M} {d mc ms : Nat} {tt : Prop} {Q : Option Value → ab_S → Prop} {kc ks pc : Nat} {ls : List (Option Value)} {st : List Value} {σ : ab_S}
theorem ab_lsw {dflt : Int} {ps : Array (Int × Int)} {len : Nat} {x : Int32} (cs : List (Int32 × Nat)) (dt : Nat) (hd : decode M.2.1 pc = .ok (.lookupswitch dflt ps, len)) (hp : (ps.toList.zip (ps.toList.drop 1)).all (fun (a, next) => a.1 < next.1) = true) (hc : ab_lchk pc dflt ps.toList cs dt = true)
    (hin : ∀ c ∈ cs, x = c.1 → ab_V M d mc ms tt Q kc ks c.2 ls st σ) (hout : (∀ c ∈ cs, ¬ x = c.1) → ab_V M d mc ms tt Q kc ks dt ls st σ) : ab_V M d mc ms tt Q kc ks pc ls (.int x :: st) σ := by
  intro p l e s m args below meth c H locs lsA G A hI hL hP hD hS ht
  obtain ⟨off, tgt, e1, e2, e3⟩ := ab_lchk_ok (x := x) ps.toList cs hc
  refine lv_lookup (tgt := tgt) hI.1 hI.2.1 hd hp e1 e2 ?_
  rcases e3 with ⟨c0, h0, h1, rfl⟩ | ⟨h0, rfl⟩
  · exact hin c0 h0 h1 p l e s m args below meth c H locs lsA G A hI hL hP hD hS ht
  · exact hout h0 p l e s m args below meth c H locs lsA G A hI hL hP hD hS ht
theorem ab_tsw {dflt lo hi : Int} {offs : Array Int} {len : Nat} {x : Int32} (cs : List (Int32 × Nat)) (dt : Nat) (hd : decode M.2.1 pc = .ok (.tableswitch dflt lo hi offs, len)) (hc : ab_tchk pc dflt lo hi offs cs dt = true)
    (hin : ∀ c ∈ cs, x = c.1 → ab_V M d mc ms tt Q kc ks c.2 ls st σ) (hout : (∀ c ∈ cs, ¬ x = c.1) → ab_V M d mc ms tt Q kc ks dt ls st σ) : ab_V M d mc ms tt Q kc ks pc ls (.int x :: st) σ := by
  intro p l e s m args below meth c H locs lsA G A hI hL hP hD hS ht
  simp only [ab_tchk, Bool.and_eq_true, beq_iff_eq, List.all_eq_true, decide_eq_true_eq] at hc
  obtain ⟨h1, h2, h3⟩ := hc
  by_cases hr : x.toInt < lo ∨ hi < x.toInt
  · refine lv_tableOut (tgt := dt) hI.1 hI.2.1 hd hr h1 ?_
    exact hout (fun c0 hc0 hx => by have h4 := h2 c0 hc0; rw [← hx] at h4; omega) p l e s m args below meth c H locs lsA G A hI hL hP hD hS ht
  · have hr1 : ¬ x.toInt < lo := fun h => hr (Or.inl h)
    have hr2 : ¬ hi < x.toInt := fun h => hr (Or.inr h)
    have h5 := h3 (x.toInt - lo).toNat (List.mem_range.mpr (by omega))
    have hi2 : lo + ((x.toInt - lo).toNat : Int) = x.toInt := by omega
    cases ho : offs[(x.toInt - lo).toNat]? with
    | none => rw [ho] at h5; cases h5
    | some off =>
      rw [ho] at h5
      simp only [Bool.and_eq_true, Bool.or_eq_true, decide_eq_true_eq, List.any_eq_true, beq_iff_eq, List.all_eq_true, Bool.not_eq_true', beq_eq_false_iff_ne, ne_eq, hi2] at h5
      obtain ⟨h6, h7⟩ := h5
      rcases h7 with ⟨c0, h8, h9, h10⟩ | ⟨h8, h9⟩
      · refine lv_tableIn (tgt := c0.2) hI.1 hI.2.1 hd hr1 hr2 ho h10.symm ?_
        exact hin c0 h8 (Int32.toInt_inj.mp h9.symm) p l e s m args below meth c H locs lsA G A hI hL hP hD hS ht
      · refine lv_tableIn (tgt := dt) hI.1 hI.2.1 hd hr1 hr2 ho h8 ?_
        exact hout (fun c0 hc0 hx => h9 c0 hc0 (by rw [hx])) p l e s m args below meth c H locs lsA G A hI hL hP hD hS ht
end ABSW
theorem fi_X0_init : ab_FI mX0_init 0 := ⟨⟨cd_X0_init, in_X0, by decide +kernel, by decide⟩, rfl, im_X0_init, rfl⟩
theorem fv_X0_look : ab_FV mX0_look 1 0 := ⟨⟨cd_X0_look, in_X0, by decide +kernel, by decide⟩, im_X0_look, sl_X0_look, _, _, rfl⟩
theorem fv_X0_grow : ab_FV mX0_grow 0 0 := ⟨⟨cd_X0_grow, in_X0, by decide +kernel, by decide⟩, im_X0_grow, sl_X0_grow, _, _, rfl⟩
theorem fv_X0_take : ab_FV mX0_take 1 0 := ⟨⟨cd_X0_take, in_X0, by decide +kernel, by decide⟩, im_X0_take, sl_X0_take, _, _, rfl⟩
theorem fv_X0_firstFor : ab_FV mX0_firstFor 1 0 := ⟨⟨cd_X0_firstFor, in_X0, by decide +kernel, by decide⟩, im_X0_firstFor, sl_X0_firstFor, _, _, rfl⟩
theorem fv_X0_firstOf : ab_FV mX0_firstOf 1 0 := ⟨⟨cd_X0_firstOf, in_X0, by decide +kernel, by decide⟩, im_X0_firstOf, sl_X0_firstOf, _, _, rfl⟩
theorem fv_X0_dropFrom : ab_FV mX0_dropFrom 1 0 := ⟨⟨cd_X0_dropFrom, in_X0, by decide +kernel, by decide⟩, im_X0_dropFrom, sl_X0_dropFrom, _, _, rfl⟩
theorem fi_X1_init : ab_FI mX1_init 0 := ⟨⟨cd_X1_init, in_X1, by decide +kernel, by decide⟩, rfl, im_X1_init, rfl⟩
theorem fv_X1_draft : ab_FV mX1_draft 4 1 := ⟨⟨cd_X1_draft, in_X1, by decide +kernel, by decide⟩, im_X1_draft, sl_X1_draft, _, _, rfl⟩
theorem fv_X1_send : ab_FV mX1_send 5 1 := ⟨⟨cd_X1_send, in_X1, by decide +kernel, by decide⟩, im_X1_send, sl_X1_send, _, _, rfl⟩
theorem fv_X1_postLoose : ab_FV mX1_postLoose 5 1 := ⟨⟨cd_X1_postLoose, in_X1, by decide +kernel, by decide⟩, im_X1_postLoose, sl_X1_postLoose, _, _, rfl⟩
theorem fv_X1_sendHeld : ab_FV mX1_sendHeld 1 1 := ⟨⟨cd_X1_sendHeld, in_X1, by decide +kernel, by decide⟩, im_X1_sendHeld, sl_X1_sendHeld, _, _, rfl⟩
theorem fv_X1_post : ab_FV mX1_post 2 1 := ⟨⟨cd_X1_post, in_X1, by decide +kernel, by decide⟩, im_X1_post, sl_X1_post, _, _, rfl⟩
theorem fv_X1_end : ab_FV mX1_end 1 1 := ⟨⟨cd_X1_end, in_X1, by decide +kernel, by decide⟩, im_X1_end, sl_X1_end, _, _, rfl⟩
theorem fv_X1_startDriver : ab_FV mX1_startDriver 0 1 := ⟨⟨cd_X1_startDriver, in_X1, by decide +kernel, by decide⟩, im_X1_startDriver, sl_X1_startDriver, _, _, rfl⟩
theorem fv_X1_livingUsers : ab_FV mX1_livingUsers 0 1 := ⟨⟨cd_X1_livingUsers, in_X1, by decide +kernel, by decide⟩, im_X1_livingUsers, sl_X1_livingUsers, _, _, rfl⟩
theorem fi_X2_init : ab_FI mX2_init 0 := ⟨⟨cd_X2_init, in_X2, by decide +kernel, by decide⟩, rfl, im_X2_init, rfl⟩
theorem fv_X2_takeTurn : ab_FV mX2_takeTurn 1 2 := ⟨⟨cd_X2_takeTurn, in_X2, by decide +kernel, by decide⟩, im_X2_takeTurn, sl_X2_takeTurn, _, _, rfl⟩
theorem fv_X2_begin : ab_FV mX2_begin 1 2 := ⟨⟨cd_X2_begin, in_X2, by decide +kernel, by decide⟩, im_X2_begin, sl_X2_begin, _, _, rfl⟩
theorem fv_X2_work : ab_FV mX2_work 1 2 := ⟨⟨cd_X2_work, in_X2, by decide +kernel, by decide⟩, im_X2_work, sl_X2_work, _, _, rfl⟩
theorem fv_X2_loseAll : ab_FV mX2_loseAll 0 2 := ⟨⟨cd_X2_loseAll, in_X2, by decide +kernel, by decide⟩, im_X2_loseAll, sl_X2_loseAll, _, _, rfl⟩
theorem fi_X3_init : ab_FI mX3_init 0 := ⟨⟨cd_X3_init, in_X3, by decide +kernel, by decide⟩, rfl, im_X3_init, rfl⟩
theorem fv_X3_takeTurn : ab_FV mX3_takeTurn 1 3 := ⟨⟨cd_X3_takeTurn, in_X3, by decide +kernel, by decide⟩, im_X3_takeTurn, sl_X3_takeTurn, _, _, rfl⟩
theorem fv_X3_handle : ab_FV mX3_handle 4 3 := ⟨⟨cd_X3_handle, in_X3, by decide +kernel, by decide⟩, im_X3_handle, sl_X3_handle, _, _, rfl⟩
theorem fv_X3_openFile : ab_FV mX3_openFile 2 3 := ⟨⟨cd_X3_openFile, in_X3, by decide +kernel, by decide⟩, im_X3_openFile, sl_X3_openFile, _, _, rfl⟩
theorem fv_X3_removeFile : ab_FV mX3_removeFile 1 3 := ⟨⟨cd_X3_removeFile, in_X3, by decide +kernel, by decide⟩, im_X3_removeFile, sl_X3_removeFile, _, _, rfl⟩
theorem fv_X3_read : ab_FV mX3_read 3 3 := ⟨⟨cd_X3_read, in_X3, by decide +kernel, by decide⟩, im_X3_read, sl_X3_read, _, _, rfl⟩
theorem fv_X3_write : ab_FV mX3_write 4 3 := ⟨⟨cd_X3_write, in_X3, by decide +kernel, by decide⟩, im_X3_write, sl_X3_write, _, _, rfl⟩
theorem fv_X3_whyNotWrite : ab_FV mX3_whyNotWrite 2 3 := ⟨⟨cd_X3_whyNotWrite, in_X3, by decide +kernel, by decide⟩, im_X3_whyNotWrite, sl_X3_whyNotWrite, _, _, rfl⟩
theorem fv_X3_takeInHand : ab_FV mX3_takeInHand 4 3 := ⟨⟨cd_X3_takeInHand, in_X3, by decide +kernel, by decide⟩, im_X3_takeInHand, sl_X3_takeInHand, _, _, rfl⟩
theorem fv_X3_ask : ab_FV mX3_ask 2 3 := ⟨⟨cd_X3_ask, in_X3, by decide +kernel, by decide⟩, im_X3_ask, sl_X3_ask, _, _, rfl⟩
theorem fv_X3_hearOfLife : ab_FV mX3_hearOfLife 2 3 := ⟨⟨cd_X3_hearOfLife, in_X3, by decide +kernel, by decide⟩, im_X3_hearOfLife, sl_X3_hearOfLife, _, _, rfl⟩
theorem fv_X3_goOn : ab_FV mX3_goOn 2 3 := ⟨⟨cd_X3_goOn, in_X3, by decide +kernel, by decide⟩, im_X3_goOn, sl_X3_goOn, _, _, rfl⟩
theorem fi_X4_init : ab_FI mX4_init 0 := ⟨⟨cd_X4_init, in_X4, by decide +kernel, by decide⟩, rfl, im_X4_init, rfl⟩
theorem fv_X4_has : ab_FV mX4_has 1 4 := ⟨⟨cd_X4_has, in_X4, by decide +kernel, by decide⟩, im_X4_has, sl_X4_has, _, _, rfl⟩
theorem fv_X4_sizeOf : ab_FV mX4_sizeOf 1 4 := ⟨⟨cd_X4_sizeOf, in_X4, by decide +kernel, by decide⟩, im_X4_sizeOf, sl_X4_sizeOf, _, _, rfl⟩
theorem fv_X4_blockOf : ab_FV mX4_blockOf 2 4 := ⟨⟨cd_X4_blockOf, in_X4, by decide +kernel, by decide⟩, im_X4_blockOf, sl_X4_blockOf, _, _, rfl⟩
theorem fv_X4_make : ab_FV mX4_make 1 4 := ⟨⟨cd_X4_make, in_X4, by decide +kernel, by decide⟩, im_X4_make, sl_X4_make, _, _, rfl⟩
theorem fv_X4_discard : ab_FV mX4_discard 1 4 := ⟨⟨cd_X4_discard, in_X4, by decide +kernel, by decide⟩, im_X4_discard, sl_X4_discard, _, _, rfl⟩
theorem fv_X4_release : ab_FV mX4_release 1 4 := ⟨⟨cd_X4_release, in_X4, by decide +kernel, by decide⟩, im_X4_release, sl_X4_release, _, _, rfl⟩
theorem fv_X4_needsBlock : ab_FV mX4_needsBlock 2 4 := ⟨⟨cd_X4_needsBlock, in_X4, by decide +kernel, by decide⟩, im_X4_needsBlock, sl_X4_needsBlock, _, _, rfl⟩
theorem fv_X4_takeBlock : ab_FV mX4_takeBlock 2 4 := ⟨⟨cd_X4_takeBlock, in_X4, by decide +kernel, by decide⟩, im_X4_takeBlock, sl_X4_takeBlock, _, _, rfl⟩
theorem fv_X4_growOver : ab_FV mX4_growOver 2 4 := ⟨⟨cd_X4_growOver, in_X4, by decide +kernel, by decide⟩, im_X4_growOver, sl_X4_growOver, _, _, rfl⟩
theorem fi_X5_init : ab_FI mX5_init 0 := ⟨⟨cd_X5_init, in_X5, by decide +kernel, by decide⟩, rfl, im_X5_init, rfl⟩
theorem fv_X5_takeTurn : ab_FV mX5_takeTurn 1 5 := ⟨⟨cd_X5_takeTurn, in_X5, by decide +kernel, by decide⟩, im_X5_takeTurn, sl_X5_takeTurn, _, _, rfl⟩
theorem fv_X5_check : ab_FV mX5_check 1 5 := ⟨⟨cd_X5_check, in_X5, by decide +kernel, by decide⟩, im_X5_check, sl_X5_check, _, _, rfl⟩
theorem fv_X5_watchDead : ab_FV mX5_watchDead 1 5 := ⟨⟨cd_X5_watchDead, in_X5, by decide +kernel, by decide⟩, im_X5_watchDead, sl_X5_watchDead, _, _, rfl⟩
theorem fi_X6_init : ab_FI mX6_init 0 := ⟨⟨cd_X6_init, in_X6, by decide +kernel, by decide⟩, rfl, im_X6_init, rfl⟩
theorem fv_X6_write : ab_FV mX6_write 4 6 := ⟨⟨cd_X6_write, in_X6, by decide +kernel, by decide⟩, im_X6_write, sl_X6_write, _, _, rfl⟩
theorem fv_X6_setNumbers : ab_FV mX6_setNumbers 2 6 := ⟨⟨cd_X6_setNumbers, in_X6, by decide +kernel, by decide⟩, im_X6_setNumbers, sl_X6_setNumbers, _, _, rfl⟩
theorem fv_X6_copy : ab_FV mX6_copy 1 6 := ⟨⟨cd_X6_copy, in_X6, by decide +kernel, by decide⟩, im_X6_copy, sl_X6_copy, _, _, rfl⟩
theorem fi_X7_init : ab_FI mX7_init 0 := ⟨⟨cd_X7_init, in_X7, by decide +kernel, by decide⟩, rfl, im_X7_init, rfl⟩
theorem fv_X7_slot : ab_FV mX7_slot 2 7 := ⟨⟨cd_X7_slot, in_X7, by decide +kernel, by decide⟩, im_X7_slot, sl_X7_slot, _, _, rfl⟩
theorem fv_X7_fileAt : ab_FV mX7_fileAt 2 7 := ⟨⟨cd_X7_fileAt, in_X7, by decide +kernel, by decide⟩, im_X7_fileAt, sl_X7_fileAt, _, _, rfl⟩
theorem fv_X7_placeAt : ab_FV mX7_placeAt 2 7 := ⟨⟨cd_X7_placeAt, in_X7, by decide +kernel, by decide⟩, im_X7_placeAt, sl_X7_placeAt, _, _, rfl⟩
theorem fv_X7_setPlace : ab_FV mX7_setPlace 3 7 := ⟨⟨cd_X7_setPlace, in_X7, by decide +kernel, by decide⟩, im_X7_setPlace, sl_X7_setPlace, _, _, rfl⟩
theorem fv_X7_leastFree : ab_FV mX7_leastFree 1 7 := ⟨⟨cd_X7_leastFree, in_X7, by decide +kernel, by decide⟩, im_X7_leastFree, sl_X7_leastFree, _, _, rfl⟩
theorem fv_X7_howMany : ab_FV mX7_howMany 1 7 := ⟨⟨cd_X7_howMany, in_X7, by decide +kernel, by decide⟩, im_X7_howMany, sl_X7_howMany, _, _, rfl⟩
theorem fv_X7_anybodyHas : ab_FV mX7_anybodyHas 1 7 := ⟨⟨cd_X7_anybodyHas, in_X7, by decide +kernel, by decide⟩, im_X7_anybodyHas, sl_X7_anybodyHas, _, _, rfl⟩
theorem fv_X7_set : ab_FV mX7_set 4 7 := ⟨⟨cd_X7_set, in_X7, by decide +kernel, by decide⟩, im_X7_set, sl_X7_set, _, _, rfl⟩
theorem fv_X7_closeAll : ab_FV mX7_closeAll 1 7 := ⟨⟨cd_X7_closeAll, in_X7, by decide +kernel, by decide⟩, im_X7_closeAll, sl_X7_closeAll, _, _, rfl⟩
theorem fv_X7_copyAll : ab_FV mX7_copyAll 2 7 := ⟨⟨cd_X7_copyAll, in_X7, by decide +kernel, by decide⟩, im_X7_copyAll, sl_X7_copyAll, _, _, rfl⟩
theorem fi_X8_init : ab_FI mX8_init 0 := ⟨⟨cd_X8_init, in_X8, by decide +kernel, by decide⟩, rfl, im_X8_init, rfl⟩
theorem fv_X8_hasEnded : ab_FV mX8_hasEnded 1 8 := ⟨⟨cd_X8_hasEnded, in_X8, by decide +kernel, by decide⟩, im_X8_hasEnded, sl_X8_hasEnded, _, _, rfl⟩
theorem fv_X8_parentOf : ab_FV mX8_parentOf 1 8 := ⟨⟨cd_X8_parentOf, in_X8, by decide +kernel, by decide⟩, im_X8_parentOf, sl_X8_parentOf, _, _, rfl⟩
theorem fv_X8_codeOf : ab_FV mX8_codeOf 1 8 := ⟨⟨cd_X8_codeOf, in_X8, by decide +kernel, by decide⟩, im_X8_codeOf, sl_X8_codeOf, _, _, rfl⟩
theorem fv_X8_takeTurn : ab_FV mX8_takeTurn 2 8 := ⟨⟨cd_X8_takeTurn, in_X8, by decide +kernel, by decide⟩, im_X8_takeTurn, sl_X8_takeTurn, _, _, rfl⟩
theorem fv_X8_fork : ab_FV mX8_fork 2 8 := ⟨⟨cd_X8_fork, in_X8, by decide +kernel, by decide⟩, im_X8_fork, sl_X8_fork, _, _, rfl⟩
theorem fv_X8_end : ab_FV mX8_end 5 8 := ⟨⟨cd_X8_end, in_X8, by decide +kernel, by decide⟩, im_X8_end, sl_X8_end, _, _, rfl⟩
theorem fv_X8_waitFor : ab_FV mX8_waitFor 3 8 := ⟨⟨cd_X8_waitFor, in_X8, by decide +kernel, by decide⟩, im_X8_waitFor, sl_X8_waitFor, _, _, rfl⟩
theorem fv_X8_await : ab_FV mX8_await 2 8 := ⟨⟨cd_X8_await, in_X8, by decide +kernel, by decide⟩, im_X8_await, sl_X8_await, _, _, rfl⟩
theorem fv_X8_collect : ab_FV mX8_collect 1 8 := ⟨⟨cd_X8_collect, in_X8, by decide +kernel, by decide⟩, im_X8_collect, sl_X8_collect, _, _, rfl⟩
theorem fv_X8_goOn : ab_FV mX8_goOn 1 8 := ⟨⟨cd_X8_goOn, in_X8, by decide +kernel, by decide⟩, im_X8_goOn, sl_X8_goOn, _, _, rfl⟩
theorem fv_X8_leaveChildren : ab_FV mX8_leaveChildren 1 8 := ⟨⟨cd_X8_leaveChildren, in_X8, by decide +kernel, by decide⟩, im_X8_leaveChildren, sl_X8_leaveChildren, _, _, rfl⟩
theorem fi_X9_init : ab_FI mX9_init 0 := ⟨⟨cd_X9_init, in_X9, by decide +kernel, by decide⟩, rfl, im_X9_init, rfl⟩
theorem fv_X9_hasCall : ab_FV mX9_hasCall 1 9 := ⟨⟨cd_X9_hasCall, in_X9, by decide +kernel, by decide⟩, im_X9_hasCall, sl_X9_hasCall, _, _, rfl⟩
theorem fv_X9_setCall : ab_FV mX9_setCall 2 9 := ⟨⟨cd_X9_setCall, in_X9, by decide +kernel, by decide⟩, im_X9_setCall, sl_X9_setCall, _, _, rfl⟩
theorem fv_X9_takeTurn : ab_FV mX9_takeTurn 2 9 := ⟨⟨cd_X9_takeTurn, in_X9, by decide +kernel, by decide⟩, im_X9_takeTurn, sl_X9_takeTurn, _, _, rfl⟩
theorem fi_X10_init : ab_FI mX10_init 0 := ⟨⟨cd_X10_init, in_X10, by decide +kernel, by decide⟩, rfl, im_X10_init, rfl⟩
theorem fv_X10_call : ab_FV mX10_call 4 10 := ⟨⟨cd_X10_call, in_X10, by decide +kernel, by decide⟩, im_X10_call, sl_X10_call, _, _, rfl⟩
theorem fv_X10_steps : ab_FV mX10_steps 1 10 := ⟨⟨cd_X10_steps, in_X10, by decide +kernel, by decide⟩, im_X10_steps, sl_X10_steps, _, _, rfl⟩
theorem fv_X10_until : ab_FV mX10_until 2 10 := ⟨⟨cd_X10_until, in_X10, by decide +kernel, by decide⟩, im_X10_until, sl_X10_until, _, _, rfl⟩
theorem fv_X10_crash : ab_FV mX10_crash 0 10 := ⟨⟨cd_X10_crash, in_X10, by decide +kernel, by decide⟩, im_X10_crash, sl_X10_crash, _, _, rfl⟩
theorem fv_X10_hang : ab_FV mX10_hang 0 10 := ⟨⟨cd_X10_hang, in_X10, by decide +kernel, by decide⟩, im_X10_hang, sl_X10_hang, _, _, rfl⟩
theorem fv_X10_force : ab_FV mX10_force 2 10 := ⟨⟨cd_X10_force, in_X10, by decide +kernel, by decide⟩, im_X10_force, sl_X10_force, _, _, rfl⟩
theorem fv_X10_user : ab_FV mX10_user 2 10 := ⟨⟨cd_X10_user, in_X10, by decide +kernel, by decide⟩, im_X10_user, sl_X10_user, _, _, rfl⟩
theorem fv_X10_descriptor : ab_FV mX10_descriptor 3 10 := ⟨⟨cd_X10_descriptor, in_X10, by decide +kernel, by decide⟩, im_X10_descriptor, sl_X10_descriptor, _, _, rfl⟩
theorem fv_X10_file : ab_FV mX10_file 2 10 := ⟨⟨cd_X10_file, in_X10, by decide +kernel, by decide⟩, im_X10_file, sl_X10_file, _, _, rfl⟩
theorem fv_X10_disk : ab_FV mX10_disk 2 10 := ⟨⟨cd_X10_disk, in_X10, by decide +kernel, by decide⟩, im_X10_disk, sl_X10_disk, _, _, rfl⟩
theorem fv_X10_inbox : ab_FV mX10_inbox 1 10 := ⟨⟨cd_X10_inbox, in_X10, by decide +kernel, by decide⟩, im_X10_inbox, sl_X10_inbox, _, _, rfl⟩
theorem fv_X10_message : ab_FV mX10_message 3 10 := ⟨⟨cd_X10_message, in_X10, by decide +kernel, by decide⟩, im_X10_message, sl_X10_message, _, _, rfl⟩
theorem fv_X10_count : ab_FV mX10_count 1 10 := ⟨⟨cd_X10_count, in_X10, by decide +kernel, by decide⟩, im_X10_count, sl_X10_count, _, _, rfl⟩
theorem fv_X10_giveTurn : ab_FV mX10_giveTurn 0 10 := ⟨⟨cd_X10_giveTurn, in_X10, by decide +kernel, by decide⟩, im_X10_giveTurn, sl_X10_giveTurn, _, _, rfl⟩
theorem fv_X10_breakDriver : ab_FV mX10_breakDriver 0 10 := ⟨⟨cd_X10_breakDriver, in_X10, by decide +kernel, by decide⟩, im_X10_breakDriver, sl_X10_breakDriver, _, _, rfl⟩
theorem fs_X10_isPart : ab_FS mX10_isPart 1 := ⟨⟨cd_X10_isPart, in_X10, by decide +kernel, by decide⟩, sm_X10_isPart⟩
theorem fs_X10_isUser : ab_FS mX10_isUser 1 := ⟨⟨cd_X10_isUser, in_X10, by decide +kernel, by decide⟩, sm_X10_isUser⟩
theorem fv_X11_thrown : ab_FV mX11_thrown 0 11 := ⟨⟨cd_X11_thrown, in_X11, by decide +kernel, by decide⟩, im_X11_thrown, sl_X11_thrown, _, _, rfl⟩
theorem fv_X11_drafts : ab_FV mX11_drafts 3 11 := ⟨⟨cd_X11_drafts, in_X11, by decide +kernel, by decide⟩, im_X11_drafts, sl_X11_drafts, _, _, rfl⟩
theorem fs_X11_isUser : ab_FS mX11_isUser 1 := ⟨⟨cd_X11_isUser, in_X11, by decide +kernel, by decide⟩, sm_X11_isUser⟩
theorem fs_X11_isAllowed : ab_FS mX11_isAllowed 2 := ⟨⟨cd_X11_isAllowed, in_X11, by decide +kernel, by decide⟩, sm_X11_isAllowed⟩
theorem fv_X11_lives : ab_FV mX11_lives 1 11 := ⟨⟨cd_X11_lives, in_X11, by decide +kernel, by decide⟩, im_X11_lives, sl_X11_lives, _, _, rfl⟩
theorem fv_X11_send : ab_FV mX11_send 3 11 := ⟨⟨cd_X11_send, in_X11, by decide +kernel, by decide⟩, im_X11_send, sl_X11_send, _, _, rfl⟩
theorem fv_X11_sends : ab_FV mX11_sends 2 11 := ⟨⟨cd_X11_sends, in_X11, by decide +kernel, by decide⟩, im_X11_sends, sl_X11_sends, _, _, rfl⟩
theorem fv_X11_sendsAgain : ab_FV mX11_sendsAgain 1 11 := ⟨⟨cd_X11_sendsAgain, in_X11, by decide +kernel, by decide⟩, im_X11_sendsAgain, sl_X11_sendsAgain, _, _, rfl⟩
theorem fv_X11_takeOut : ab_FV mX11_takeOut 2 11 := ⟨⟨cd_X11_takeOut, in_X11, by decide +kernel, by decide⟩, im_X11_takeOut, sl_X11_takeOut, _, _, rfl⟩
theorem fv_X11_drop : ab_FV mX11_drop 2 11 := ⟨⟨cd_X11_drop, in_X11, by decide +kernel, by decide⟩, im_X11_drop, sl_X11_drop, _, _, rfl⟩
theorem fv_X11_field : ab_FV mX11_field 3 11 := ⟨⟨cd_X11_field, in_X11, by decide +kernel, by decide⟩, im_X11_field, sl_X11_field, _, _, rfl⟩
theorem fi_X11_init : ab_FI mX11_init 0 := ⟨⟨cd_X11_init, in_X11, by decide +kernel, by decide⟩, rfl, im_X11_init, rfl⟩
theorem fv_X11_crashesNow : ab_FV mX11_crashesNow 0 11 := ⟨⟨cd_X11_crashesNow, in_X11, by decide +kernel, by decide⟩, im_X11_crashesNow, sl_X11_crashesNow, _, _, rfl⟩
theorem fv_X11_keeper : ab_FV mX11_keeper 0 11 := ⟨⟨cd_X11_keeper, in_X11, by decide +kernel, by decide⟩, im_X11_keeper, sl_X11_keeper, _, _, rfl⟩
theorem fv_X11_starts : ab_FV mX11_starts 0 11 := ⟨⟨cd_X11_starts, in_X11, by decide +kernel, by decide⟩, im_X11_starts, sl_X11_starts, _, _, rfl⟩
theorem fv_X11_driver : ab_FV mX11_driver 0 11 := ⟨⟨cd_X11_driver, in_X11, by decide +kernel, by decide⟩, im_X11_driver, sl_X11_driver, _, _, rfl⟩
theorem fv_X11_works : ab_FV mX11_works 0 11 := ⟨⟨cd_X11_works, in_X11, by decide +kernel, by decide⟩, im_X11_works, sl_X11_works, _, _, rfl⟩
theorem fv_X11_files : ab_FV mX11_files 0 11 := ⟨⟨cd_X11_files, in_X11, by decide +kernel, by decide⟩, im_X11_files, sl_X11_files, _, _, rfl⟩
theorem fv_X11_asksDriver : ab_FV mX11_asksDriver 0 11 := ⟨⟨cd_X11_asksDriver, in_X11, by decide +kernel, by decide⟩, im_X11_asksDriver, sl_X11_asksDriver, _, _, rfl⟩
theorem fv_X11_tells : ab_FV mX11_tells 3 11 := ⟨⟨cd_X11_tells, in_X11, by decide +kernel, by decide⟩, im_X11_tells, sl_X11_tells, _, _, rfl⟩
theorem fv_X11_copies : ab_FV mX11_copies 2 11 := ⟨⟨cd_X11_copies, in_X11, by decide +kernel, by decide⟩, im_X11_copies, sl_X11_copies, _, _, rfl⟩
theorem fv_X11_closesAll : ab_FV mX11_closesAll 1 11 := ⟨⟨cd_X11_closesAll, in_X11, by decide +kernel, by decide⟩, im_X11_closesAll, sl_X11_closesAll, _, _, rfl⟩
theorem fv_X11_begins : ab_FV mX11_begins 4 11 := ⟨⟨cd_X11_begins, in_X11, by decide +kernel, by decide⟩, im_X11_begins, sl_X11_begins, _, _, rfl⟩
theorem fv_X11_opens : ab_FV mX11_opens 2 11 := ⟨⟨cd_X11_opens, in_X11, by decide +kernel, by decide⟩, im_X11_opens, sl_X11_opens, _, _, rfl⟩
theorem fv_X11_filesThere : ab_FV mX11_filesThere 0 11 := ⟨⟨cd_X11_filesThere, in_X11, by decide +kernel, by decide⟩, im_X11_filesThere, sl_X11_filesThere, _, _, rfl⟩
theorem fv_X11_removes : ab_FV mX11_removes 1 11 := ⟨⟨cd_X11_removes, in_X11, by decide +kernel, by decide⟩, im_X11_removes, sl_X11_removes, _, _, rfl⟩
theorem fv_X11_reads : ab_FV mX11_reads 3 11 := ⟨⟨cd_X11_reads, in_X11, by decide +kernel, by decide⟩, im_X11_reads, sl_X11_reads, _, _, rfl⟩
theorem fv_X11_writes : ab_FV mX11_writes 4 11 := ⟨⟨cd_X11_writes, in_X11, by decide +kernel, by decide⟩, im_X11_writes, sl_X11_writes, _, _, rfl⟩
theorem fv_X11_goesOn : ab_FV mX11_goesOn 0 11 := ⟨⟨cd_X11_goesOn, in_X11, by decide +kernel, by decide⟩, im_X11_goesOn, sl_X11_goesOn, _, _, rfl⟩
theorem fv_X11_processes : ab_FV mX11_processes 0 11 := ⟨⟨cd_X11_processes, in_X11, by decide +kernel, by decide⟩, im_X11_processes, sl_X11_processes, _, _, rfl⟩
theorem fv_X11_forks : ab_FV mX11_forks 1 11 := ⟨⟨cd_X11_forks, in_X11, by decide +kernel, by decide⟩, im_X11_forks, sl_X11_forks, _, _, rfl⟩
theorem fv_X11_holds : ab_FV mX11_holds 3 11 := ⟨⟨cd_X11_holds, in_X11, by decide +kernel, by decide⟩, im_X11_holds, sl_X11_holds, _, _, rfl⟩
theorem fv_X11_ends : ab_FV mX11_ends 4 11 := ⟨⟨cd_X11_ends, in_X11, by decide +kernel, by decide⟩, im_X11_ends, sl_X11_ends, _, _, rfl⟩
theorem fv_X11_done : ab_FV mX11_done 0 11 := ⟨⟨cd_X11_done, in_X11, by decide +kernel, by decide⟩, im_X11_done, sl_X11_done, _, _, rfl⟩
theorem fv_X11_freed : ab_FV mX11_freed 1 11 := ⟨⟨cd_X11_freed, in_X11, by decide +kernel, by decide⟩, im_X11_freed, sl_X11_freed, _, _, rfl⟩
theorem fv_X11_waitsFor : ab_FV mX11_waitsFor 1 11 := ⟨⟨cd_X11_waitsFor, in_X11, by decide +kernel, by decide⟩, im_X11_waitsFor, sl_X11_waitsFor, _, _, rfl⟩
theorem fv_X11_ofUser : ab_FV mX11_ofUser 1 11 := ⟨⟨cd_X11_ofUser, in_X11, by decide +kernel, by decide⟩, im_X11_ofUser, sl_X11_ofUser, _, _, rfl⟩
theorem fv_X11_turn : ab_FV mX11_turn 0 11 := ⟨⟨cd_X11_turn, in_X11, by decide +kernel, by decide⟩, im_X11_turn, sl_X11_turn, _, _, rfl⟩
theorem fv_X11_steps : ab_FV mX11_steps 1 11 := ⟨⟨cd_X11_steps, in_X11, by decide +kernel, by decide⟩, im_X11_steps, sl_X11_steps, _, _, rfl⟩
theorem fv_X11_until : ab_FV mX11_until 2 11 := ⟨⟨cd_X11_until, in_X11, by decide +kernel, by decide⟩, im_X11_until, sl_X11_until, _, _, rfl⟩
theorem fv_X11_call : ab_FV mX11_call 4 11 := ⟨⟨cd_X11_call, in_X11, by decide +kernel, by decide⟩, im_X11_call, sl_X11_call, _, _, rfl⟩
theorem fv_X11_crash : ab_FV mX11_crash 0 11 := ⟨⟨cd_X11_crash, in_X11, by decide +kernel, by decide⟩, im_X11_crash, sl_X11_crash, _, _, rfl⟩
theorem fv_X11_hang : ab_FV mX11_hang 0 11 := ⟨⟨cd_X11_hang, in_X11, by decide +kernel, by decide⟩, im_X11_hang, sl_X11_hang, _, _, rfl⟩
theorem fs_X11_isPart : ab_FS mX11_isPart 1 := ⟨⟨cd_X11_isPart, in_X11, by decide +kernel, by decide⟩, sm_X11_isPart⟩
theorem fv_X11_force : ab_FV mX11_force 2 11 := ⟨⟨cd_X11_force, in_X11, by decide +kernel, by decide⟩, im_X11_force, sl_X11_force, _, _, rfl⟩
theorem fv_X11_user : ab_FV mX11_user 2 11 := ⟨⟨cd_X11_user, in_X11, by decide +kernel, by decide⟩, im_X11_user, sl_X11_user, _, _, rfl⟩
theorem fv_X11_descriptor : ab_FV mX11_descriptor 3 11 := ⟨⟨cd_X11_descriptor, in_X11, by decide +kernel, by decide⟩, im_X11_descriptor, sl_X11_descriptor, _, _, rfl⟩
theorem fv_X11_file : ab_FV mX11_file 2 11 := ⟨⟨cd_X11_file, in_X11, by decide +kernel, by decide⟩, im_X11_file, sl_X11_file, _, _, rfl⟩
theorem fv_X11_disk : ab_FV mX11_disk 2 11 := ⟨⟨cd_X11_disk, in_X11, by decide +kernel, by decide⟩, im_X11_disk, sl_X11_disk, _, _, rfl⟩
theorem fv_X11_inbox : ab_FV mX11_inbox 1 11 := ⟨⟨cd_X11_inbox, in_X11, by decide +kernel, by decide⟩, im_X11_inbox, sl_X11_inbox, _, _, rfl⟩
theorem fv_X11_message : ab_FV mX11_message 3 11 := ⟨⟨cd_X11_message, in_X11, by decide +kernel, by decide⟩, im_X11_message, sl_X11_message, _, _, rfl⟩
theorem fv_X11_count : ab_FV mX11_count 1 11 := ⟨⟨cd_X11_count, in_X11, by decide +kernel, by decide⟩, im_X11_count, sl_X11_count, _, _, rfl⟩
theorem fs_J9_floorMod_7cf53 : ab_FS mJ9_floorMod_7cf53 2 := ⟨⟨cd_J9_floorMod_7cf53, in_J9, by decide +kernel, by decide⟩, sm_J9_floorMod_7cf53⟩
theorem nn_X1_27 : Cond.methodLinkNest RX1 27 yX6_init "ServerHouse" ∈ ab_nest := List.mem_of_getElem? (i := 0) rfl
theorem nn_X0_17 : Cond.methodLinkNest RX0 17 yX6_init "ServerHouse" ∈ ab_nest := List.mem_of_getElem? (i := 1) rfl
theorem nn_X10_18 : Cond.methodLinkNest RX10 18 yX5_init "ServerHouse" ∈ ab_nest := List.mem_of_getElem? (i := 2) rfl
theorem nn_X10_25 : Cond.methodLinkNest RX10 25 yX2_init "ServerHouse" ∈ ab_nest := List.mem_of_getElem? (i := 3) rfl
theorem nn_X10_32 : Cond.methodLinkNest RX10 32 yX3_init "ServerHouse" ∈ ab_nest := List.mem_of_getElem? (i := 4) rfl
theorem nn_X3_11 : Cond.methodLinkNest RX3 11 yX4_init "ServerHouse" ∈ ab_nest := List.mem_of_getElem? (i := 5) rfl
theorem nn_X10_46 : Cond.methodLinkNest RX10 46 yX9_init "ServerHouse" ∈ ab_nest := List.mem_of_getElem? (i := 6) rfl
theorem nn_X9_22 : Cond.methodLinkNest RX9 22 yX10_isUser "ServerHouse" ∈ ab_nest := List.mem_of_getElem? (i := 7) rfl
theorem nn_X1_37 : Cond.methodLinkNest RX1 37 yX10_isPart "ServerHouse" ∈ ab_nest := List.mem_of_getElem? (i := 8) rfl
theorem nn_X7_18 : Cond.methodLinkNest RX7 18 yX10_isUser "ServerHouse" ∈ ab_nest := List.mem_of_getElem? (i := 9) rfl
theorem nn_X8_55 : Cond.methodLinkNest RX8 55 yX10_isPart "ServerHouse" ∈ ab_nest := List.mem_of_getElem? (i := 10) rfl
theorem nn_X8_25 : Cond.methodLinkNest RX8 25 yX10_isUser "ServerHouse" ∈ ab_nest := List.mem_of_getElem? (i := 11) rfl
