/-! THE FACE: each call, class against reference, keeps JJ -/
theorem rd_j {c : Prop} [Decidable c] {a b : Int32 × mD} {m : mD} (ha : a.2 = m) (hb : b.2 = m) : (if c then a else b).2 = m := by by_cases h : c <;> simp [h, ha, hb]
theorem re_j {c : Prop} [Decidable c] {a b : Int32 × mD} {m : mD} (ha : ∃ v, a.2 = ab_up m 0 0 v) (hb : ∃ v, b.2 = ab_up m 0 0 v) : ∃ v, (if c then a else b).2 = ab_up m 0 0 v := by by_cases h : c <;> simp only [h, if_true, if_false, ha, hb]
theorem rd_user_40 : ∀ {n : Nat} {y0 y1 y2 : Int32} {y3 : Nat} {m : mD}, (Fuser_40 n y0 y1 y2 y3 m).2 = m := by
  intro n
  induction n with
  | zero => intro y0 y1 y2 y3 m; rfl
  | succ n ih =>
    intro y0 y1 y2 y3 m
    unfold Fuser_40
    repeat' (first | with_reducible exact rfl | with_reducible apply ih | with_reducible apply rd_j)
theorem rd_count_43 : ∀ {n : Nat} {y0 y1 y2 : Int32} {y3 : Nat} {m : mD}, (Fcount_43 n y0 y1 y2 y3 m).2 = m := by
  intro n
  induction n with
  | zero => intro y0 y1 y2 y3 m; rfl
  | succ n ih =>
    intro y0 y1 y2 y3 m
    unfold Fcount_43
    repeat' (first | with_reducible exact rfl | with_reducible apply ih | with_reducible apply rd_j)
theorem rd_count_9 : ∀ {n : Nat} {y0 y1 : Int32} {y3 : Nat} {m : mD}, (Fcount_9 n y0 y1 y3 m).2 = m := by
  intro n
  induction n with
  | zero => intro y0 y1 y3 m; rfl
  | succ n ih =>
    intro y0 y1 y3 m
    unfold Fcount_9
    repeat' (first | with_reducible exact rfl | with_reducible apply ih | with_reducible exact rd_count_43 | with_reducible apply rd_j)
section RE
variable {a b c : Int32} {m : mD}
theorem re_descriptor : ∃ v, (Fdescriptor a b c m).2 = ab_up m 0 0 v := by
  unfold Fdescriptor
  repeat' (first | with_reducible exact ⟨_, rfl⟩ | with_reducible apply re_j)
theorem re_file : ∃ v, (Ffile a b m).2 = ab_up m 0 0 v := by
  unfold Ffile
  repeat' (first | with_reducible exact ⟨_, rfl⟩ | with_reducible apply re_j)
theorem re_disk : ∃ v, (Fdisk a b m).2 = ab_up m 0 0 v := by
  unfold Fdisk
  repeat' (first | with_reducible exact ⟨_, rfl⟩ | with_reducible apply re_j)
theorem re_inbox : ∃ v, (Finbox a m).2 = ab_up m 0 0 v := by
  unfold Finbox
  repeat' (first | with_reducible exact ⟨_, rfl⟩ | with_reducible apply re_j)
theorem re_message : ∃ v, (Fmessage a b c m).2 = ab_up m 0 0 v := by
  unfold Fmessage
  repeat' (first | with_reducible exact ⟨_, rfl⟩ | with_reducible apply re_j)
theorem re_count : ∃ v, (Fcount a m).2 = ab_up m 0 0 v := by
  unfold Fcount
  repeat' (first | with_reducible exact ⟨_, rfl⟩ | with_reducible exact ⟨_, rd_count_9⟩ | with_reducible apply re_j)
theorem re_user : ∃ v, (Fuser a b m).2 = ab_up m 0 0 v := by
  have e0 : ¬ (ab_up m 0 0 (nI 1)) 0 0 ≤ 0 := by rw [ab_up_eq]; decide
  by_cases c1 : FisUser a = 0
  · refine ⟨nI 1, ?_⟩
    rw [Fuser, if_pos c1, if_neg e0]
  · by_cases c2 : b < 0
    · refine ⟨nI 1, ?_⟩
      rw [Fuser, if_neg c1, if_pos c2, if_neg e0]
    · by_cases c3 : nI 6 < b
      · refine ⟨nI 1, ?_⟩
        rw [Fuser, if_neg c1, if_neg c2, if_pos c3, if_neg e0]
      · refine ⟨nI 0, ?_⟩
        rw [(Fuser_ok c1 c2 c3).1]
        exact rd_user_40
end RE
/-- a reader: the reference's state changes in the thrown field alone -/
theorem JJ.rd {S : Nat} {x x' : xD} {m m' : mD} (h : JJ S x m) (hR : R3 x' m') (e : ∃ v, m' = ab_up m 0 0 v) : JJ S x' m' := by
  obtain ⟨v, rfl⟩ := e
  exact ⟨hR, h.thr.2.1, h.thr (v := v).2.2⟩
section FA
variable {S : Nat} {x : xD} {m : mD} {a b c d : Int32}
theorem JJ.call (h : JJ S x m) : DX10_call a b c d x ∧ Dcall a b c d m ∧ (FX10_call a b c d x).1 = (Fcall a b c d m).1 ∧ JJ S (FX10_call a b c d x).2 (Fcall a b c d m).2 := by
  obtain ⟨g1, g2, g3, g4⟩ := call_rel (u := a) (k := b) (a := c) (b := d) h.1 h.2.1.1.2.2.2
  obtain ⟨k, hk, e⟩ := h.2.2
  exact ⟨g1, g2, g3, g4, h.2.1.callF, k, hk, nz_call e⟩
theorem JJ.crash (h : JJ S x m) : DX10_crash x ∧ (FX10_crash x).1 = (Fcrash m).1 ∧ JJ S (FX10_crash x).2 (Fcrash m).2 := by
  obtain ⟨g1, g2, g3⟩ := crash_rel h.1
  obtain ⟨k, hk, e⟩ := h.2.2
  exact ⟨g1, g2, g3, h.2.1.crashF, k, hk, nz_crash e⟩
theorem JJ.hang (h : JJ S x m) : (FX10_hang x).1 = (Fhang m).1 ∧ JJ S (FX10_hang x).2 (Fhang m).2 := by
  obtain ⟨g2, g3⟩ := hang_rel h.1
  obtain ⟨k, hk, e⟩ := h.2.2
  exact ⟨g2, g3, h.2.1.hangF, k, hk, nz_hang e⟩
theorem JJ.force (h : JJ S x m) : DX10_force a b x ∧ Dforce a b m ∧ (FX10_force a b x).1 = (Fforce a b m).1 ∧ JJ S (FX10_force a b x).2 (Fforce a b m).2 := by
  obtain ⟨g1, g2, g3, g4⟩ := force_rel (f := a) (t := b) h.1 h.2.1.1.2.2.2
  obtain ⟨k, hk, e⟩ := h.2.2
  exact ⟨g1, g2, g3, g4, h.2.1.forceF, k, hk, nz_force e⟩
theorem JJ.descriptor (h : JJ S x m) : DX10_descriptor a b c x ∧ Ddescriptor a b c m ∧ (FX10_descriptor a b c x).1 = (Fdescriptor a b c m).1 ∧ JJ S (FX10_descriptor a b c x).2 (Fdescriptor a b c m).2 := by
  obtain ⟨g1, g2, g3, g4⟩ := descriptor_rel (u := a) (d := b) (w := c) h.1 h.2.1.2.2.2.1
  exact ⟨g1, g2, g3, h.rd g4 re_descriptor⟩
theorem JJ.file (h : JJ S x m) : DX10_file a b x ∧ Dfile a b m ∧ (FX10_file a b x).1 = (Ffile a b m).1 ∧ JJ S (FX10_file a b x).2 (Ffile a b m).2 := by
  obtain ⟨g1, g2, g3, g4⟩ := file_rel (a := a) (w := b) h.1 h.2.1.2.2.2.2.2.1 h.2.1.blk
  exact ⟨g1, g2, g3, h.rd g4 re_file⟩
theorem JJ.inbox (h : JJ S x m) : DX10_inbox a x ∧ Dinbox a m ∧ (FX10_inbox a x).1 = (Finbox a m).1 ∧ JJ S (FX10_inbox a x).2 (Finbox a m).2 := by
  obtain ⟨g1, g2, g3, g4⟩ := inbox_rel (p := a) h.1
  exact ⟨g1, g2, g3, h.rd g4 re_inbox⟩
theorem JJ.message (h : JJ S x m) : DX10_message a b c x ∧ Dmessage a b c m ∧ (FX10_message a b c x).1 = (Fmessage a b c m).1 ∧ JJ S (FX10_message a b c x).2 (Fmessage a b c m).2 := by
  obtain ⟨g1, g2, g3, g4⟩ := message_rel (p := a) (k := b) (w := c) h.1
  exact ⟨g1, g2, g3, h.rd g4 re_message⟩
theorem JJ.count (h : JJ S x m) : DX10_count a x ∧ Dcount a m ∧ (FX10_count a x).1 = (Fcount a m).1 ∧ JJ S (FX10_count a x).2 (Fcount a m).2 := by
  obtain ⟨g1, g2, g3, g4⟩ := count_rel (w := a) h.1 h.2.1.2.2.2.2.2.1 ⟨h.2.2, by
    rcases h.2.1.2.1.2.2.1 with z | ⟨z | z, -⟩
    · exact Or.inl z
    · exact Or.inr (Or.inl z)
    · exact Or.inr (Or.inr z)⟩
  exact ⟨g1, g2, g3, h.rd g4 re_count⟩
theorem JJ.userok (h : JJ S x m) (hn : ¬ uThrow a b) : DX10_user a b x ∧ Duser a b m ∧ (FX10_user a b x).1 = (Fuser a b m).1 ∧ (FX10_user a b x).2 = x ∧ JJ S x (Fuser a b m).2 ∧ (Fuser a b m).2 0 0 = 0 := by
  obtain ⟨g1, g2, g3, g4, g5⟩ := user_ok (u := a) (w := b) h.1 h.2.1.2.2.2.1 h.2.1.2.2.1.1 hn
  exact ⟨g1, g2, g3, g4, by rw [g5]; exact h.thr, by rw [g5, ab_up_eq]; decide⟩
theorem JJ.userno (h : JJ S x m) (hn : uThrow a b) : Duser a b m ∧ JJ S x (Fuser a b m).2 ∧ (Fuser a b m).2 0 0 = 1 := by
  obtain ⟨g1, g2, g3⟩ := user_no (u := a) (w := b) h.1 hn
  exact ⟨g1, h.rd g2 re_user, g3⟩
theorem JJ.diskok (h : JJ S x m) (hn : ¬ dThrow a b) : DX10_disk a b x ∧ Ddisk a b m ∧ (FX10_disk a b x).1 = (Fdisk a b m).1 ∧ JJ S (FX10_disk a b x).2 (Fdisk a b m).2 ∧ (Fdisk a b m).2 0 0 = 0 := by
  obtain ⟨g1, g2, g3, g4, g5⟩ := disk_ok (b := a) (k := b) h.1 hn
  exact ⟨g1, g2, g3, h.rd g4 re_disk, g5⟩
theorem JJ.diskno (h : JJ S x m) (hn : dThrow a b) : Ddisk a b m ∧ JJ S x (Fdisk a b m).2 ∧ (Fdisk a b m).2 0 0 = 1 := by
  obtain ⟨g1, g2, g3⟩ := disk_no (b := a) (k := b) h.1 hn
  exact ⟨g1, h.rd g2 re_disk, g3⟩
end FA
