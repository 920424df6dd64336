/-! Whose turn is next: no F of the reference but Fturn touches it -/
theorem nz_i {c : Prop} [Decidable c] {a b : mD} {v : Int32} (ha : a 0 48 = v) (hb : b 0 48 = v) : (if c then a else b) 0 48 = v := by by_cases h : c <;> simp [h, ha, hb]
theorem nz_j {c : Prop} [Decidable c] {a b : Int32 × mD} {v : Int32} (ha : a.2 0 48 = v) (hb : b.2 0 48 = v) : (if c then a else b).2 0 48 = v := by by_cases h : c <;> simp [h, ha, hb]
theorem nz_u {m : mD} {q j : Nat} {v w : Int32} (h : m 0 48 = v) (e : q ≠ 0 ∨ j ≠ 48) : ab_up m q j w 0 48 = v := (ab_up_na (by omega)).trans h
theorem nz_crashesNow  {m : mD} {o48 : Int32} (h : m 0 48 = o48) : (FcrashesNow m) 0 48 = o48 := by
  unfold FcrashesNow
  repeat' (first | with_reducible exact h | with_reducible apply nz_i | (with_reducible refine nz_u ?_ (Or.inl (by decide))) | (with_reducible refine nz_u ?_ (Or.inr (by decide))))
theorem nz_holds {a : Int32} {b : Int32} {c : Int32} {m : mD} {o48 : Int32} (h : m 0 48 = o48) : (Fholds a b c m) 0 48 = o48 := by
  unfold Fholds
  repeat' (first | with_reducible exact h | with_reducible apply nz_i | (with_reducible refine nz_u ?_ (Or.inl (by decide))) | (with_reducible refine nz_u ?_ (Or.inr (by decide))))
theorem nz_drafts_3 {v : Int32} : ∀ {n : Nat} {y0 : Int32} {y1 : Int32} {y2 : Int32} {y3 : Nat} {m : mD}, m 0 48 = v → (Fdrafts_3 n y0 y1 y2 y3 m) 0 48 = v := by
  intro n
  induction n with
  | zero => intro y0 y1 y2 y3 m h; exact h
  | succ n ih =>
    intro y0 y1 y2 y3 m h
    unfold Fdrafts_3
    repeat' (first | with_reducible exact h | with_reducible apply ih | with_reducible apply nz_i | (with_reducible refine nz_u ?_ (Or.inl (by decide))) | (with_reducible refine nz_u ?_ (Or.inr (by decide))))
theorem nz_drafts {a : Int32} {b : Int32} {c : Int32} {m : mD} {o48 : Int32} (h : m 0 48 = o48) : (Fdrafts a b c m) 0 48 = o48 := by
  unfold Fdrafts
  repeat' (first | with_reducible exact h | with_reducible apply nz_drafts_3 | with_reducible apply nz_i | (with_reducible refine nz_u ?_ (Or.inl (by decide))) | (with_reducible refine nz_u ?_ (Or.inr (by decide))))
theorem nz_send_94 {v : Int32} : ∀ {n : Nat} {y0 : Nat} {y1 : Nat} {y2 : Int32} {y3 : Nat} {y4 : Nat} {m : mD}, m 0 48 = v → (Fsend_94 n y0 y1 y2 y3 y4 m).2 0 48 = v := by
  intro n
  induction n with
  | zero => intro y0 y1 y2 y3 y4 m h; exact h
  | succ n ih =>
    intro y0 y1 y2 y3 y4 m h
    unfold Fsend_94
    repeat' (first | with_reducible exact h | with_reducible apply ih | with_reducible apply nz_j | (with_reducible refine nz_u ?_ (Or.inl (by decide))) | (with_reducible refine nz_u ?_ (Or.inr (by decide))))
theorem nz_send_55 {f : Nat} {t : Nat} {b : Int32} {m : mD} {o48 : Int32} (h : m 0 48 = o48) : (Fsend_55 f t b m).2 0 48 = o48 := by
  unfold Fsend_55
  repeat' (first | with_reducible exact h | with_reducible apply nz_send_94 | with_reducible apply nz_j | (with_reducible refine nz_u ?_ (Or.inl (by decide))) | (with_reducible refine nz_u ?_ (Or.inr (by decide))))
theorem nz_send {f : Nat} {t : Nat} {b : Int32} {m : mD} {o48 : Int32} (h : m 0 48 = o48) : (Fsend f t b m).2 0 48 = o48 := by
  unfold Fsend
  repeat' (first | with_reducible exact h | with_reducible apply nz_send_55 | with_reducible apply nz_j | (with_reducible refine nz_u ?_ (Or.inl (by decide))) | (with_reducible refine nz_u ?_ (Or.inr (by decide))))
theorem nz_sends_13 {v : Int32} : ∀ {n : Nat} {y0 : Nat} {y1 : Nat} {y2 : Nat} {m : mD}, m 0 48 = v → (Fsends_13 n y0 y1 y2 m) 0 48 = v := by
  intro n
  induction n with
  | zero => intro y0 y1 y2 m h; exact h
  | succ n ih =>
    intro y0 y1 y2 m h
    unfold Fsends_13
    repeat' (first | with_reducible exact h | with_reducible apply ih | with_reducible apply nz_i | (with_reducible refine nz_u ?_ (Or.inl (by decide))) | (with_reducible refine nz_u ?_ (Or.inr (by decide))))
theorem nz_sends {f : Nat} {t : Nat} {m : mD} {o48 : Int32} (h : m 0 48 = o48) : (Fsends f t m) 0 48 = o48 := by
  unfold Fsends
  repeat' (first | with_reducible exact h | with_reducible apply nz_send | with_reducible apply nz_sends_13 | with_reducible apply nz_i | (with_reducible refine nz_u ?_ (Or.inl (by decide))) | (with_reducible refine nz_u ?_ (Or.inr (by decide))))
theorem nz_sendsAgain_13 {v : Int32} : ∀ {n : Nat} {y0 : Nat} {y1 : Nat} {m : mD}, m 0 48 = v → (FsendsAgain_13 n y0 y1 m).2 0 48 = v := by
  intro n
  induction n with
  | zero => intro y0 y1 m h; exact h
  | succ n ih =>
    intro y0 y1 m h
    unfold FsendsAgain_13
    repeat' (first | with_reducible exact h | with_reducible apply ih | with_reducible apply nz_sends | with_reducible apply nz_j | (with_reducible refine nz_u ?_ (Or.inl (by decide))) | (with_reducible refine nz_u ?_ (Or.inr (by decide))))
theorem nz_sendsAgain {f : Nat} {m : mD} {o48 : Int32} (h : m 0 48 = o48) : (FsendsAgain f m).2 0 48 = o48 := by
  unfold FsendsAgain
  repeat' (first | with_reducible exact h | with_reducible apply nz_sendsAgain_13 | with_reducible apply nz_j | (with_reducible refine nz_u ?_ (Or.inl (by decide))) | (with_reducible refine nz_u ?_ (Or.inr (by decide))))
theorem nz_drop_20 {v : Int32} : ∀ {n : Nat} {y0 : Nat} {y1 : Nat} {y2 : Nat} {m : mD}, m 0 48 = v → (Fdrop_20 n y0 y1 y2 m) 0 48 = v := by
  intro n
  induction n with
  | zero => intro y0 y1 y2 m h; exact h
  | succ n ih =>
    intro y0 y1 y2 m h
    unfold Fdrop_20
    repeat' (first | with_reducible exact h | with_reducible apply ih | with_reducible apply nz_i | (with_reducible refine nz_u ?_ (Or.inl (by decide))) | (with_reducible refine nz_u ?_ (Or.inr (by decide))))
theorem nz_drop {p : Nat} {k : Nat} {m : mD} {o48 : Int32} (h : m 0 48 = o48) : (Fdrop p k m) 0 48 = o48 := by
  unfold Fdrop
  repeat' (first | with_reducible exact h | with_reducible apply nz_drop_20 | with_reducible apply nz_i | (with_reducible refine nz_u ?_ (Or.inl (by decide))) | (with_reducible refine nz_u ?_ (Or.inr (by decide))))
theorem nz_takeOut_13 {v : Int32} : ∀ {n : Nat} {y0 : Nat} {y1 : Nat} {y2 : Nat} {y3 : Nat} {m : mD}, m 0 48 = v → (FtakeOut_13 n y0 y1 y2 y3 m) 0 48 = v := by
  intro n
  induction n with
  | zero => intro y0 y1 y2 y3 m h; exact h
  | succ n ih =>
    intro y0 y1 y2 y3 m h
    unfold FtakeOut_13
    repeat' (first | with_reducible exact h | with_reducible apply ih | with_reducible apply nz_drop | with_reducible apply nz_i | (with_reducible refine nz_u ?_ (Or.inl (by decide))) | (with_reducible refine nz_u ?_ (Or.inr (by decide))))
theorem nz_takeOut {p : Nat} {k : Nat} {m : mD} {o48 : Int32} (h : m 0 48 = o48) : (FtakeOut p k m) 0 48 = o48 := by
  unfold FtakeOut
  repeat' (first | with_reducible exact h | with_reducible apply nz_takeOut_13 | with_reducible apply nz_i | (with_reducible refine nz_u ?_ (Or.inl (by decide))) | (with_reducible refine nz_u ?_ (Or.inr (by decide))))
theorem nz_freed {u : Nat} {m : mD} {o48 : Int32} (h : m 0 48 = o48) : (Ffreed u m).2 0 48 = o48 := by
  unfold Ffreed
  repeat' (first | with_reducible exact h | with_reducible apply nz_j | (with_reducible refine nz_u ?_ (Or.inl (by decide))) | (with_reducible refine nz_u ?_ (Or.inr (by decide))))
theorem nz_tells {f : Nat} {u : Nat} {v : Int32} {m : mD} {o48 : Int32} (h : m 0 48 = o48) : (Ftells f u v m) 0 48 = o48 := by
  unfold Ftells
  repeat' (first | with_reducible exact h | with_reducible apply nz_drafts | with_reducible apply nz_sends | with_reducible apply nz_i | (with_reducible refine nz_u ?_ (Or.inl (by decide))) | (with_reducible refine nz_u ?_ (Or.inr (by decide))))
theorem nz_starts  {m : mD} {o48 : Int32} (h : m 0 48 = o48) : (Fstarts m) 0 48 = o48 := by
  unfold Fstarts
  repeat' (first | with_reducible exact h | with_reducible apply nz_drafts | with_reducible apply nz_sends | with_reducible apply nz_i | (with_reducible refine nz_u ?_ (Or.inl (by decide))) | (with_reducible refine nz_u ?_ (Or.inr (by decide))))
theorem nz_keeper  {m : mD} {o48 : Int32} (h : m 0 48 = o48) : (Fkeeper m) 0 48 = o48 := by
  unfold Fkeeper
  repeat' (first | with_reducible exact h | with_reducible apply nz_sendsAgain | with_reducible apply nz_starts | with_reducible apply nz_drafts | with_reducible apply nz_sends | with_reducible apply nz_crashesNow | with_reducible apply nz_takeOut | with_reducible apply nz_i | (with_reducible refine nz_u ?_ (Or.inl (by decide))) | (with_reducible refine nz_u ?_ (Or.inr (by decide))))
theorem nz_works_47 {v : Int32} : ∀ {n : Nat} {y0 : Nat} {m : mD}, m 0 48 = v → (Fworks_47 n y0 m) 0 48 = v := by
  intro n
  induction n with
  | zero => intro y0 m h; exact h
  | succ n ih =>
    intro y0 m h
    unfold Fworks_47
    repeat' (first | with_reducible exact h | with_reducible apply ih | with_reducible apply nz_sends | with_reducible apply nz_i | (with_reducible refine nz_u ?_ (Or.inl (by decide))) | (with_reducible refine nz_u ?_ (Or.inr (by decide))))
theorem nz_works  {m : mD} {o48 : Int32} (h : m 0 48 = o48) : (Fworks m) 0 48 = o48 := by
  unfold Fworks
  repeat' (first | with_reducible exact h | with_reducible apply nz_drafts | with_reducible apply nz_works_47 | with_reducible apply nz_i | (with_reducible refine nz_u ?_ (Or.inl (by decide))) | (with_reducible refine nz_u ?_ (Or.inr (by decide))))
theorem nz_driver_140 {v : Int32} : ∀ {n : Nat} {y0 : Nat} {m : mD}, m 0 48 = v → (Fdriver_140 n y0 m) 0 48 = v := by
  intro n
  induction n with
  | zero => intro y0 m h; exact h
  | succ n ih =>
    intro y0 m h
    unfold Fdriver_140
    repeat' (first | with_reducible exact h | with_reducible apply ih | with_reducible apply nz_i | (with_reducible refine nz_u ?_ (Or.inl (by decide))) | (with_reducible refine nz_u ?_ (Or.inr (by decide))))
theorem nz_driver_18 {v : Int32} : ∀ {n : Nat} {y0 : Nat} {m : mD}, m 0 48 = v → (Fdriver_18 n y0 m) 0 48 = v := by
  intro n
  induction n with
  | zero => intro y0 m h; exact h
  | succ n ih =>
    intro y0 m h
    unfold Fdriver_18
    repeat' (first | with_reducible exact h | with_reducible apply ih | with_reducible apply nz_takeOut | with_reducible apply nz_driver_140 | with_reducible apply nz_works | with_reducible apply nz_drop | with_reducible apply nz_drafts | with_reducible apply nz_sends | with_reducible apply nz_i | (with_reducible refine nz_u ?_ (Or.inl (by decide))) | (with_reducible refine nz_u ?_ (Or.inr (by decide))))
theorem nz_driver  {m : mD} {o48 : Int32} (h : m 0 48 = o48) : (Fdriver m) 0 48 = o48 := by
  unfold Fdriver
  repeat' (first | with_reducible exact h | with_reducible apply nz_sendsAgain | with_reducible apply nz_driver_18 | with_reducible apply nz_i | (with_reducible refine nz_u ?_ (Or.inl (by decide))) | (with_reducible refine nz_u ?_ (Or.inr (by decide))))
theorem nz_asksDriver_20 {v : Int32} : ∀ {n : Nat} {y0 : Nat} {m : mD}, m 0 48 = v → (FasksDriver_20 n y0 m) 0 48 = v := by
  intro n
  induction n with
  | zero => intro y0 m h; exact h
  | succ n ih =>
    intro y0 m h
    unfold FasksDriver_20
    repeat' (first | with_reducible exact h | with_reducible apply ih | with_reducible apply nz_sends | with_reducible apply nz_i | (with_reducible refine nz_u ?_ (Or.inl (by decide))) | (with_reducible refine nz_u ?_ (Or.inr (by decide))))
theorem nz_asksDriver  {m : mD} {o48 : Int32} (h : m 0 48 = o48) : (FasksDriver m) 0 48 = o48 := by
  unfold FasksDriver
  repeat' (first | with_reducible exact h | with_reducible apply nz_drafts | with_reducible apply nz_asksDriver_20 | with_reducible apply nz_i | (with_reducible refine nz_u ?_ (Or.inl (by decide))) | (with_reducible refine nz_u ?_ (Or.inr (by decide))))
theorem nz_copies_2 {v : Int32} : ∀ {n : Nat} {y0 : Nat} {y1 : Nat} {y2 : Nat} {m : mD}, m 0 48 = v → (Fcopies_2 n y0 y1 y2 m) 0 48 = v := by
  intro n
  induction n with
  | zero => intro y0 y1 y2 m h; exact h
  | succ n ih =>
    intro y0 y1 y2 m h
    unfold Fcopies_2
    repeat' (first | with_reducible exact h | with_reducible apply ih | with_reducible apply nz_i | (with_reducible refine nz_u ?_ (Or.inl (by decide))) | (with_reducible refine nz_u ?_ (Or.inr (by decide))))
theorem nz_copies {a : Nat} {b : Nat} {m : mD} {o48 : Int32} (h : m 0 48 = o48) : (Fcopies a b m) 0 48 = o48 := by
  unfold Fcopies
  repeat' (first | with_reducible exact h | with_reducible apply nz_copies_2 | with_reducible apply nz_i | (with_reducible refine nz_u ?_ (Or.inl (by decide))) | (with_reducible refine nz_u ?_ (Or.inr (by decide))))
theorem nz_closesAll_2 {v : Int32} : ∀ {n : Nat} {y0 : Nat} {y1 : Nat} {m : mD}, m 0 48 = v → (FclosesAll_2 n y0 y1 m) 0 48 = v := by
  intro n
  induction n with
  | zero => intro y0 y1 m h; exact h
  | succ n ih =>
    intro y0 y1 m h
    unfold FclosesAll_2
    repeat' (first | with_reducible exact h | with_reducible apply ih | with_reducible apply nz_i | (with_reducible refine nz_u ?_ (Or.inl (by decide))) | (with_reducible refine nz_u ?_ (Or.inr (by decide))))
theorem nz_closesAll {u : Nat} {m : mD} {o48 : Int32} (h : m 0 48 = o48) : (FclosesAll u m) 0 48 = o48 := by
  unfold FclosesAll
  repeat' (first | with_reducible exact h | with_reducible apply nz_closesAll_2 | with_reducible apply nz_i | (with_reducible refine nz_u ?_ (Or.inl (by decide))) | (with_reducible refine nz_u ?_ (Or.inr (by decide))))
theorem nz_opens_14 {v : Int32} : ∀ {n : Nat} {y0 : Nat} {y1 : Int32} {y2 : Nat} {m : mD}, m 0 48 = v → (Fopens_14 n y0 y1 y2 m).2 0 48 = v := by
  intro n
  induction n with
  | zero => intro y0 y1 y2 m h; exact h
  | succ n ih =>
    intro y0 y1 y2 m h
    unfold Fopens_14
    repeat' (first | with_reducible exact h | with_reducible apply ih | with_reducible apply nz_j | (with_reducible refine nz_u ?_ (Or.inl (by decide))) | (with_reducible refine nz_u ?_ (Or.inr (by decide))))
theorem nz_opens {u : Nat} {a : Int32} {m : mD} {o48 : Int32} (h : m 0 48 = o48) : (Fopens u a m).2 0 48 = o48 := by
  unfold Fopens
  repeat' (first | with_reducible exact h | with_reducible apply nz_opens_14 | with_reducible apply nz_j | (with_reducible refine nz_u ?_ (Or.inl (by decide))) | (with_reducible refine nz_u ?_ (Or.inr (by decide))))
theorem nz_removes_59 {v : Int32} : ∀ {n : Nat} {y0 : Int32} {y1 : Int32} {m : mD}, m 0 48 = v → (Fremoves_59 n y0 y1 m).2 0 48 = v := by
  intro n
  induction n with
  | zero => intro y0 y1 m h; exact h
  | succ n ih =>
    intro y0 y1 m h
    unfold Fremoves_59
    repeat' (first | with_reducible exact h | with_reducible apply ih | with_reducible apply nz_j | (with_reducible refine nz_u ?_ (Or.inl (by decide))) | (with_reducible refine nz_u ?_ (Or.inr (by decide))))
theorem nz_removes_23 {v : Int32} : ∀ {n : Nat} {y0 : Int32} {y1 : Nat} {m : mD}, m 0 48 = v → (Fremoves_23 n y0 y1 m).2 0 48 = v := by
  intro n
  induction n with
  | zero => intro y0 y1 m h; exact h
  | succ n ih =>
    intro y0 y1 m h
    unfold Fremoves_23
    repeat' (first | with_reducible exact h | with_reducible apply ih | with_reducible apply nz_removes_59 | with_reducible apply nz_j | (with_reducible refine nz_u ?_ (Or.inl (by decide))) | (with_reducible refine nz_u ?_ (Or.inr (by decide))))
theorem nz_removes {a : Int32} {m : mD} {o48 : Int32} (h : m 0 48 = o48) : (Fremoves a m).2 0 48 = o48 := by
  unfold Fremoves
  repeat' (first | with_reducible exact h | with_reducible apply nz_removes_23 | with_reducible apply nz_j | (with_reducible refine nz_u ?_ (Or.inl (by decide))) | (with_reducible refine nz_u ?_ (Or.inr (by decide))))
theorem nz_reads {u : Nat} {s : Nat} {f : Nat} {m : mD} {o48 : Int32} (h : m 0 48 = o48) : (Freads u s f m) 0 48 = o48 := by
  unfold Freads
  repeat' (first | with_reducible exact h | with_reducible apply nz_tells | with_reducible apply nz_asksDriver | with_reducible apply nz_i | (with_reducible refine nz_u ?_ (Or.inl (by decide))) | (with_reducible refine nz_u ?_ (Or.inr (by decide))))
theorem nz_writes_128 {v : Int32} : ∀ {n : Nat} {y0 : Nat} {y1 : Nat} {y2 : Nat} {y3 : Int32} {y4 : Int32} {y5 : Nat} {m : mD}, m 0 48 = v → (Fwrites_128 n y0 y1 y2 y3 y4 y5 m) 0 48 = v := by
  intro n
  induction n with
  | zero => intro y0 y1 y2 y3 y4 y5 m h; exact h
  | succ n ih =>
    intro y0 y1 y2 y3 y4 y5 m h
    unfold Fwrites_128
    repeat' (first | with_reducible exact h | with_reducible apply ih | with_reducible apply nz_asksDriver | with_reducible apply nz_i | (with_reducible refine nz_u ?_ (Or.inl (by decide))) | (with_reducible refine nz_u ?_ (Or.inr (by decide))))
theorem nz_writes_62 {v : Int32} : ∀ {n : Nat} {y0 : Nat} {y1 : Nat} {y2 : Nat} {y3 : Int32} {y4 : Int32} {y5 : Nat} {m : mD}, m 0 48 = v → (Fwrites_62 n y0 y1 y2 y3 y4 y5 m) 0 48 = v := by
  intro n
  induction n with
  | zero => intro y0 y1 y2 y3 y4 y5 m h; exact h
  | succ n ih =>
    intro y0 y1 y2 y3 y4 y5 m h
    unfold Fwrites_62
    repeat' (first | with_reducible exact h | with_reducible apply ih | with_reducible apply nz_tells | with_reducible apply nz_writes_128 | with_reducible apply nz_i | (with_reducible refine nz_u ?_ (Or.inl (by decide))) | (with_reducible refine nz_u ?_ (Or.inr (by decide))))
theorem nz_writes {u : Nat} {s : Nat} {f : Nat} {v : Int32} {m : mD} {o48 : Int32} (h : m 0 48 = o48) : (Fwrites u s f v m) 0 48 = o48 := by
  unfold Fwrites
  repeat' (first | with_reducible exact h | with_reducible apply nz_tells | with_reducible apply nz_writes_62 | with_reducible apply nz_asksDriver | with_reducible apply nz_i | (with_reducible refine nz_u ?_ (Or.inl (by decide))) | (with_reducible refine nz_u ?_ (Or.inr (by decide))))
theorem nz_goesOn_79 {v : Int32} : ∀ {n : Nat} {y0 : Int32} {y1 : Nat} {m : mD}, m 0 48 = v → (FgoesOn_79 n y0 y1 m) 0 48 = v := by
  intro n
  induction n with
  | zero => intro y0 y1 m h; exact h
  | succ n ih =>
    intro y0 y1 m h
    unfold FgoesOn_79
    repeat' (first | with_reducible exact h | with_reducible apply ih | with_reducible apply nz_asksDriver | with_reducible apply nz_i | (with_reducible refine nz_u ?_ (Or.inl (by decide))) | (with_reducible refine nz_u ?_ (Or.inr (by decide))))
theorem nz_goesOn  {m : mD} {o48 : Int32} (h : m 0 48 = o48) : (FgoesOn m) 0 48 = o48 := by
  unfold FgoesOn
  repeat' (first | with_reducible exact h | with_reducible apply nz_tells | with_reducible apply nz_goesOn_79 | with_reducible apply nz_i | (with_reducible refine nz_u ?_ (Or.inl (by decide))) | (with_reducible refine nz_u ?_ (Or.inr (by decide))))
theorem nz_begins {u : Nat} {k : Int32} {a : Int32} {b : Int32} {m : mD} {o48 : Int32} (h : m 0 48 = o48) : (Fbegins u k a b m) 0 48 = o48 := by
  unfold Fbegins
  repeat' (first | with_reducible exact h | with_reducible apply nz_opens | with_reducible apply nz_tells | with_reducible apply nz_removes | with_reducible apply nz_reads | with_reducible apply nz_writes | with_reducible apply nz_i | (with_reducible refine nz_u ?_ (Or.inl (by decide))) | (with_reducible refine nz_u ?_ (Or.inr (by decide))))
theorem nz_files_11 {v : Int32} : ∀ {n : Nat} {y0 : Nat} {m : mD}, m 0 48 = v → (Ffiles_11 n y0 m) 0 48 = v := by
  intro n
  induction n with
  | zero => intro y0 m h; exact h
  | succ n ih =>
    intro y0 m h
    unfold Ffiles_11
    repeat' (first | with_reducible exact h | with_reducible apply ih | with_reducible apply nz_takeOut | with_reducible apply nz_goesOn | with_reducible apply nz_copies | with_reducible apply nz_drafts | with_reducible apply nz_sends | with_reducible apply nz_closesAll | with_reducible apply nz_asksDriver | with_reducible apply nz_begins | with_reducible apply nz_i | (with_reducible refine nz_u ?_ (Or.inl (by decide))) | (with_reducible refine nz_u ?_ (Or.inr (by decide))))
theorem nz_files  {m : mD} {o48 : Int32} (h : m 0 48 = o48) : (Ffiles m) 0 48 = o48 := by
  unfold Ffiles
  repeat' (first | with_reducible exact h | with_reducible apply nz_sendsAgain | with_reducible apply nz_files_11 | with_reducible apply nz_i | (with_reducible refine nz_u ?_ (Or.inl (by decide))) | (with_reducible refine nz_u ?_ (Or.inr (by decide))))
theorem nz_forks_2 {v : Int32} : ∀ {n : Nat} {y0 : Nat} {y1 : Nat} {m : mD}, m 0 48 = v → (Fforks_2 n y0 y1 m) 0 48 = v := by
  intro n
  induction n with
  | zero => intro y0 y1 m h; exact h
  | succ n ih =>
    intro y0 y1 m h
    unfold Fforks_2
    repeat' (first | with_reducible exact h | with_reducible apply ih | with_reducible apply nz_tells | with_reducible apply nz_holds | with_reducible apply nz_drafts | with_reducible apply nz_sends | with_reducible apply nz_i | (with_reducible refine nz_u ?_ (Or.inl (by decide))) | (with_reducible refine nz_u ?_ (Or.inr (by decide))))
theorem nz_forks {u : Nat} {m : mD} {o48 : Int32} (h : m 0 48 = o48) : (Fforks u m) 0 48 = o48 := by
  unfold Fforks
  repeat' (first | with_reducible exact h | with_reducible apply nz_forks_2 | with_reducible apply nz_i | (with_reducible refine nz_u ?_ (Or.inl (by decide))) | (with_reducible refine nz_u ?_ (Or.inr (by decide))))
theorem nz_ends_55_3 {v : Int32} : ∀ {n : Nat} {y0 : Int32} {y1 : Nat} {y2 : Int32} {y3 : Int32} {y4 : Int32} {m : mD}, m 0 48 = v → (Fends_55_3 n y0 y1 y2 y3 y4 m) 0 48 = v := by
  intro n
  induction n with
  | zero => intro y0 y1 y2 y3 y4 m h; exact h
  | succ n ih =>
    intro y0 y1 y2 y3 y4 m h
    unfold Fends_55_3
    repeat' (first | with_reducible exact h | with_reducible apply ih | with_reducible apply nz_holds | with_reducible apply nz_drafts | with_reducible apply nz_sends | with_reducible apply nz_drop | with_reducible apply nz_i | (with_reducible refine nz_u ?_ (Or.inl (by decide))) | (with_reducible refine nz_u ?_ (Or.inr (by decide))))
theorem nz_ends_55_2 {v : Int32} : ∀ {n : Nat} {y0 : Int32} {y1 : Nat} {y2 : Int32} {y3 : Int32} {y4 : Int32} {m : mD}, m 0 48 = v → (Fends_55_2 n y0 y1 y2 y3 y4 m) 0 48 = v := by
  intro n
  induction n with
  | zero => intro y0 y1 y2 y3 y4 m h; exact h
  | succ n ih =>
    intro y0 y1 y2 y3 y4 m h
    unfold Fends_55_2
    repeat' (first | with_reducible exact h | with_reducible apply ih | with_reducible apply nz_ends_55_3 | with_reducible apply nz_drop | with_reducible apply nz_i | (with_reducible refine nz_u ?_ (Or.inl (by decide))) | (with_reducible refine nz_u ?_ (Or.inr (by decide))))
theorem nz_ends {y : Int32} {u : Nat} {w : Int32} {k : Int32} {m : mD} {o48 : Int32} (h : m 0 48 = o48) : (Fends y u w k m) 0 48 = o48 := by
  unfold Fends
  repeat' (first | with_reducible exact h | with_reducible apply nz_ends_55_2 | with_reducible apply nz_i | (with_reducible refine nz_u ?_ (Or.inl (by decide))) | (with_reducible refine nz_u ?_ (Or.inr (by decide))))
theorem nz_done_56 {v : Int32} : ∀ {n : Nat} {y0 : Int32} {y1 : Nat} {m : mD}, m 0 48 = v → (Fdone_56 n y0 y1 m) 0 48 = v := by
  intro n
  induction n with
  | zero => intro y0 y1 m h; exact h
  | succ n ih =>
    intro y0 y1 m h
    unfold Fdone_56
    repeat' (first | with_reducible exact h | with_reducible apply ih | with_reducible apply nz_tells | with_reducible apply nz_freed | with_reducible apply nz_i | (with_reducible refine nz_u ?_ (Or.inl (by decide))) | (with_reducible refine nz_u ?_ (Or.inr (by decide))))
theorem nz_done  {m : mD} {o48 : Int32} (h : m 0 48 = o48) : (Fdone m) 0 48 = o48 := by
  unfold Fdone
  repeat' (first | with_reducible exact h | with_reducible apply nz_tells | with_reducible apply nz_done_56 | with_reducible apply nz_i | (with_reducible refine nz_u ?_ (Or.inl (by decide))) | (with_reducible refine nz_u ?_ (Or.inr (by decide))))
theorem nz_waitsFor_8 {v : Int32} : ∀ {n : Nat} {y0 : Nat} {y1 : Int32} {y2 : Int32} {y3 : Int32} {m : mD}, m 0 48 = v → (FwaitsFor_8 n y0 y1 y2 y3 m) 0 48 = v := by
  intro n
  induction n with
  | zero => intro y0 y1 y2 y3 m h; exact h
  | succ n ih =>
    intro y0 y1 y2 y3 m h
    unfold FwaitsFor_8
    repeat' (first | with_reducible exact h | with_reducible apply ih | with_reducible apply nz_tells | with_reducible apply nz_freed | with_reducible apply nz_i | (with_reducible refine nz_u ?_ (Or.inl (by decide))) | (with_reducible refine nz_u ?_ (Or.inr (by decide))))
theorem nz_waitsFor {u : Nat} {m : mD} {o48 : Int32} (h : m 0 48 = o48) : (FwaitsFor u m) 0 48 = o48 := by
  unfold FwaitsFor
  repeat' (first | with_reducible exact h | with_reducible apply nz_waitsFor_8 | with_reducible apply nz_i | (with_reducible refine nz_u ?_ (Or.inl (by decide))) | (with_reducible refine nz_u ?_ (Or.inr (by decide))))
theorem nz_processes_11 {v : Int32} : ∀ {n : Nat} {y0 : Nat} {m : mD}, m 0 48 = v → (Fprocesses_11 n y0 m) 0 48 = v := by
  intro n
  induction n with
  | zero => intro y0 m h; exact h
  | succ n ih =>
    intro y0 m h
    unfold Fprocesses_11
    repeat' (first | with_reducible exact h | with_reducible apply ih | with_reducible apply nz_takeOut | with_reducible apply nz_forks | with_reducible apply nz_ends | with_reducible apply nz_waitsFor | with_reducible apply nz_tells | with_reducible apply nz_done | with_reducible apply nz_i | (with_reducible refine nz_u ?_ (Or.inl (by decide))) | (with_reducible refine nz_u ?_ (Or.inr (by decide))))
theorem nz_processes  {m : mD} {o48 : Int32} (h : m 0 48 = o48) : (Fprocesses m) 0 48 = o48 := by
  unfold Fprocesses
  repeat' (first | with_reducible exact h | with_reducible apply nz_sendsAgain | with_reducible apply nz_processes_11 | with_reducible apply nz_i | (with_reducible refine nz_u ?_ (Or.inl (by decide))) | (with_reducible refine nz_u ?_ (Or.inr (by decide))))
theorem nz_ofUser {u : Nat} {m : mD} {o48 : Int32} (h : m 0 48 = o48) : (FofUser u m) 0 48 = o48 := by
  unfold FofUser
  repeat' (first | with_reducible exact h | with_reducible apply nz_takeOut | with_reducible apply nz_i | (with_reducible refine nz_u ?_ (Or.inl (by decide))) | (with_reducible refine nz_u ?_ (Or.inr (by decide))))
theorem nz_call {u : Int32} {k : Int32} {a : Int32} {b : Int32} {m : mD} {o48 : Int32} (h : m 0 48 = o48) : (Fcall u k a b m).2 0 48 = o48 := by
  unfold Fcall
  repeat' (first | with_reducible exact h | with_reducible apply nz_drafts | with_reducible apply nz_send | with_reducible apply nz_j | (with_reducible refine nz_u ?_ (Or.inl (by decide))) | (with_reducible refine nz_u ?_ (Or.inr (by decide))))
theorem nz_crash  {m : mD} {o48 : Int32} (h : m 0 48 = o48) : (Fcrash m).2 0 48 = o48 := by
  unfold Fcrash
  repeat' (first | with_reducible exact h | with_reducible apply nz_crashesNow | with_reducible apply nz_j | (with_reducible refine nz_u ?_ (Or.inl (by decide))) | (with_reducible refine nz_u ?_ (Or.inr (by decide))))
theorem nz_hang  {m : mD} {o48 : Int32} (h : m 0 48 = o48) : (Fhang m).2 0 48 = o48 := by
  unfold Fhang
  repeat' (first | with_reducible exact h | with_reducible apply nz_j | (with_reducible refine nz_u ?_ (Or.inl (by decide))) | (with_reducible refine nz_u ?_ (Or.inr (by decide))))
theorem nz_force {f : Int32} {t : Int32} {m : mD} {o48 : Int32} (h : m 0 48 = o48) : (Fforce f t m).2 0 48 = o48 := by
  unfold Fforce
  repeat' (first | with_reducible exact h | with_reducible apply nz_drafts | with_reducible apply nz_send | with_reducible apply nz_j | (with_reducible refine nz_u ?_ (Or.inl (by decide))) | (with_reducible refine nz_u ?_ (Or.inr (by decide))))
theorem nz_user_40 {v : Int32} : ∀ {n : Nat} {y0 : Int32} {y1 : Int32} {y2 : Int32} {y3 : Nat} {m : mD}, m 0 48 = v → (Fuser_40 n y0 y1 y2 y3 m).2 0 48 = v := by
  intro n
  induction n with
  | zero => intro y0 y1 y2 y3 m h; exact h
  | succ n ih =>
    intro y0 y1 y2 y3 m h
    unfold Fuser_40
    repeat' (first | with_reducible exact h | with_reducible apply ih | with_reducible apply nz_j | (with_reducible refine nz_u ?_ (Or.inl (by decide))) | (with_reducible refine nz_u ?_ (Or.inr (by decide))))
theorem nz_user {u : Int32} {w : Int32} {m : mD} {o48 : Int32} (h : m 0 48 = o48) : (Fuser u w m).2 0 48 = o48 := by
  unfold Fuser
  repeat' (first | with_reducible exact h | with_reducible apply nz_user_40 | with_reducible apply nz_j | (with_reducible refine nz_u ?_ (Or.inl (by decide))) | (with_reducible refine nz_u ?_ (Or.inr (by decide))))
theorem nz_descriptor {u : Int32} {d : Int32} {w : Int32} {m : mD} {o48 : Int32} (h : m 0 48 = o48) : (Fdescriptor u d w m).2 0 48 = o48 := by
  unfold Fdescriptor
  repeat' (first | with_reducible exact h | with_reducible apply nz_j | (with_reducible refine nz_u ?_ (Or.inl (by decide))) | (with_reducible refine nz_u ?_ (Or.inr (by decide))))
theorem nz_file {a : Int32} {w : Int32} {m : mD} {o48 : Int32} (h : m 0 48 = o48) : (Ffile a w m).2 0 48 = o48 := by
  unfold Ffile
  repeat' (first | with_reducible exact h | with_reducible apply nz_j | (with_reducible refine nz_u ?_ (Or.inl (by decide))) | (with_reducible refine nz_u ?_ (Or.inr (by decide))))
theorem nz_disk {b : Int32} {k : Int32} {m : mD} {o48 : Int32} (h : m 0 48 = o48) : (Fdisk b k m).2 0 48 = o48 := by
  unfold Fdisk
  repeat' (first | with_reducible exact h | with_reducible apply nz_j | (with_reducible refine nz_u ?_ (Or.inl (by decide))) | (with_reducible refine nz_u ?_ (Or.inr (by decide))))
theorem nz_inbox {p : Int32} {m : mD} {o48 : Int32} (h : m 0 48 = o48) : (Finbox p m).2 0 48 = o48 := by
  unfold Finbox
  repeat' (first | with_reducible exact h | with_reducible apply nz_j | (with_reducible refine nz_u ?_ (Or.inl (by decide))) | (with_reducible refine nz_u ?_ (Or.inr (by decide))))
theorem nz_message {p : Int32} {k : Int32} {w : Int32} {m : mD} {o48 : Int32} (h : m 0 48 = o48) : (Fmessage p k w m).2 0 48 = o48 := by
  unfold Fmessage
  repeat' (first | with_reducible exact h | with_reducible apply nz_j | (with_reducible refine nz_u ?_ (Or.inl (by decide))) | (with_reducible refine nz_u ?_ (Or.inr (by decide))))
theorem nz_count_43 {v : Int32} : ∀ {n : Nat} {y0 : Int32} {y1 : Int32} {y2 : Int32} {y3 : Nat} {m : mD}, m 0 48 = v → (Fcount_43 n y0 y1 y2 y3 m).2 0 48 = v := by
  intro n
  induction n with
  | zero => intro y0 y1 y2 y3 m h; exact h
  | succ n ih =>
    intro y0 y1 y2 y3 m h
    unfold Fcount_43
    repeat' (first | with_reducible exact h | with_reducible apply ih | with_reducible apply nz_j | (with_reducible refine nz_u ?_ (Or.inl (by decide))) | (with_reducible refine nz_u ?_ (Or.inr (by decide))))
theorem nz_count_9 {v : Int32} : ∀ {n : Nat} {y0 : Int32} {y1 : Int32} {y2 : Nat} {m : mD}, m 0 48 = v → (Fcount_9 n y0 y1 y2 m).2 0 48 = v := by
  intro n
  induction n with
  | zero => intro y0 y1 y2 m h; exact h
  | succ n ih =>
    intro y0 y1 y2 m h
    unfold Fcount_9
    repeat' (first | with_reducible exact h | with_reducible apply ih | with_reducible apply nz_count_43 | with_reducible apply nz_j | (with_reducible refine nz_u ?_ (Or.inl (by decide))) | (with_reducible refine nz_u ?_ (Or.inr (by decide))))
theorem nz_count {w : Int32} {m : mD} {o48 : Int32} (h : m 0 48 = o48) : (Fcount w m).2 0 48 = o48 := by
  unfold Fcount
  repeat' (first | with_reducible exact h | with_reducible apply nz_count_9 | with_reducible apply nz_j | (with_reducible refine nz_u ?_ (Or.inl (by decide))) | (with_reducible refine nz_u ?_ (Or.inr (by decide))))
