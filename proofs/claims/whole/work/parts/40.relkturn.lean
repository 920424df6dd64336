/-! THE KEEPER's TURN -/
def Fchk (m : mD) : mD := if (m 0 31) - (m 0 31) / (nI 10) * (nI 10) = 0 then (if m 0 33 = 0 then Fsends 0 1 (Fdrafts (nI 40) (nI 0) (nI 0) (ab_up m 0 33 (nI 1))) else ab_up (FcrashesNow m) 0 33 (nI 0)) else m
def Dchk (m : mD) : Prop := (m 0 31) - (m 0 31) / (nI 10) * (nI 10) = 0 → m 0 33 = 0 → Dsends 0 1 (Fdrafts (nI 40) (nI 0) (nI 0) (ab_up m 0 33 (nI 1)))
def Fk2 (m : mD) : mD := if m 0 23 = 0 then Fdead m else if nI ((m 2 0).toNatClampNeg) ≤ 0 then Fchk m else
  (if (FtakeOut 0 0 m) 6 1 = 0 then FtakeOut 0 0 m else if (FtakeOut 0 0 m) 0 33 = 0 then Fchk (ab_up (FtakeOut 0 0 m) 0 33 (nI 0)) else if (FtakeOut 0 0 m) 6 1 = nI 41 then Fchk (ab_up (FtakeOut 0 0 m) 0 33 (nI 0)) else Fchk (ab_up (FtakeOut 0 0 m) 0 33 (nI 1)))
def Dk2 (m : mD) : Prop := (m 0 23 = 0 → Ddead m) ∧ (¬ m 0 23 = 0 → (¬ m 2 0 < 0) ∧ (nI ((m 2 0).toNatClampNeg) ≤ 0 → Dchk m) ∧ (¬ nI ((m 2 0).toNatClampNeg) ≤ 0 → DtakeOut 0 0 m ∧ (¬ (FtakeOut 0 0 m) 6 1 = 0 → ((FtakeOut 0 0 m) 0 33 = 0 → Dchk (ab_up (FtakeOut 0 0 m) 0 33 (nI 0))) ∧ (¬ (FtakeOut 0 0 m) 0 33 = 0 → ((FtakeOut 0 0 m) 6 1 = nI 41 → Dchk (ab_up (FtakeOut 0 0 m) 0 33 (nI 0))) ∧ (¬ (FtakeOut 0 0 m) 6 1 = nI 41 → Dchk (ab_up (FtakeOut 0 0 m) 0 33 (nI 1)))))))
theorem Dchk_l {m : mD} (h : Dchk m) : ((((m 0 31) - (m 0 31) / (nI (10)) * (nI (10))) = 0) →
          (((m 0 33) = 0) →
            (Ddrafts (nI (40)) (nI (0)) (nI (0)) (ab_up m 0 33 (nI (1)))) ∧
            (Dsends 0 1 (Fdrafts (nI (40)) (nI (0)) (nI (0)) (ab_up m 0 33 (nI (1))))) ∧
            True) ∧
          (¬ ((m 0 33) = 0) →
            True)) ∧
        (¬ (((m 0 31) - (m 0 31) / (nI (10)) * (nI (10))) = 0) →
          True) := ⟨fun a => ⟨fun b => ⟨Ddrafts_ok _ _ _ _, h a b, trivial⟩, fun _ => trivial⟩, fun _ => trivial⟩
theorem Fkeeper_eq {m : mD} : Fkeeper m = (if (FsendsAgain 0 (ab_up m 0 31 (m 0 31 + nI 1))).1 = 0 then Fk2 (FsendsAgain 0 (ab_up m 0 31 (m 0 31 + nI 1))).2 else (FsendsAgain 0 (ab_up m 0 31 (m 0 31 + nI 1))).2) := by
  rw [Fkeeper]
  dsimp only
  generalize FsendsAgain 0 (ab_up m 0 31 (m 0 31 + nI 1)) = z
  rw [Fk2]
  rfl
theorem Dkeeper_of {m : mD} (h1 : DsendsAgain 0 (ab_up m 0 31 (m 0 31 + nI 1))) (h2 : (FsendsAgain 0 (ab_up m 0 31 (m 0 31 + nI 1))).1 = 0 → Dk2 (FsendsAgain 0 (ab_up m 0 31 (m 0 31 + nI 1))).2) : Dkeeper m := by
  rw [Dkeeper]
  dsimp only
  refine ⟨h1, ?_⟩
  revert h2
  generalize FsendsAgain 0 (ab_up m 0 31 (m 0 31 + nI 1)) = z
  intro h2
  refine ⟨fun hz => ?_, fun _ => trivial⟩
  obtain ⟨a1, a2⟩ := h2 hz
  refine ⟨fun c => ⟨fun d => ⟨a1 c d, trivial⟩, fun _ => trivial⟩, fun c => ?_⟩
  obtain ⟨b1, b2, b3⟩ := a2 c
  refine ⟨b1, fun d => Dchk_l (b2 d), fun d => ?_⟩
  obtain ⟨c1, c2⟩ := b3 d
  refine ⟨c1, ?_⟩
  revert c2
  generalize FtakeOut 0 0 z.2 = w
  intro c2
  refine ⟨fun _ => trivial, fun e => ?_⟩
  obtain ⟨d1, d2⟩ := c2 e
  refine ⟨fun f => Dchk_l (d1 f), fun f => ?_⟩
  obtain ⟨e1, e2⟩ := d2 f
  exact ⟨fun g => Dchk_l (e1 g), fun g => Dchk_l (e2 g)⟩
def FXchk (x : xD) : Int32 × xD := if (x.1 343 0) - (x.1 343 0) / (nI 10) * (nI 10) = 0 then (if (FX5_check x).1 = 0 then (nI 0, (FX5_check x).2) else (nI 1, (FX5_check x).2)) else (nI 0, x)
def DXchk (x : xD) : Prop := (x.1 343 0) - (x.1 343 0) / (nI 10) * (nI 10) = 0 → DX5_check x
def fin (z : Int32 × xD) : xD := if z.1 = 0 then z.2 else FX10_breakDriver z.2
theorem nI00 : nI 0 = 0 := by decide
theorem nI10 : ¬ nI 1 = 0 := by decide
theorem fin_0 {x : xD} : fin (nI 0, x) = x := if_pos nI00
theorem fin_1 {x : xD} : fin (nI 1, x) = FX10_breakDriver x := if_neg nI10
theorem DXchk_l {x : xD} (h : DXchk x) : ((((x.1 343 0) - (x.1 343 0) / (nI (10)) * (nI (10))) = 0) → (DX5_check x) ∧ True) ∧ (¬ (((x.1 343 0) - (x.1 343 0) / (nI (10)) * (nI (10))) = 0) → True) := ⟨fun a => ⟨h a, trivial⟩, fun _ => trivial⟩
/-- the check -/
theorem chk_rel {x : xD} {m : mD} (h : RM x m) (hH : RH x m) (hR : RR x.1 m) (h5 : m 5 0 = -1) (htl : ¬ m 0 34 = 0) (hd : m 0 23 = 1) : DXchk x ∧ Dchk m ∧ RM (fin (FXchk x)) (Fchk m) ∧ RH (fin (FXchk x)) (Fchk m) ∧ RR (fin (FXchk x)).1 (Fchk m) := by
  have k1 : x.1 343 0 = m 0 31 := hR.2.1.1
  have k3 : x.1 343 2 = m 0 33 := hR.2.1.2.2 hd
  rw [FXchk, DXchk, Fchk, Dchk, k1]
  by_cases c : (m 0 31) - (m 0 31) / (nI 10) * (nI 10) = 0
  · rw [if_pos c, if_pos c]
    by_cases c2 : m 0 33 = 0
    · rw [if_pos c2]
      have r1 : RM (ab_up x.1 343 2 (nI 1), x.2) (ab_up m 0 33 (nI 1)) := (h.xc (x' := (ab_up x.1 343 2 (nI 1), x.2)) (fun _ _ _ _ => rfl) (fun p hp => ab_up_ne (by omega)) (fun p hp a j _ _ => ab_up_ne (by omega)) (fun p hp => rfl) rfl rfl rfl).mc (fun _ _ => rfl) (fun _ _ => rfl) (fun _ _ => rfl) (fun j hj => by rcases hj with rfl | rfl | rfl | rfl | rfl <;> rfl)
      have r2 : RH (ab_up x.1 343 2 (nI 1), x.2) (ab_up m 0 33 (nI 1)) := hH.fr (fun p hp j => ⟨ab_up_ne (by omega), ab_up_ne (by omega)⟩) (fun _ _ => rfl) (fun _ _ => rfl) rfl rfl
      have r3 : RR (ab_up x.1 343 2 (nI 1), x.2).1 (ab_up m 0 33 (nI 1)) := by
        obtain ⟨b1, ⟨k1, k2, k3⟩, b3, b4, b5, b6, b7, b8⟩ := hR
        exact ⟨b1, ⟨k1, k2, fun _ => rfl⟩, b3, b4, b5, b6, b7, b8⟩
      have ec : FX5_check x = (nI 0, FX1_send (nI 0) (nI 1) (nI 40) (nI 0) (nI 0) (ab_up x.1 343 2 (nI 1), x.2)) := by
        rw [FX5_check, if_pos (k3.trans c2)]
      have edc : DX1_send (nI 0) (nI 1) (nI 40) (nI 0) (nI 0) (ab_up x.1 343 2 (nI 1), x.2) → DX5_check x := fun z => ⟨fun _ => ⟨z, trivial⟩, fun q => absurd (k3.trans c2) q⟩
      rw [ec]
      dsimp only
      rw [if_pos nI00, fin_0]
      have q23 : (ab_up m 0 33 (nI 1)) 0 23 = 0 ∨ (ab_up m 0 33 (nI 1)) 0 23 = 1 := Or.inr hd
      have q5 : (ab_up m 0 33 (nI 1)) 5 0 = -1 := h5
      have q34 : ¬ (ab_up m 0 33 (nI 1)) 0 34 = 0 := htl
      generalize ab_up m 0 33 (nI 1) = n at *
      generalize (ab_up x.1 343 2 (nI 1), x.2) = y at *
      obtain ⟨t1, t2, t3, t4, t5, t6⟩ := send_rel (f := 0) (t := 1) (k := nI 40) (a := nI 0) (b := nI 0) r1 r2 (by decide) (by decide) q23 (by decide) (by decide) q5 q34
      exact ⟨fun _ => edc t1, fun _ _ => t2, t3, t4, r3.send t5 t6⟩
    · rw [if_neg c2]
      have ec : FX5_check x = (nI 1, x) := by rw [FX5_check, if_neg (by rw [k3]; exact c2)]
      have edc : DX5_check x := ⟨fun q => absurd (k3.symm.trans q) c2, fun _ => trivial⟩
      rw [ec]
      dsimp only
      rw [if_neg nI10, fin_1]
      obtain ⟨t1, t2, t3, t4⟩ := break_rel h hH hR
      refine ⟨fun _ => edc, fun _ z => absurd z c2, t2.mc (fun _ _ => rfl) (fun _ _ => rfl) (fun _ _ => rfl) (fun j hj => by rcases hj with rfl | rfl | rfl | rfl | rfl <;> rfl), t3.fr (fun _ _ _ => ⟨rfl, rfl⟩) (fun _ _ => rfl) (fun _ _ => rfl) rfl rfl, ?_⟩
      obtain ⟨b1, ⟨k1, k2, k3⟩, b3, b4, b5, b6, b7, b8⟩ := t4
      exact ⟨b1, ⟨k1, k2, fun z => absurd z (by show ¬ nI 0 = 1; decide)⟩, b3, b4, b5, b6, b7, b8⟩
  · rw [if_neg c, if_neg c, fin_0]
    exact ⟨fun z => absurd z c, fun z => absurd z c, h, hH, hR⟩
