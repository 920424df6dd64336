/-! THE REFERENCE's LOOPS in closed form -/
/-- places lo .. lo + n - 1 of row q hold g -/
def fil (m : mD) (q lo n : Nat) (g : Nat → Int32) : mD := fun a j => if a = q ∧ lo ≤ j ∧ j < lo + n then g (j - lo) else m a j
theorem fil_0 {m : mD} {q lo : Nat} {g : Nat → Int32} : fil m q lo 0 g = m := by
  funext a j
  exact if_neg (fun h => by omega)
theorem fil_s {m : mD} {q lo k : Nat} {g : Nat → Int32} : ab_up (fil m q lo k g) q (lo + k) (g k) = fil m q lo (k + 1) g := by
  funext a j
  by_cases ha : a = q
  · subst ha
    by_cases hj : j = lo + k
    · subst hj
      rw [ab_up_eq, fil, if_pos ⟨rfl, by omega, by omega⟩, Nat.add_sub_cancel_left]
    · rw [ab_up_nj hj]
      by_cases hc : lo ≤ j ∧ j < lo + k
      · rw [fil, if_pos ⟨rfl, hc.1, hc.2⟩, fil, if_pos ⟨rfl, hc.1, by omega⟩]
      · rw [fil, if_neg (fun h => hc ⟨h.2.1, h.2.2⟩), fil, if_neg (fun h => hc ⟨h.2.1, by omega⟩)]
  · rw [ab_up_ne ha, fil, if_neg (fun h => ha h.1), fil, if_neg (fun h => ha h.1)]
theorem fil_q {m : mD} {q lo n a j : Nat} {g : Nat → Int32} (h : a ≠ q) : fil m q lo n g a j = m a j := if_neg (fun e => h e.1)
theorem fil_in {m : mD} {q lo n j : Nat} {g : Nat → Int32} (h : lo ≤ j) (h2 : j < lo + n) : fil m q lo n g q j = g (j - lo) := if_pos ⟨rfl, h, h2⟩
theorem fil_out {m : mD} {q lo n j : Nat} {g : Nat → Int32} (h : j < lo ∨ lo + n ≤ j) : fil m q lo n g q j = m q j := if_neg (fun e => by omega)
theorem nI_one : nI 1 = 1 := rfl
-- drafts
def mDr (a b c : Int32) (m : mD) : mD := ab_up (ab_up (ab_up (fil m 3 0 13 (fun _ => 0)) 3 1 a) 3 2 b) 3 3 c
theorem Fdrafts_l (a b c : Int32) (m : mD) : ∀ (n k : Nat), k ≤ 13 → 13 - k < n → Fdrafts_3 n a b c k (fil m 3 0 k (fun _ => 0)) = mDr a b c m ∧ Ddrafts_3 n a b c k (fil m 3 0 k (fun _ => 0)) := by
  intro n
  induction n with
  | zero => intro k _ h; omega
  | succ n ih =>
    intro k hk hn
    by_cases h : 13 ≤ k
    · have e : k = 13 := by omega
      subst e
      rw [Fdrafts_3, if_pos h]
      exact ⟨rfl, by decide, fun _ => trivial, fun q => absurd h q⟩
    · obtain ⟨h1, h2⟩ := ih (k + 1) (by omega) (by omega)
      have e : ab_up (fil m 3 0 k (fun _ => 0)) 3 k (nI 0) = fil m 3 0 (k + 1) (fun _ => 0) := by
        have e := fil_s (m := m) (q := 3) (lo := 0) (k := k) (g := fun _ => 0)
        rw [Nat.zero_add] at e
        exact e
      rw [Fdrafts_3, if_neg h]
      dsimp only
      rw [e]
      exact ⟨h1, by omega, fun q => absurd q h, fun _ => ⟨by omega, by dsimp only; rw [e]; exact h2⟩⟩
theorem Fdrafts_eq (a b c : Int32) (m : mD) : Fdrafts a b c m = mDr a b c m := by
  have h := (Fdrafts_l a b c m 14 0 (by decide) (by decide)).1
  rw [fil_0] at h
  exact h
theorem Ddrafts_ok (a b c : Int32) (m : mD) : Ddrafts a b c m := by
  have h := (Fdrafts_l a b c m 14 0 (by decide) (by decide)).2
  rw [fil_0] at h
  exact h
theorem mDr_q {a b c : Int32} {m : mD} {q j : Nat} (h : q ≠ 3) : mDr a b c m q j = m q j := by
  rw [mDr, ab_up_ne h, ab_up_ne h, ab_up_ne h, fil_q h]
theorem mDr_3 {a b c : Int32} {m : mD} {j : Nat} (h : j < 13) : mDr a b c m 3 j = if j = 1 then a else if j = 2 then b else if j = 3 then c else 0 := by
  have e : fil m 3 0 13 (fun _ => 0) 3 j = 0 := fil_in (Nat.zero_le _) (by omega)
  simp only [mDr, ab_up, if_true, e]
  by_cases h3 : j = 3
  · subst h3; rfl
  · by_cases h2 : j = 2
    · subst h2; rfl
    · simp [h3, h2]
-- send
/-- the message that is drafted goes into t's inbox, the last -/
def mPut (t : Nat) (m : mD) : mD := ab_up (ab_up (fil m 1 (13 * (12 * t + (m 2 t).toNatClampNeg)) 13 (m 3)) 2 t (nI ((m 2 t).toNatClampNeg + 1))) 0 7 (m 0 7 + 1)
theorem Fsend_94_l (f t : Nat) (b : Int32) (m : mD) (ht : t < 12) (hp : ¬ m 2 t < 0) (hm : (m 2 t).toNatClampNeg < 12) : ∀ (n k : Nat), k ≤ 13 → 13 - k < n → Fsend_94 n f t b (13 * (12 * t + (m 2 t).toNatClampNeg)) k (fil m 1 (13 * (12 * t + (m 2 t).toNatClampNeg)) k (m 3)) = (0, mPut t m) ∧ Dsend_94 n f t b (13 * (12 * t + (m 2 t).toNatClampNeg)) k (fil m 1 (13 * (12 * t + (m 2 t).toNatClampNeg)) k (m 3)) := by
  intro n
  induction n with
  | zero => intro k _ h; omega
  | succ n ih =>
    intro k hk hn
    by_cases h : 13 ≤ k
    · have e : k = 13 := by omega
      subst e
      rw [Fsend_94, if_pos h]
      refine ⟨?_, by decide, fun _ => ⟨ht, by rw [fil_q (by decide)]; exact hp, ht, trivial⟩, fun q => absurd h q⟩
      dsimp only
      rw [fil_q (by decide), ab_up_ne (by decide), fil_q (by decide)]
      rfl
    · obtain ⟨h1, h2⟩ := ih (k + 1) (by omega) (by omega)
      have e := fil_s (m := m) (q := 1) (lo := 13 * (12 * t + (m 2 t).toNatClampNeg)) (k := k) (g := m 3)
      rw [Fsend_94, if_neg h]
      dsimp only
      rw [fil_q (by decide), e]
      refine ⟨h1, by omega, fun q => absurd q h, fun _ => ⟨by omega, by omega, ?_⟩⟩
      dsimp only
      rw [fil_q (by decide), e]
      exact h2
theorem Fsend_55_eq {f t : Nat} {b : Int32} {m : mD} (ht : t < 12) (hp : ¬ m 2 t < 0) (hm : (m 2 t).toNatClampNeg ≤ 12) : Fsend_55 f t b m = (if (m 2 t).toNatClampNeg = 12 then (nI 3, m) else (0, mPut t (ab_up m 3 0 (nI f)))) ∧ Dsend_55 f t b m := by
  by_cases h : (m 2 t).toNatClampNeg = 12
  · rw [Fsend_55, if_pos h, if_pos h]
    exact ⟨rfl, ht, hp, by omega, fun _ => trivial, fun q => absurd h q⟩
  · have h1 := Fsend_94_l f t b (ab_up m 3 0 (nI f)) ht (by rw [ab_up_ne (by decide)]; exact hp) (by rw [ab_up_ne (by decide)]; omega) 14 0 (by decide) (by decide)
    rw [fil_0, ab_up_ne (by decide : (2 : Nat) ≠ 3)] at h1
    rw [Fsend_55, if_neg h, if_neg h]
    exact ⟨h1.1, ht, hp, by omega, fun q => absurd q h, fun _ => ⟨ht, hp, h1.2⟩⟩
-- sends: a message that is FULL is kept
def mKeep (f t : Nat) (m : mD) : mD := ab_up (fil m 4 (13 * f) 13 (m 3)) 5 f (nI t)
theorem Fsends_13_l (f t : Nat) (m : mD) (hf : f < 12) : ∀ (n k : Nat), k ≤ 13 → 13 - k < n → Fsends_13 n f t k (fil m 4 (13 * f) k (m 3)) = mKeep f t m ∧ Dsends_13 n f t k (fil m 4 (13 * f) k (m 3)) := by
  intro n
  induction n with
  | zero => intro k _ h; omega
  | succ n ih =>
    intro k hk hn
    by_cases h : 13 ≤ k
    · have e : k = 13 := by omega
      subst e
      rw [Fsends_13, if_pos h]
      exact ⟨rfl, by decide, fun _ => ⟨hf, trivial⟩, fun q => absurd h q⟩
    · obtain ⟨h1, h2⟩ := ih (k + 1) (by omega) (by omega)
      have e := fil_s (m := m) (q := 4) (lo := 13 * f) (k := k) (g := m 3)
      rw [Fsends_13, if_neg h]
      dsimp only
      rw [fil_q (by decide), e]
      refine ⟨h1, by omega, fun q => absurd q h, fun _ => ⟨by omega, by omega, ?_⟩⟩
      dsimp only
      rw [fil_q (by decide), e]
      exact h2
theorem Fsends_13_eq (f t : Nat) (m : mD) (hf : f < 12) : Fsends_13 14 f t 0 m = mKeep f t m ∧ Dsends_13 14 f t 0 m := by
  have h := Fsends_13_l f t m hf 14 0 (by decide) (by decide)
  rw [fil_0] at h
  exact h
-- drop, takeOut
/-- message k of part p's inbox is out, those behind it move up -/
def mDrop (p k : Nat) (m : mD) : mD := ab_up (fil m 1 (13 * (12 * p + k)) (13 * ((m 2 p).toNatClampNeg - 1 - k)) (fun i => m 1 (13 * (12 * p + k) + i + 13))) 2 p (nI ((m 2 p).toNatClampNeg - 1))
theorem Fdrop_20_l (p k : Nat) (m : mD) (M : Nat) (hp : p < 12) (hm : m 2 p = nI M) (hk : k ≤ M) (hM : M < 12) : ∀ (n i : Nat), i ≤ 13 * (M - k) → 13 * (M - k) - i < n → Fdrop_20 n p k (13 * (12 * p + k) + i) (fil m 1 (13 * (12 * p + k)) i (fun i => m 1 (13 * (12 * p + k) + i + 13))) = fil m 1 (13 * (12 * p + k)) (13 * (M - k)) (fun i => m 1 (13 * (12 * p + k) + i + 13)) ∧ Ddrop_20 n p k (13 * (12 * p + k) + i) (fil m 1 (13 * (12 * p + k)) i (fun i => m 1 (13 * (12 * p + k) + i + 13))) := by
  have hc : (nI M).toNatClampNeg = M := nI_clamp (by omega)
  have h0 : ¬ nI M < 0 := nI_pos (by omega)
  intro n
  induction n with
  | zero => intro i _ h; omega
  | succ n ih =>
    intro i hi hn
    have e2 : ∀ j, fil m 1 (13 * (12 * p + k)) j (fun i => m 1 (13 * (12 * p + k) + i + 13)) 2 p = nI M := fun j => (fil_q (by decide)).trans hm
    by_cases h : 13 * (12 * p + M) ≤ 13 * (12 * p + k) + i
    · have e : i = 13 * (M - k) := by omega
      subst e
      rw [Fdrop_20, e2, hc, if_pos h, Ddrop_20, e2, hc]
      exact ⟨rfl, hp, h0, by omega, by omega, fun _ => trivial, fun q => absurd h q⟩
    · obtain ⟨h1, h2⟩ := ih (i + 1) (by omega) (by omega)
      have e := fil_s (m := m) (q := 1) (lo := 13 * (12 * p + k)) (k := i) (g := fun i => m 1 (13 * (12 * p + k) + i + 13))
      have e3 : fil m 1 (13 * (12 * p + k)) i (fun i => m 1 (13 * (12 * p + k) + i + 13)) 1 (13 * (12 * p + k) + i + 13) = m 1 (13 * (12 * p + k) + i + 13) := fil_out (by omega)
      rw [Fdrop_20, e2, hc, if_neg h, Ddrop_20, e2, hc]
      dsimp only
      rw [e3, e]
      exact ⟨h1, hp, h0, by omega, by omega, fun q => absurd q h, fun _ => ⟨by omega, by omega, h2⟩⟩
theorem Fdrop_eq {p k : Nat} {m : mD} {M : Nat} (hp : p < 12) (hm : m 2 p = nI M) (hk : k < M) (hM : M ≤ 12) : Fdrop p k m = mDrop p k m ∧ Ddrop p k m := by
  have hc : (nI M).toNatClampNeg = M := nI_clamp (by omega)
  have h0 : ¬ nI M < 0 := nI_pos (by omega)
  have h1 := Fdrop_20_l p k (ab_up m 2 p (nI (M - 1))) (M - 1) hp ab_up_eq (by omega) (by omega) 157 0 (by omega) (by omega)
  have e : nI M - nI 1 = nI (M - 1) := pk_sub (by omega)
  rw [fil_0, Nat.add_zero] at h1
  rw [Fdrop, Ddrop, hm, hc]
  dsimp only
  rw [e]
  refine ⟨?_, hp, h0, hp, h1.2⟩
  rw [h1.1, mDrop, hm, hc]
  funext a j
  by_cases ha : a = 1
  · subst ha
    rw [ab_up_ne (by decide)]
    simp only [fil, ab_up_ne (show (1 : Nat) ≠ 2 by decide)]
  · rw [fil_q ha]
    by_cases h2 : a = 2
    · subst h2
      simp only [ab_up, fil_q ha, if_true]
    · rw [ab_up_ne h2, ab_up_ne h2, fil_q ha]
def mTake (p k : Nat) (m : mD) : mD := mDrop p k (fil m 6 0 13 (fun i => m 1 (13 * (12 * p + k) + i)))
theorem FtakeOut_eq {p k : Nat} {m : mD} {M : Nat} (hp : p < 12) (hm : m 2 p = nI M) (hk : k < M) (hM : M ≤ 12) : FtakeOut p k m = mTake p k m ∧ DtakeOut p k m := by
  have key : ∀ (n i : Nat), i ≤ 13 → 13 - i < n → FtakeOut_13 n p k (13 * (12 * p + k)) i (fil m 6 0 i (fun i => m 1 (13 * (12 * p + k) + i))) = mTake p k m ∧ DtakeOut_13 n p k (13 * (12 * p + k)) i (fil m 6 0 i (fun i => m 1 (13 * (12 * p + k) + i))) := by
    intro n
    induction n with
    | zero => intro i _ h; omega
    | succ n ih =>
      intro i hi hn
      by_cases h : 13 ≤ i
      · have e : i = 13 := by omega
        subst e
        obtain ⟨h1, h2⟩ := Fdrop_eq (p := p) (k := k) (m := fil m 6 0 13 (fun i => m 1 (13 * (12 * p + k) + i))) (M := M) hp (by rw [fil_q (by decide)]; exact hm) hk hM
        rw [FtakeOut_13, if_pos h]
        exact ⟨h1, by decide, fun _ => ⟨h2, trivial⟩, fun q => absurd h q⟩
      · obtain ⟨h1, h2⟩ := ih (i + 1) (by omega) (by omega)
        have e := fil_s (m := m) (q := 6) (lo := 0) (k := i) (g := fun i => m 1 (13 * (12 * p + k) + i))
        rw [Nat.zero_add] at e
        rw [FtakeOut_13, if_neg h]
        dsimp only
        rw [fil_q (by decide), e]
        refine ⟨h1, by omega, fun q => absurd q h, fun _ => ⟨by omega, by omega, ?_⟩⟩
        dsimp only
        rw [fil_q (by decide), e]
        exact h2
  have h := key 14 0 (by decide) (by decide)
  rw [fil_0] at h
  exact h
