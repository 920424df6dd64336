/-! THE CLASS's STORE: x.1 what its cells hold, x.2 which message stands where in an inbox's row -/
abbrev xD : Type := mD × (Nat → Nat → Nat)
def shX (q : Nat) : Nat × Nat :=
  if q < 7 then ([(10, 9), (1, 7), (103, 12), (101, 12), (102, 12), (6, 8), (100, 8)] : List (Nat × Nat)).getD q (999, 0)
  else if q < 343 then (if (q - 7) % 28 = 0 then (0, 2) else if (q - 7) % 28 = 1 then (102, 12) else if (q - 7) % 2 = 0 then (6, 8) else (100, 8))
  else ([(5, 3), (2, 6), (100, 192), (100, 8), (3, 11), (4, 6), (101, 16), (100, 16), (100, 64), (101, 24), (7, 2), (100, 32), (100, 32), (100, 8), (8, 8), (100, 12), (100, 12), (101, 12), (101, 12), (9, 3), (101, 12), (100, 12), (100, 12)] : List (Nat × Nat)).getD (q - 343) (999, 0)
def crT (q j : Nat) : Option Nat := (([((0, 0), 1), ((0, 1), 343), ((0, 2), 344), ((0, 3), 347), ((0, 4), 357), ((0, 5), 362), ((1, 0), 2), ((1, 1), 3), ((1, 2), 4), ((1, 3), 5), ((5, 0), 6), ((344, 0), 345), ((344, 1), 346), ((347, 0), 348), ((347, 1), 353), ((347, 3), 356), ((348, 0), 349), ((348, 1), 350), ((348, 2), 351), ((348, 3), 352), ((353, 0), 354), ((353, 1), 355), ((357, 0), 358), ((357, 1), 359), ((357, 2), 360), ((357, 3), 361), ((362, 0), 363), ((362, 1), 364), ((362, 2), 365)] : List ((Nat × Nat) × Nat)).lookup (q, j))
def crX (r : Nat → Nat → Nat) (q j : Nat) : Option Nat :=
  if q = 2 then (if j < 12 then some (7 + 28 * j) else none)
  else if q = 4 then (if j < 12 then some (33 + 28 * j) else none)
  else if q < 7 ∨ 343 ≤ q then crT q j
  else if (q - 7) % 28 = 1 then (if j < 12 then some (r q j) else none)
  else if j = 0 ∧ (q - 7) % 2 = 0 then some (q + 1) else none
def sX (x : xD) : ab_S := (366, shX, x.1, crX x.2)
abbrev isX (q ci : Nat) : Prop := q < 366 ∧ (shX q).1 = ci
abbrev rowX (q : Nat) : Prop := 7 ≤ q ∧ q < 343 ∧ (q - 7) % 28 = 1
abbrev xV (M : ab_M) (d : Nat) (tt : Prop) (Q : Option Value → ab_S → Prop) (pc : Nat) (ls : List (Option Value)) (st : List Value) (x : xD) : Prop := ab_V M d 0 0 tt Q 0 0 pc ls st (sX x)
def xQi (z : Int32 × xD) : Option Value → ab_S → Prop := fun r σ => r = some (.int z.1) ∧ σ = sX z.2
def xQv (z : xD) : Option Value → ab_S → Prop := fun r σ => r = none ∧ σ = sX z
def ab_ro (o : Option Nat) : Value := match o with
  | none => .null
  | some q => .ref q
def xQo (z : Option Nat × xD) : Option Value → ab_S → Prop := fun r σ => r = some (ab_ro z.1) ∧ σ = sX z.2
def ab_o {β : Type} (o : Option Nat) (a : β) (f : Nat → β) : β := match o with
  | none => a
  | some q => f q
theorem ab_o_n {β : Type} {o : Option Nat} {a : β} {f : Nat → β} (h : o = none) : ab_o o a f = a := by rw [h]; rfl
theorem ab_o_s {β : Type} {o : Option Nat} {q : Nat} {a : β} {f : Nat → β} (h : o = some q) : ab_o o a f = f q := by rw [h]; rfl
theorem isX_kinds : ∀ q, q < 366 → ((shX q).1 = 0 → 7 ≤ q ∧ q < 343 ∧ (q - 7) % 28 = 0) ∧ ((shX q).1 = 6 → q = 5 ∨ (7 ≤ q ∧ q < 343 ∧ (q - 7) % 28 ≠ 0 ∧ (q - 7) % 28 ≠ 1 ∧ (q - 7) % 2 = 0)) := by decide +kernel
theorem crX_row {r : Nat → Nat → Nat} {q : Nat} (h : isX q 0) : crX r q 0 = some (q + 1) := by
  obtain ⟨h1, h2, h3⟩ := (isX_kinds q h.1).1 h.2
  rw [crX, if_neg (by omega), if_neg (by omega), if_neg (by omega), if_neg (by omega), if_pos ⟨rfl, by omega⟩]
theorem crX_num {r : Nat → Nat → Nat} {q : Nat} (h : isX q 6) : crX r q 0 = some (q + 1) := by
  rcases (isX_kinds q h.1).2 h.2 with rfl | ⟨h1, h2, h3, h4, h5⟩
  · rfl
  · rw [crX, if_neg (by omega), if_neg (by omega), if_neg (by omega), if_neg (by omega), if_pos ⟨rfl, by omega⟩]
theorem shX_nums : ∀ q, q < 366 → (shX q).1 = 6 → q + 1 < 366 ∧ shX (q + 1) = (100, 8) := by decide +kernel
theorem isX_num {q : Nat} (h : isX q 6) : isX (q + 1) 100 := ⟨(shX_nums q h.1 h.2).1, congrArg Prod.fst (shX_nums q h.1 h.2).2⟩
theorem shX_num {q : Nat} (h : isX q 6) : (shX (q + 1)).2 = 8 := congrArg Prod.snd (shX_nums q h.1 h.2).2
theorem rowX_of {q : Nat} (h : isX q 0) : rowX (q + 1) := by
  obtain ⟨h1, h2, h3⟩ := (isX_kinds q h.1).1 h.2
  exact ⟨by omega, by omega, by omega⟩
theorem shX_row {q : Nat} (h : rowX q) : shX q = (102, 12) := by
  obtain ⟨h1, h2, h3⟩ := h
  rw [shX, if_neg (by omega), if_pos h2, if_neg (by omega), if_pos h3]
theorem rowX_is {q : Nat} (h : rowX q) : isX q 102 := ⟨Nat.lt_trans h.2.1 (by decide), congrArg Prod.fst (shX_row h)⟩
theorem rowX_len {q : Nat} (h : rowX q) : (shX q).2 = 12 := congrArg Prod.snd (shX_row h)
theorem crX_r {r : Nat → Nat → Nat} {q j : Nat} (h : rowX q) (hj : j < 12) : crX r q j = some (r q j) := by
  obtain ⟨h1, h2, h3⟩ := h
  rw [crX, if_neg (by omega), if_neg (by omega), if_neg (by omega), if_pos h3, if_pos hj]
theorem crX_box {r : Nat → Nat → Nat} {j : Nat} (hj : j < 12) : crX r 2 j = some (7 + 28 * j) := by rw [crX, if_pos rfl, if_pos hj]
theorem crX_dra {r : Nat → Nat → Nat} {j : Nat} (hj : j < 12) : crX r 4 j = some (33 + 28 * j) := by rw [crX, if_neg (by decide), if_pos rfl, if_pos hj]
theorem isX_box : ∀ {j : Nat}, j < 12 → isX (7 + 28 * j) 0 := fun {j} hj => (by decide +kernel : ∀ j, j < 12 → isX (7 + 28 * j) 0) j hj
theorem isX_dra : ∀ {j : Nat}, j < 12 → isX (33 + 28 * j) 6 := fun {j} hj => (by decide +kernel : ∀ j, j < 12 → isX (33 + 28 * j) 6) j hj
theorem crX_up {r : Nat → Nat → Nat} {q j v : Nat} (h : rowX q) (hj : j < 12) : ab_up (crX r) q j (some v) = crX (ab_up r q j v) := by
  obtain ⟨h1, h2, h3⟩ := h
  funext a b
  by_cases ha : a = q
  · subst ha
    rw [show crX (ab_up r a j v) a b = if b < 12 then some (ab_up r a j v a b) else none by rw [crX, if_neg (by omega), if_neg (by omega), if_neg (by omega), if_pos h3]]
    by_cases hb : b = j
    · subst hb
      rw [if_pos hj, ab_up_eq, ab_up_eq]
    · rw [ab_up_nj hb, ab_up_nj hb, crX, if_neg (by omega), if_neg (by omega), if_neg (by omega), if_pos h3]
  · rw [ab_up_ne ha]
    simp only [crX, ab_up_ne ha]
section XO
variable {M : ab_M} {d : Nat} {tt : Prop} {Q : Option Value → ab_S → Prop} {pc : Nat} {ls : List (Option Value)} {st : List Value} {x : xD}
theorem xo_gi {idx ci j q : Nat} (hd : decode M.2.1 pc = .ok (.getfield idx, 3)) (hf : ab_FL M.1.cls idx ci j) (hk : isX q ci) (hr : ab_isR (ab_ty ci j) = false) (k : xV M d tt Q (pc + 3) ls (.int (x.1 q j) :: st) x) : xV M d tt Q pc ls (.ref q :: st) x := ab_getI hd hf hk hr k
theorem xo_gr {idx ci j q a : Nat} (hd : decode M.2.1 pc = .ok (.getfield idx, 3)) (hf : ab_FL M.1.cls idx ci j) (hk : isX q ci) (hr : ab_isR (ab_ty ci j) = true) (ha : crX x.2 q j = some a) (k : xV M d tt Q (pc + 3) ls (.ref a :: st) x) : xV M d tt Q pc ls (.ref q :: st) x := ab_getR hd hf hk hr ha k
theorem xo_pi {idx ci j q : Nat} {v : Int32} (hd : decode M.2.1 pc = .ok (.putfield idx, 3)) (hf : ab_FL M.1.cls idx ci j) (hk : isX q ci) (hr : ab_isR (ab_ty ci j) = false) (hp : ab_pf M ci j) (hv : ab_ok (ab_ty ci j) v) (k : xV M d tt Q (pc + 3) ls st (ab_up x.1 q j v, x.2)) : xV M d tt Q pc ls (.int v :: .ref q :: st) x := ab_putI hd hf hk hr hp hv k
theorem xo_ild {a n len : Nat} (hd : decode M.2.1 pc = .ok (.iaload, 1)) (hk : isX a 100) (hl : (shX a).2 = len) (hi : n < len) (hb : len < 2147483648) (k : xV M d tt Q (pc + 1) ls (.int (x.1 a n) :: st) x) : xV M d tt Q pc ls (.int (nI n) :: .ref a :: st) x := ab_ialdN hd hk hl hi hb k
theorem xo_zld {a n len : Nat} (hd : decode M.2.1 pc = .ok (.baload, 1)) (hk : isX a 101) (hl : (shX a).2 = len) (hi : n < len) (hb : len < 2147483648) (k : xV M d tt Q (pc + 1) ls (.int (x.1 a n) :: st) x) : xV M d tt Q pc ls (.int (nI n) :: .ref a :: st) x := ab_zaldN hd hk hl hi hb k
theorem xo_ist {a n len : Nat} {v : Int32} (hd : decode M.2.1 pc = .ok (.iastore, 1)) (hk : isX a 100) (hl : (shX a).2 = len) (hi : n < len) (hb : len < 2147483648) (k : xV M d tt Q (pc + 1) ls st (ab_up x.1 a n v, x.2)) : xV M d tt Q pc ls (.int v :: .int (nI n) :: .ref a :: st) x := ab_iastN hd hk hl hi hb k
theorem xo_zst {a n len : Nat} {v : Int32} (hd : decode M.2.1 pc = .ok (.bastore, 1)) (hk : isX a 101) (hl : (shX a).2 = len) (hi : n < len) (hb : len < 2147483648) (hx : v = 0 ∨ v = 1) (k : xV M d tt Q (pc + 1) ls st (ab_up x.1 a n v, x.2)) : xV M d tt Q pc ls (.int v :: .int (nI n) :: .ref a :: st) x := ab_zastN hd hk hl hi hb hx k
theorem xo_tld {n : Nat} (hd : decode M.2.1 pc = .ok (.iaload, 1)) (hi : n < 12) (k : xV M d tt Q (pc + 1) ls (.int (ab_al n) :: st) x) : xV M d tt Q pc ls (.int (nI n) :: .ref 1000000 :: st) x := ab_tld hd (vp_in_nI hi (by decide)) (by rw [nI_clamp (by omega)]; exact k)
theorem xo_ald {q n kd v : Nat} (hd : decode M.2.1 pc = .ok (.aaload, 1)) (hk : isX q kd) (hkd : kd = 102 ∨ kd = 103) (hl : (shX q).2 = 12) (hi : n < 12) (hv : crX x.2 q n = some v) (k : xV M d tt Q (pc + 1) ls (.ref v :: st) x) : xV M d tt Q pc ls (.int (nI n) :: .ref q :: st) x := ab_aald hd hk hkd (by show vp_in _ (shX q).2; rw [hl]; exact vp_in_nI hi (by decide)) (by rw [nI_clamp (by omega)]; exact hv) k
theorem xo_ast {q n v : Nat} (hd : decode M.2.1 pc = .ok (.aastore, 1)) (hq : rowX q) (hi : n < 12) (hv : isX v 6) (k : xV M d tt Q (pc + 1) ls st (x.1, ab_up x.2 q n v)) : xV M d tt Q pc ls (.ref v :: .int (nI n) :: .ref q :: st) x := by
  refine ab_aast (kd := 102) (ck := 6) hd (rowX_is hq) (Or.inl ⟨rfl, rfl⟩) (by show vp_in _ (shX q).2; rw [shX_row hq]; exact vp_in_nI hi (by decide)) hv ?_
  rw [nI_clamp (by omega)]
  have e : ab_sr (sX x) q n (some v) = sX (x.1, ab_up x.2 q n v) := by
    show ((366, shX, x.1, ab_up (crX x.2) q n (some v)) : ab_S) = (366, shX, x.1, crX (ab_up x.2 q n v))
    rw [crX_up hq hi]
  rw [e]
  exact k
theorem xo_aln {a : Nat} (hd : decode M.2.1 pc = .ok (.arraylength, 1)) (hk : isX a 100) (k : xV M d tt Q (pc + 1) ls (.int (nI (shX a).2) :: st) x) : xV M d tt Q pc ls (.ref a :: st) x := ab_alen hd hk (Or.inl rfl) k
theorem xo_inv {N : ab_M} {d' idx q ci : Nat} {av : List Value} {Q' : Option Value → ab_S → Prop} (hd : decode M.2.1 pc = .ok (.invokevirtual idx, 3)) (hl : Cond.methodLink M.1.cls idx N.1 ∈ gw) (hF : ab_FV N av.length ci) (hk : isX q ci) (hst : (st.map fun v => v.category).sum ≤ 8) (hdd : d' + 1 ≤ d) (hM : ab_Met N d' 0 0 tt (.ref q :: av) (sX x) Q') (k : ∀ r σ', Q' r σ' → ab_V M d 0 0 tt Q 0 0 (pc + 3) ls (r.toList ++ st) σ') : xV M d tt Q pc ls (av.reverse ++ .ref q :: st) x := ab_invV hd hl hF hk hst hdd ⟨Nat.le_refl _, Nat.le_refl _⟩ hM k
theorem xo_invi {N : ab_M} {d' idx q ci : Nat} {av : List Value} {z : Int32 × xD} (hd : decode M.2.1 pc = .ok (.invokevirtual idx, 3)) (hl : Cond.methodLink M.1.cls idx N.1 ∈ gw) (hF : ab_FV N av.length ci) (hk : isX q ci) (hst : (st.map fun v => v.category).sum ≤ 8) (hdd : d' + 1 ≤ d) (hM : ab_Met N d' 0 0 tt (.ref q :: av) (sX x) (xQi z)) (k : xV M d tt Q (pc + 3) ls (.int z.1 :: st) z.2) : xV M d tt Q pc ls (av.reverse ++ .ref q :: st) x := xo_inv hd hl hF hk hst hdd hM (fun r σ' h => by obtain ⟨rfl, rfl⟩ := h; exact k)
theorem xo_invr {N : ab_M} {d' idx q ci : Nat} {av : List Value} {z : Int32} (hd : decode M.2.1 pc = .ok (.invokevirtual idx, 3)) (hl : Cond.methodLink M.1.cls idx N.1 ∈ gw) (hF : ab_FV N av.length ci) (hk : isX q ci) (hst : (st.map fun v => v.category).sum ≤ 8) (hdd : d' + 1 ≤ d) (hM : ab_Met N d' 0 0 tt (.ref q :: av) (sX x) (xQi (z, x))) (k : xV M d tt Q (pc + 3) ls (.int z :: st) x) : xV M d tt Q pc ls (av.reverse ++ .ref q :: st) x := xo_invi hd hl hF hk hst hdd hM k
theorem xo_invv {N : ab_M} {d' idx q ci : Nat} {av : List Value} {z : xD} (hd : decode M.2.1 pc = .ok (.invokevirtual idx, 3)) (hl : Cond.methodLink M.1.cls idx N.1 ∈ gw) (hF : ab_FV N av.length ci) (hk : isX q ci) (hst : (st.map fun v => v.category).sum ≤ 8) (hdd : d' + 1 ≤ d) (hM : ab_Met N d' 0 0 tt (.ref q :: av) (sX x) (xQv z)) (k : xV M d tt Q (pc + 3) ls st z) : xV M d tt Q pc ls (av.reverse ++ .ref q :: st) x := xo_inv hd hl hF hk hst hdd hM (fun r σ' h => by obtain ⟨rfl, rfl⟩ := h; exact k)
theorem xo_invo {N : ab_M} {d' idx q ci : Nat} {av : List Value} {z : Option Nat × xD} (hd : decode M.2.1 pc = .ok (.invokevirtual idx, 3)) (hl : Cond.methodLink M.1.cls idx N.1 ∈ gw) (hF : ab_FV N av.length ci) (hk : isX q ci) (hst : (st.map fun v => v.category).sum ≤ 8) (hdd : d' + 1 ≤ d) (hM : ab_Met N d' 0 0 tt (.ref q :: av) (sX x) (xQo z)) (kn : z.1 = none → xV M d tt Q (pc + 3) ls (.null :: st) z.2) (ks : ∀ w, z.1 = some w → xV M d tt Q (pc + 3) ls (.ref w :: st) z.2) : xV M d tt Q pc ls (av.reverse ++ .ref q :: st) x := xo_inv hd hl hF hk hst hdd hM (fun r σ' h => by
  obtain ⟨rfl, rfl⟩ := h
  cases hz : z.1 with
  | none => exact kn hz
  | some w => exact ks w hz)
theorem xo_invp {N : ab_M} {d' idx q ci : Nat} {av : List Value} {z : Option Nat × xD} (hd : decode M.2.1 pc = .ok (.invokevirtual idx, 3)) (hl : Cond.methodLink M.1.cls idx N.1 ∈ gw) (hF : ab_FV N av.length ci) (hk : isX q ci) (hst : (st.map fun v => v.category).sum ≤ 8) (hdd : d' + 1 ≤ d) (hM : ab_Met N d' 0 0 tt (.ref q :: av) (sX x) (xQo z)) (hd2 : decode M.2.1 (pc + 3) = .ok (.pop, 1)) (k : xV M d tt Q (pc + 3 + 1) ls st z.2) : xV M d tt Q pc ls (av.reverse ++ .ref q :: st) x := xo_inv hd hl hF hk hst hdd hM (fun r σ' h => by
  obtain ⟨rfl, rfl⟩ := h
  refine ab_pop hd2 ?_ k
  cases z.1 <;> rfl)
theorem xo_invs {N : ab_M} {d' idx : Nat} {av : List Value} {z : Int32} (hd : decode M.2.1 pc = .ok (.invokestatic idx, 3)) (hl : Cond.methodLink M.1.cls idx N.1 ∈ gw) (hF : ab_FS N av.length) (hst : (st.map fun v => v.category).sum ≤ 8) (hdd : d' + 1 ≤ d) (hM : ab_Met N d' 0 0 tt av (sX x) (xQi (z, x))) (k : xV M d tt Q (pc + 3) ls (.int z :: st) x) : xV M d tt Q pc ls (av.reverse ++ st) x := ab_invS hd hl hF hst hdd ⟨Nat.le_refl _, Nat.le_refl _⟩ hM (fun r σ' h => by obtain ⟨rfl, rfl⟩ := h; exact k)
theorem xo_invsN {N : ab_M} {d' idx : Nat} {av : List Value} {z : Int32} {host : String} (hd : decode M.2.1 pc = .ok (.invokestatic idx, 3)) (hl : Cond.methodLinkNest M.1.cls idx N.1 host ∈ ab_nest) (hF : ab_FS N av.length) (hst : (st.map fun v => v.category).sum ≤ 8) (hdd : d' + 1 ≤ d) (hM : ab_Met N d' 0 0 tt av (sX x) (xQi (z, x))) (k : xV M d tt Q (pc + 3) ls (.int z :: st) x) : xV M d tt Q pc ls (av.reverse ++ st) x := ab_invSN hd hl hF hst hdd ⟨Nat.le_refl _, Nat.le_refl _⟩ hM (fun r σ' h => by obtain ⟨rfl, rfl⟩ := h; exact k)
theorem xo_ir {v : Int32} {z : Int32 × xD} {ty : FieldType} (hd : decode M.2.1 pc = .ok (.ireturn, 1)) (hr : M.2.2.2 = some ty) (hn : narrow ty (.int v) = .int v) (hz : z = (v, x)) : xV M d tt (xQi z) pc ls [.int v] x := ab_ireturn hd hr hn ⟨Nat.le_refl _, Nat.le_refl _⟩ (fun _ => rfl) (by rw [hz]; exact ⟨rfl, rfl⟩)
theorem xo_vr {z : xD} (hd : decode M.2.1 pc = .ok (.return_, 1)) (hr : M.2.2.2 = none) (hz : z = x) : xV M d tt (xQv z) pc ls [] x := ab_return hd hr ⟨Nat.le_refl _, Nat.le_refl _⟩ (fun _ => rfl) (by rw [hz]; exact ⟨rfl, rfl⟩)
theorem xo_orN {z : Option Nat × xD} {C : String} (hd : decode M.2.1 pc = .ok (.areturn, 1)) (hr : M.2.2.2 = some (.object C)) (hz : z = (none, x)) : xV M d tt (xQo z) pc ls [.null] x := ab_areturn hd hr (Or.inl rfl) ⟨Nat.le_refl _, Nat.le_refl _⟩ (fun _ => rfl) (by rw [hz]; exact ⟨rfl, rfl⟩)
theorem xo_or {z : Option Nat × xD} {C : String} {w : Nat} (hd : decode M.2.1 pc = .ok (.areturn, 1)) (hr : M.2.2.2 = some (.object C)) (hz : z = (some w, x)) : xV M d tt (xQo z) pc ls [.ref w] x := ab_areturn hd hr (Or.inr ⟨_, rfl⟩) ⟨Nat.le_refl _, Nat.le_refl _⟩ (fun _ => rfl) (by rw [hz]; exact ⟨rfl, rfl⟩)
theorem xo_eqi {z z' : Int32 × xD} (h : z = z') (k : xV M d tt (xQi z') pc ls st x) : xV M d tt (xQi z) pc ls st x := by rw [h]; exact k
theorem xo_eqr {z z' : Int32 × xD} (h : z = z') (k : xV M d tt (xQi z') pc ls st x) : xV M d tt (xQi z) pc ls st x := by rw [h]; exact k
theorem xo_eqv {z z' : xD} (h : z = z') (k : xV M d tt (xQv z') pc ls st x) : xV M d tt (xQv z) pc ls st x := by rw [h]; exact k
theorem xo_eqo {z z' : Option Nat × xD} (h : z = z') (k : xV M d tt (xQo z') pc ls st x) : xV M d tt (xQo z) pc ls st x := by rw [h]; exact k
end XO
