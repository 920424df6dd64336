/-! NEW OBJECTS: stores of a fixed shape in which the places from n on are still to come -/
def sN (sh : Nat → Nat × Nat) (n : Nat) (i : Nat → Nat → Int32) (r : Nat → Nat → Option Nat) : ab_S := (n, sh, i, r)
def Fr (n : Nat) (i : Nat → Nat → Int32) (r : Nat → Nat → Option Nat) : Prop := ∀ q, n ≤ q → (∀ j, i q j = 0) ∧ ∀ j, r q j = none
def cQ (sh : Nat → Nat × Nat) (n : Nat) (i : Nat → Nat → Int32) (r : Nat → Nat → Option Nat) : Option Value → ab_S → Prop := fun v σ => v = none ∧ σ = sN sh n i r
section FRS
variable {n n' q j : Nat} {i : Nat → Nat → Int32} {r : Nat → Nat → Option Nat} {v : Int32} {w : Option Nat} {sh : Nat → Nat × Nat} {kd len : Nat}
theorem Fr.mono (h : Fr n i r) (hn : n ≤ n') : Fr n' i r := fun q hq => h q (Nat.le_trans hn hq)
theorem Fr.ui (h : Fr n i r) (hq : q < n) : Fr n (ab_up i q j v) r := fun a ha => ⟨fun b => by rw [ab_up_ne (by omega)]; exact (h a ha).1 b, (h a ha).2⟩
theorem Fr.ur (h : Fr n i r) (hq : q < n) : Fr n i (ab_up r q j w) := fun a ha => ⟨(h a ha).1, fun b => by rw [ab_up_ne (by omega)]; exact (h a ha).2 b⟩
theorem sN_nw (h : sh n = (kd, len)) (hf : Fr n i r) : ab_nw (sN sh n i r) kd len = sN sh (n + 1) i r := by
  show ((n + 1, (fun q => if q = n then (kd, len) else sh q), (fun q j => if q = n then 0 else i q j), (fun q j => if q = n then none else r q j)) : ab_S) = (n + 1, sh, i, r)
  have e1 : (fun q => if q = n then (kd, len) else sh q) = sh := by
    funext q
    by_cases e : q = n
    · rw [if_pos e, e, h]
    · rw [if_neg e]
  have e2 : (fun q j => if q = n then 0 else i q j) = i := by
    funext q j
    by_cases e : q = n
    · rw [if_pos e, e, (hf n (Nat.le_refl _)).1 j]
    · rw [if_neg e]
  have e3 : (fun q j => if q = n then none else r q j) = r := by
    funext q j
    by_cases e : q = n
    · rw [if_pos e, e, (hf n (Nat.le_refl _)).2 j]
    · rw [if_neg e]
  rw [e1, e2, e3]
end FRS
section CNS
variable {M : ab_M} {d mc ms : Nat} {tt : Prop} {Q : Option Value → ab_S → Prop} {kc ks pc : Nat} {ls : List (Option Value)} {st : List Value} {sh : Nat → Nat × Nat} {n n' : Nat} {i : Nat → Nat → Int32} {r : Nat → Nat → Option Nat}
theorem cn_new {idx ci : Nat} {C : String} {T : u_T} {N : Nat} (hd : decode M.2.1 pc = .ok (.new idx, 3)) (htt : tt) (hn : n < 1000000) (hl : Cond.classLink M.1.cls idx C ∈ gw) (hc : vwCl[ci]? = some (C, T, N)) (hs : sh n = (ci, N)) (hf : Fr n i r) (hm : kc + 1 ≤ mc ∧ ks + N ≤ ms) (hn' : n + 1 = n')
    (k : ab_V M d mc ms tt Q (kc + 1) (ks + N) (pc + 3) ls (.ref n :: st) (sN sh n' i r)) : ab_V M d mc ms tt Q kc ks pc ls st (sN sh n i r) := by
  subst hn'
  exact ab_new (σ := sN sh n i r) hd htt hn hl hc hm (by rw [sN_nw hs hf]; exact k)
theorem cn_newa {kd : Nat} {atype : ArrayType} {len : Nat} (hd : decode M.2.1 pc = .ok (.newarray atype, 2)) (htt : tt) (hn : n < 1000000) (hty : (atype = .int ∧ kd = 100) ∨ (atype = .boolean ∧ kd = 101)) (hs : sh n = (kd, len)) (hf : Fr n i r) (hb : len ≤ 5000) (hm : kc + 1 ≤ mc ∧ ks + len ≤ ms) (hn' : n + 1 = n')
    (k : ab_V M d mc ms tt Q (kc + 1) (ks + len) (pc + 2) ls (.ref n :: st) (sN sh n' i r)) : ab_V M d mc ms tt Q kc ks pc ls (.int (nI len) :: st) (sN sh n i r) := by
  subst hn'
  exact ab_newa (σ := sN sh n i r) (ty := .int) (kd := kd) hd htt hn hty (nI_pos (by omega)) (nI_clamp (by omega)) hb hm (by rw [sN_nw hs hf]; exact k)
theorem cn_newq {idx kd : Nat} {C : String} {len : Nat} (hd : decode M.2.1 pc = .ok (.anewarray idx, 3)) (htt : tt) (hn : n < 1000000) (hl : Cond.classLink M.1.cls idx C ∈ gw) (hty : (C = RX6 ∧ kd = 102) ∨ (C = RX0 ∧ kd = 103)) (hs : sh n = (kd, len)) (hf : Fr n i r) (hb : len ≤ 5000) (hm : kc + 1 ≤ mc ∧ ks + len ≤ ms) (hn' : n + 1 = n')
    (k : ab_V M d mc ms tt Q (kc + 1) (ks + len) (pc + 3) ls (.ref n :: st) (sN sh n' i r)) : ab_V M d mc ms tt Q kc ks pc ls (.int (nI len) :: st) (sN sh n i r) := by
  subst hn'
  exact ab_newq (σ := sN sh n i r) (kd := kd) hd htt hn hl hty (nI_pos (by omega)) (nI_clamp (by omega)) hb hm (by rw [sN_nw hs hf]; exact k)
theorem cn_putR {idx ci j q v N : Nat} (hd : decode M.2.1 pc = .ok (.putfield idx, 3)) (hf : ab_FL M.1.cls idx ci j) (hq : q < n) (hk : sh q = (ci, N)) (hr : ab_isR (ab_ty ci j) = true) (hp : ab_pf M ci j) (k : ab_V M d mc ms tt Q kc ks (pc + 3) ls st (sN sh n i (ab_up r q j (some v)))) : ab_V M d mc ms tt Q kc ks pc ls (.ref v :: .ref q :: st) (sN sh n i r) := ab_putR (σ := sN sh n i r) hd hf ⟨hq, congrArg Prod.fst hk⟩ hr hp k
theorem cn_putI {idx ci j q N : Nat} {v : Int32} (hd : decode M.2.1 pc = .ok (.putfield idx, 3)) (hf : ab_FL M.1.cls idx ci j) (hq : q < n) (hk : sh q = (ci, N)) (hr : ab_isR (ab_ty ci j) = false) (hp : ab_pf M ci j) (hv : ab_ok (ab_ty ci j) v) (k : ab_V M d mc ms tt Q kc ks (pc + 3) ls st (sN sh n (ab_up i q j v) r)) : ab_V M d mc ms tt Q kc ks pc ls (.int v :: .ref q :: st) (sN sh n i r) := ab_putI (σ := sN sh n i r) hd hf ⟨hq, congrArg Prod.fst hk⟩ hr hp hv k
theorem cn_getR {idx ci j q x N : Nat} (hd : decode M.2.1 pc = .ok (.getfield idx, 3)) (hf : ab_FL M.1.cls idx ci j) (hq : q < n) (hk : sh q = (ci, N)) (hr : ab_isR (ab_ty ci j) = true) (hx : r q j = some x) (k : ab_V M d mc ms tt Q kc ks (pc + 3) ls (.ref x :: st) (sN sh n i r)) : ab_V M d mc ms tt Q kc ks pc ls (.ref q :: st) (sN sh n i r) := ab_getR (σ := sN sh n i r) hd hf ⟨hq, congrArg Prod.fst hk⟩ hr hx k
theorem cn_iast {q k len : Nat} {x : Int32} (hd : decode M.2.1 pc = .ok (.iastore, 1)) (hq : q < n) (hk : sh q = (100, len)) (hi : k < len) (hb : len < 2147483648) (kk : ab_V M d mc ms tt Q kc ks (pc + 1) ls st (sN sh n (ab_up i q k x) r)) : ab_V M d mc ms tt Q kc ks pc ls (.int x :: .int (nI k) :: .ref q :: st) (sN sh n i r) := ab_iastN (σ := sN sh n i r) (len := len) hd ⟨hq, congrArg Prod.fst hk⟩ (congrArg Prod.snd hk) hi hb kk
theorem cn_zast {q k len : Nat} {x : Int32} (hd : decode M.2.1 pc = .ok (.bastore, 1)) (hq : q < n) (hk : sh q = (101, len)) (hi : k < len) (hb : len < 2147483648) (hx : x = 0 ∨ x = 1) (kk : ab_V M d mc ms tt Q kc ks (pc + 1) ls st (sN sh n (ab_up i q k x) r)) : ab_V M d mc ms tt Q kc ks pc ls (.int x :: .int (nI k) :: .ref q :: st) (sN sh n i r) := ab_zastN (σ := sN sh n i r) (len := len) hd ⟨hq, congrArg Prod.fst hk⟩ (congrArg Prod.snd hk) hi hb hx kk
theorem cn_aast {q k x kd ck len N : Nat} (hd : decode M.2.1 pc = .ok (.aastore, 1)) (hq : q < n) (hk : sh q = (kd, len)) (hkd : (kd = 102 ∧ ck = 6) ∨ (kd = 103 ∧ ck = 0)) (hi : k < len) (hb : len < 2147483648) (hx : x < n) (hxk : sh x = (ck, N)) (kk : ab_V M d mc ms tt Q kc ks (pc + 1) ls st (sN sh n i (ab_up r q k (some x)))) : ab_V M d mc ms tt Q kc ks pc ls (.ref x :: .int (nI k) :: .ref q :: st) (sN sh n i r) := by
  refine ab_aast (σ := sN sh n i r) (kd := kd) (ck := ck) hd ⟨hq, congrArg Prod.fst hk⟩ hkd ?_ ⟨hx, congrArg Prod.fst hxk⟩ ?_
  · show vp_in (nI k) (sh q).2
    rw [hk]
    exact vp_in_nI hi hb
  · rw [nI_clamp (show k < 2 ^ 31 by omega)]
    exact kk
theorem cn_alen {q kd len : Nat} (hd : decode M.2.1 pc = .ok (.arraylength, 1)) (hq : q < n) (hk : sh q = (kd, len)) (hkd : kd = 100 ∨ kd = 101) (k : ab_V M d mc ms tt Q kc ks (pc + 1) ls (.int (nI len) :: st) (sN sh n i r)) : ab_V M d mc ms tt Q kc ks pc ls (.ref q :: st) (sN sh n i r) := ab_alen (σ := sN sh n i r) hd ⟨hq, congrArg Prod.fst hk⟩ hkd (by
  show ab_V M d mc ms tt Q kc ks (pc + 1) ls (.int (nI (sh q).2) :: st) (sN sh n i r)
  rw [hk]
  exact k)
theorem cn_inv {N : ab_M} {idx d' mc' ms' q : Nat} {i' : Nat → Nat → Int32} {r' : Nat → Nat → Option Nat} (hd : decode M.2.1 pc = .ok (.invokespecial idx, 3)) (hl : Cond.methodLink M.1.cls idx N.1 ∈ gw) (hF : ab_FI N 0) (hst : (st.map fun v => v.category).sum ≤ 8) (hdd : d' + 1 ≤ d) (hmc : kc + mc' ≤ mc ∧ ks + ms' ≤ ms) (hM : ab_Met N d' mc' ms' tt [.ref q] (sN sh n i r) (cQ sh n' i' r')) (k : ab_V M d mc ms tt Q (kc + mc') (ks + ms') (pc + 3) ls st (sN sh n' i' r')) : ab_V M d mc ms tt Q kc ks pc ls (.ref q :: st) (sN sh n i r) := ab_invI (av := []) (σ := sN sh n i r) hd hl hF hst hdd hmc hM (fun v σ' h => by obtain ⟨rfl, rfl⟩ := h; exact k)
theorem cn_invN {N : ab_M} {idx d' mc' ms' q : Nat} {i' : Nat → Nat → Int32} {r' : Nat → Nat → Option Nat} {host : String} (hd : decode M.2.1 pc = .ok (.invokespecial idx, 3)) (hl : Cond.methodLinkNest M.1.cls idx N.1 host ∈ ab_nest) (hF : ab_FI N 0) (hst : (st.map fun v => v.category).sum ≤ 8) (hdd : d' + 1 ≤ d) (hmc : kc + mc' ≤ mc ∧ ks + ms' ≤ ms) (hM : ab_Met N d' mc' ms' tt [.ref q] (sN sh n i r) (cQ sh n' i' r')) (k : ab_V M d mc ms tt Q (kc + mc') (ks + ms') (pc + 3) ls st (sN sh n' i' r')) : ab_V M d mc ms tt Q kc ks pc ls (.ref q :: st) (sN sh n i r) := ab_invIN (av := []) (σ := sN sh n i r) hd hl hF hst hdd hmc hM (fun v σ' h => by obtain ⟨rfl, rfl⟩ := h; exact k)
theorem cn_at {kc' ks' : Nat} (h1 : kc = kc') (h2 : ks = ks') (hn : n = n') (k : ab_V M d mc ms tt Q kc' ks' pc ls st (sN sh n' i r)) : ab_V M d mc ms tt Q kc ks pc ls st (sN sh n i r) := by subst h1 h2 hn; exact k
end CNS
/-- -1 in the first k of place q -/
def fl1 (i : Nat → Nat → Int32) (q : Nat) : Nat → Nat → Nat → Int32
  | 0 => i
  | k + 1 => ab_up (fl1 i q k) q k (-1)
theorem Fr.fl {n q : Nat} {i : Nat → Nat → Int32} {r : Nat → Nat → Option Nat} (h : Fr n i r) (hq : q < n) : ∀ k, Fr n (fl1 i q k) r
  | 0 => h
  | k + 1 => (Fr.fl h hq k).ui hq
