/-! NEW CELLS, CALLS, ENDS -/
theorem ab_nest_is : ∀ w ∈ ab_nest, ∃ (a : String) (i : Nat) (x : MethodName) (h : String), w = .methodLinkNest a i x h := by
  intro w hw
  simp only [ab_nest, List.mem_cons, List.not_mem_nil, or_false] at hw
  rcases hw with rfl | rfl | rfl | rfl | rfl | rfl | rfl | rfl | rfl | rfl | rfl | rfl <;> exact ⟨_, _, _, _, rfl⟩
theorem ab_nestf_is : ∀ w ∈ ab_nestf, ∃ (a : String) (i : Nat) (b n d h : String), w = .fieldLinkNest a i b n d h := by
  intro w hw
  simp only [ab_nestf, List.mem_cons, List.not_mem_nil, or_false] at hw
  subst hw
  exact ⟨_, _, _, _, _, _, rfl⟩
theorem ab_K.warm {G : ab_G} {s U : State} (hW : s.WarmedH U.vm) (h : ab_K G s) : ab_K G U := by
  refine ⟨va_K.moved hW.alike h.1, va_AO.moved hW.alike h.2.1, va_AO.moved hW.alike h.2.2.1, fun w hw => ?_, fun w hw => ?_⟩
  · obtain ⟨a, i, x, hh, rfl⟩ := ab_nest_is w hw
    exact va_Nw.warmM hW (h.2.2.2.1 _ hw)
  · obtain ⟨a, i, b, n, d, hh, rfl⟩ := ab_nestf_is w hw
    exact va_Nw.warmF hW (h.2.2.2.2 _ hw)
theorem ab_K.same {G : ab_G} {s U : State} (hW : s.vm = U.vm) (h : ab_K G s) : ab_K G U := by
  have ha : s.vm.Alike U.vm := by rw [hW]; exact Vm.Alike.refl _
  refine ⟨va_K.moved ha h.1, va_AO.moved ha h.2.1, va_AO.moved ha h.2.2.1, fun w hw => ?_, fun w hw => ?_⟩
  · obtain ⟨a, i, x, hh, rfl⟩ := ab_nest_is w hw
    exact va_Nw.same rfl hW (h.2.2.2.1 _ hw)
  · obtain ⟨a, i, b, n, d, hh, rfl⟩ := ab_nestf_is w hw
    exact va_Nw.same rfl hW (h.2.2.2.2 _ hw)
theorem ab_Z.moved {G : ab_G} {A : Nat → Prop} {s U : State} {H : Heap} (ha : s.vm.Alike U.vm) (h : ab_Z G A s H) : ab_Z G A U H := ⟨va_Z.moved ha h.1, va_T.moved ha h.2⟩
theorem ab_Z.kept {G : ab_G} {A : Nat → Prop} {U : State} {H H1 : Heap} (h : ab_Z G A U H) (hq : ∀ a : Nat, a < H.size → ¬ A a → H1[a]? = H[a]?) : ab_Z G A U H1 := ⟨h.1.kept hq, h.2.kept hq⟩
theorem ab_Z.narrow {G : ab_G} {A B : Nat → Prop} {U : State} {H : Heap} (h : ab_Z G A U H) (hAB : ∀ q, B q → A q) : ab_Z G B U H := ⟨h.1.narrow hAB, h.2.narrow hAB⟩
section ABN
variable {M : ab_M} {d mc ms : Nat} {tt : Prop} {Q : Option Value → ab_S → Prop} {kc ks pc : Nat} {ls : List (Option Value)} {st : List Value} {σ : ab_S}
variable {p : Program} {l : Launch} {e : Env} {R : Room} {s : State} {m : MethodId} {args : Array Value} {below : List Frame} {meth : Method} {c : Code} {H H1 : Heap} {locs : List Loc} {lsA : Array Slot} {G : ab_G} {A : Nat → Prop} {Qx : State → Prop}
theorem ab_grow {kd len : Nat} (hP : va_P G.2.2.2 vwCl (ab_ws G σ) H) (hD : va_D A (ab_ws G σ)) (hS : va_S A s.heap H locs) (hA : ∀ q, s.heap.size ≤ q → A q) (hz : H.size = G.1 + σ.1) (hn : σ.1 < 1000000) (z1 : H1.size = H.size + 1) (o1 : ∀ q, q < H.size → H1[q]? = H[q]?) (hat : va_at G.2.2.2 vwCl (H.size, ab_cell G (ab_nw σ kd len) σ.1) H1) : va_P G.2.2.2 vwCl (ab_ws G (ab_nw σ kd len)) H1 ∧ va_D A (ab_ws G (ab_nw σ kd len)) ∧ va_S A s.heap H1 locs := by
  have ha : ab_a G σ.1 = H.size := by rw [ab_a, if_neg (Nat.ne_of_lt hn)]; exact hz.symm
  have hk : ∀ (k : Nat) (x : Nat × va_E), (ab_ws G σ)[k]? = some x → H1[x.1]? = H[x.1]? := fun k x hx => o1 x.1 ((hP k x hx).lt)
  rw [← ab_push (kd := kd) (len := len), ha]
  refine ⟨(hP.kept hk).app (fun k x hx => ?_), hD.push hP rfl (hA _ hS.1), ⟨Nat.le_trans hS.1 (by omega), fun x h1 h2 => (o1 x (Nat.lt_of_lt_of_le h1 hS.1)).trans (hS.2.1 x h1 h2), hS.2.2⟩⟩
  have hz : k < 1 := (List.getElem?_eq_some_iff.mp hx).1
  rw [show k = 0 by omega] at hx
  cases hx
  exact hat
theorem ab_dv : ∀ ci, ci < 12 → ∀ j, j < 49 → defaultValue (ab_ty ci j) = if ab_isR (ab_ty ci j) = true then .null else .int 0 := by decide +kernel
theorem ab_nf_le : ∀ ci, ci < 12 → ab_nf ci ≤ 49 := by decide +kernel
theorem ab_ci_lt {ci : Nat} {r : vw_C} (h : vwCl[ci]? = some r) : ci < 12 := (List.getElem?_eq_some_iff.mp h).1
theorem ab_new {idx ci : Nat} {C : String} {T : u_T} {N : Nat} (hd : decode M.2.1 pc = .ok (.new idx, 3)) (htt : tt) (hn : σ.1 < 1000000) (hl : Cond.classLink M.1.cls idx C ∈ gw) (hc : vwCl[ci]? = some (C, T, N)) (hm : kc + 1 ≤ mc ∧ ks + N ≤ ms)
    (k : ab_V M d mc ms tt Q (kc + 1) (ks + N) (pc + 3) ls (.ref σ.1 :: st) (ab_nw σ ci N)) : ab_V M d mc ms tt Q kc ks pc ls st σ := by
  intro p l e s m args below meth c H locs lsA G A hI hL hP hD hS ht
  have hKn := hI.2.2.2.2.2.2.2.2.2.1.1.1 ci _ hc
  obtain ⟨t1, t2⟩ := ht htt
  refine W.newcK hI.1 hI.2.1 hI.2.2.2.2.1 (hI.2.2.2.2.2.1 _ hl) (hI.2.2.2.2.2.1 _ (ab_cls hc).2.2.2.1) (hI.2.2.2.2.2.1 _ (ab_cls hc).2.2.2.2) rfl hd hm.1 hm.2 hKn.2.1 rfl fun H1 kC hkC e1 z1 o1 => ?_
  have hat : va_at G.2.2.2 vwCl (H.size, ab_cell G (ab_nw σ ci N) σ.1) H1 := by
    have ec : ab_cell G (ab_nw σ ci N) σ.1 = .inr (ci, (List.range (ab_nf ci)).map (ab_fv G (ab_nw σ ci N) ci σ.1)) := by
      simp [ab_cell, ab_nw, ab_lt_of hc]
    rw [ec]
    refine ⟨_, hc, (u_born (ab_ty ci) hI.2.2.2.2.2.1 (ab_cls hc).1 hKn hkC e1 (ab_cls hc).2.1).to (fun j hj => ?_)⟩
    have hj2 : j < ab_nf ci := by rw [ab_nf_of hc]; exact hj
    rw [ab_dv ci (ab_ci_lt hc) j (Nat.lt_of_lt_of_le hj2 (ab_nf_le ci (ab_ci_lt hc)))]
    simp [vp_V, hj2, ab_fv, ab_nw, va_rf]
  obtain ⟨hP1, hD1, hS1⟩ := ab_grow hP hD hS hI.2.2.2.2.2.2.2.2.1 t2 hn z1 o1 hat
  have ha : ab_a G σ.1 = H.size := by rw [ab_a, if_neg (Nat.ne_of_lt hn)]; exact t2.symm
  have k1 := k p l e s m args below meth c H1 locs lsA G A hI hL hP1 hD1 hS1 (fun _ => ⟨by omega, by have h3 : (ab_nw σ ci N).1 = σ.1 + 1 := rfl; omega⟩)
  rw [List.map_cons, show ab_c G (.ref σ.1) = .ref H.size from congrArg Value.ref ha] at k1
  exact k1
theorem ab_arr_new {kd len : Nat} (hk : 100 ≤ kd) (h2 : kd < 102) (cA : ClassId) : vp_cell cA (ab_arr G (ab_nw σ kd len) σ.1) = arrV cA len (fun _ => .int 0) := by
  have ec : ab_arr G (ab_nw σ kd len) σ.1 = (len, .inl (fun _ => 0)) := by
    simp [ab_arr, ab_nw, h2]
  rw [ec, vp_cell_i]
theorem ab_newa {kd : Nat} {atype : ArrayType} {ty : FieldType} {n : Int32} {len : Nat} (hd : decode M.2.1 pc = .ok (.newarray atype, 2)) (htt : tt) (hn : σ.1 < 1000000) (hty : (atype = .int ∧ kd = 100) ∨ (atype = .boolean ∧ kd = 101)) (hn0 : ¬ n < 0) (hN : n.toNatClampNeg = len) (hb : len ≤ 5000) (hm : kc + 1 ≤ mc ∧ ks + len ≤ ms)
    (k : ab_V M d mc ms tt Q (kc + 1) (ks + len) (pc + 2) ls (.ref σ.1 :: st) (ab_nw σ kd len)) : ab_V M d mc ms tt Q kc ks pc ls (.int n :: st) σ := by
  intro p l e s m args below meth c H locs lsA G A hI hL hP hD hS ht
  obtain ⟨t1, t2⟩ := ht htt
  have ha : ab_a G σ.1 = H.size := by rw [ab_a, if_neg (Nat.ne_of_lt hn)]; exact t2.symm
  rcases hty with ⟨rfl, rfl⟩ | ⟨rfl, rfl⟩
  · refine va_newaK (atype := .int) hI.1 hI.2.1 (hI.2.2.2.2.2.1 _ ac_int) rfl hd rfl hn0 hN (by show len * 4 ≤ _; omega) hm.1 hm.2 rfl fun H1 cA e1 z1 o1 hAr hNm => ?_
    have hcA : cA = G.2.2.1 100 := by
      have h1 : s.vm.findClass ("[" ++ FieldType.int.toString) = some (G.2.2.1 100) := (hI.2.2.2.2.2.2.2.2.2.1.1.2 0 _ rfl).2
      exact Option.some.inj (hNm.symm.trans h1)
    have hat : va_at G.2.2.2 vwCl (H.size, ab_cell G (ab_nw σ 100 len) σ.1) H1 := by
      have ec : ab_cell G (ab_nw σ 100 len) σ.1 = .inl (G.2.2.1 100, ab_arr G (ab_nw σ 100 len) σ.1) := by simp [ab_cell, ab_nw]
      rw [ec]
      show H1[H.size]? = some (vp_cell _ _)
      rw [ab_arr_new (by decide) (by decide), ← hcA]
      exact e1
    obtain ⟨hP1, hD1, hS1⟩ := ab_grow hP hD hS hI.2.2.2.2.2.2.2.2.1 t2 hn z1 o1 hat
    have k1 := k p l e s m args below meth c H1 locs lsA G A hI hL hP1 hD1 hS1 (fun _ => ⟨by omega, by have h3 : (ab_nw σ 100 len).1 = σ.1 + 1 := rfl; omega⟩)
    rw [List.map_cons, show ab_c G (.ref σ.1) = .ref H.size from congrArg Value.ref ha] at k1
    exact k1
  · refine va_newaK (atype := .boolean) hI.1 hI.2.1 (hI.2.2.2.2.2.1 _ ac_boolean) rfl hd rfl hn0 hN (by show len * 1 ≤ _; omega) hm.1 hm.2 rfl fun H1 cA e1 z1 o1 hAr hNm => ?_
    have hcA : cA = G.2.2.1 101 := by
      have h1 : s.vm.findClass ("[" ++ FieldType.boolean.toString) = some (G.2.2.1 101) := (hI.2.2.2.2.2.2.2.2.2.1.1.2 1 _ rfl).2
      exact Option.some.inj (hNm.symm.trans h1)
    have hat : va_at G.2.2.2 vwCl (H.size, ab_cell G (ab_nw σ 101 len) σ.1) H1 := by
      have ec : ab_cell G (ab_nw σ 101 len) σ.1 = .inl (G.2.2.1 101, ab_arr G (ab_nw σ 101 len) σ.1) := by simp [ab_cell, ab_nw]
      rw [ec]
      show H1[H.size]? = some (vp_cell _ _)
      rw [ab_arr_new (by decide) (by decide), ← hcA]
      exact e1
    obtain ⟨hP1, hD1, hS1⟩ := ab_grow hP hD hS hI.2.2.2.2.2.2.2.2.1 t2 hn z1 o1 hat
    have k1 := k p l e s m args below meth c H1 locs lsA G A hI hL hP1 hD1 hS1 (fun _ => ⟨by omega, by have h3 : (ab_nw σ 101 len).1 = σ.1 + 1 := rfl; omega⟩)
    rw [List.map_cons, show ab_c G (.ref σ.1) = .ref H.size from congrArg Value.ref ha] at k1
    exact k1
theorem ab_newq {idx kd : Nat} {C : String} {n : Int32} {len : Nat} (hd : decode M.2.1 pc = .ok (.anewarray idx, 3)) (htt : tt) (hn : σ.1 < 1000000) (hl : Cond.classLink M.1.cls idx C ∈ gw) (hty : (C = RX6 ∧ kd = 102) ∨ (C = RX0 ∧ kd = 103)) (hn0 : ¬ n < 0) (hN : n.toNatClampNeg = len) (hb : len ≤ 5000) (hm : kc + 1 ≤ mc ∧ ks + len ≤ ms)
    (k : ab_V M d mc ms tt Q (kc + 1) (ks + len) (pc + 3) ls (.ref σ.1 :: st) (ab_nw σ kd len)) : ab_V M d mc ms tt Q kc ks pc ls (.int n :: st) σ := by
  intro p l e s m args below meth c H locs lsA G A hI hL hP hD hS ht
  obtain ⟨t1, t2⟩ := ht htt
  subst hN
  have ha : ab_a G σ.1 = H.size := by rw [ab_a, if_neg (Nat.ne_of_lt hn)]; exact t2.symm
  have hov : va_AO C s := by rcases hty with ⟨rfl, rfl⟩ | ⟨rfl, rfl⟩; exact hI.2.2.2.2.2.2.2.2.2.1.2.1; exact hI.2.2.2.2.2.2.2.2.2.1.2.2.1
  have hkd : 102 ≤ kd := by rcases hty with ⟨rfl, rfl⟩ | ⟨rfl, rfl⟩ <;> decide
  refine W.anew hI.1 hI.2.1 hI.2.2.2.2.1 (hI.2.2.2.2.2.1 _ hl) (va_AO.use hov) rfl hd rfl hn0 (by omega) hm.1 hm.2 fun cA kA comp f1 f2 f3 f4 => ?_
  have hcA : cA = G.2.2.1 kd := by
    rcases hty with ⟨rfl, rfl⟩ | ⟨rfl, rfl⟩
    · obtain ⟨_, _, -, -, -, h1⟩ := (hI.2.2.2.2.2.2.2.2.2.1.1.2 2 _ rfl).2
      exact Option.some.inj (f1.symm.trans h1)
    · obtain ⟨_, _, -, -, -, h1⟩ := (hI.2.2.2.2.2.2.2.2.2.1.1.2 3 _ rfl).2
      exact Option.some.inj (f1.symm.trans h1)
  generalize hH1 : H.push ({ cls := cA, slots := Array.replicate n.toNatClampNeg .null, vm := .none } : Cell) = H1
  have z1 : H1.size = H.size + 1 := by rw [← hH1, Array.size_push]
  have e1 : H1[H.size]? = some (arrV cA n.toNatClampNeg (fun _ => .null)) := by rw [← hH1, Array.getElem?_push_size, ← arrV_new]
  have o1 : ∀ q : Nat, q < H.size → H1[q]? = H[q]? := fun q hq => by rw [← hH1, Array.getElem?_push, if_neg (Nat.ne_of_lt hq)]
  have hat : va_at G.2.2.2 vwCl (H.size, ab_cell G (ab_nw σ kd n.toNatClampNeg) σ.1) H1 := by
    have ec : ab_cell G (ab_nw σ kd n.toNatClampNeg) σ.1 = .inl (G.2.2.1 kd, n.toNatClampNeg, .inr (.inr (.inr (.inr (fun _ => none))))) := by
      have h1 : ¬ kd < 100 := by omega
      have h2 : ¬ kd < 102 := by omega
      simp [ab_cell, ab_arr, ab_nw, h1, h2]
    rw [ec]
    show H1[H.size]? = some (vp_cell _ _)
    rw [vp_cell_q, ← hcA]
    exact e1
  obtain ⟨hP1, hD1, hS1⟩ := ab_grow hP hD hS hI.2.2.2.2.2.2.2.2.1 t2 hn z1 o1 hat
  have k1 := k p l e s m args below meth c H1 locs lsA G A hI hL hP1 hD1 hS1 (fun _ => ⟨by omega, by have h3 : (ab_nw σ kd n.toNatClampNeg).1 = σ.1 + 1 := rfl; omega⟩)
  rw [List.map_cons, show ab_c G (.ref σ.1) = .ref H.size from congrArg Value.ref ha] at k1
  exact k1
/-- behind a call -/
theorem ab_call {mc' ms' : Nat} {Q' : Option Value → ab_S → Prop} {A1 : Nat → Prop} {a : Array Value} {st0 rest : List Value} (hr : va_Run p l e R s m args below meth c H locs kc ks mc' ms' (F0 m pc lsA st0) rest (ab_Q G tt mc' Q' A1 a) A1) (hS : va_S A s.heap H locs) (hA : ∀ q, A1 q → A q)
    (kk : ∀ (r : Option Value) (σ' : ab_S) (H1 : Heap) (locs1 : List Loc), Q' r σ' → va_P G.2.2.2 vwCl (ab_ws G σ') H1 → va_D A (ab_ws G σ') → va_S A s.heap H1 locs1 → (tt → H1.size = H.size + mc' ∧ H1.size = G.1 + σ'.1) → W p l e R s m args below meth c H1 locs1 (kc + mc') (ks + ms') Qx (F0 m (pc + 3) lsA ((r.map (ab_c G)).toList ++ rest))) : W p l e R s m args below meth c H locs kc ks Qx (F0 m pc lsA st0) := by
  intro T hT X
  obtain ⟨v, st₀, t, T', L, h0, X', hL, e1, e2, ⟨⟨r, σ', hv, hq, hp1, hd1, htt⟩, hz, hk⟩, stp⟩ := hr T hT X
  cases hv
  rw [h0] at hz hk htt
  obtain ⟨t2, a1, b1⟩ := kk r σ' T'.heap (locs ++ L) hq (by rw [e1]; exact hp1) (hd1.weaken (fun _ q _ h => hA q.1 h))
    ⟨Nat.le_trans hS.1 (by rw [e1]; exact hz), fun q h1 h2 => by rw [e1, hk q (Nat.lt_of_lt_of_le h1 hS.1) (fun z => h2 (hA q z))]; exact hS.2.1 q h1 h2, fun q hq => by
      rcases List.mem_append.mp hq with h | h
      · exact hS.2.2 q h
      · exact hA _ (hL q h)⟩ (fun h => by rw [e1]; exact htt h) T' rfl X'
  exact ⟨t2, stp t2 a1, b1⟩
def ab_F (N : ab_M) (np : Nat) : Prop := Cond.code N.1 N.2.1 N.2.2.1 N.2.2.2 ∈ gw ∧ Cond.initialized N.1.cls ∈ gw ∧ (N.1.cls ≠ "java/lang/invoke/MethodHandle" ∧ N.1.cls ≠ "java/lang/invoke/VarHandle" ∧ (parseMethodDescriptor N.1.desc).map (fun d => d.parameters.length) = some np) ∧ N.2.2.1 ≤ 17
def ab_FV (N : ab_M) (np ci : Nat) : Prop := ab_F N np ∧ Cond.instanceMethod N.1 ∈ gw ∧ Cond.selects N.1.cls N.1 N.1 ∈ gw ∧ ∃ (T : u_T) (k : Nat), vwCl[ci]? = some (N.1.cls, T, k)
def ab_FS (N : ab_M) (np : Nat) : Prop := ab_F N np ∧ Cond.static N.1 ∈ gw
def ab_FI (N : ab_M) (np : Nat) : Prop := ab_F N np ∧ N.1.name = "<init>" ∧ Cond.instanceMethod N.1 ∈ gw ∧ N.2.2.2 = none
theorem ab_gw_good : GoodIn gw gw := fun w hw => ⟨hw, good_of_word (List.mem_filter.mp hw).2⟩
theorem ab_gw_code {N : ab_M} {np : Nat} (h : ab_F N np) : GoodIn gw (Cond.code N.1 N.2.1 N.2.2.1 N.2.2.2 :: gw) := fun w hw => by
  rcases List.mem_cons.mp hw with rfl | hw
  · exact ab_gw_good _ h.1
  · exact ab_gw_good w hw
theorem ab_free {σ : ab_S} (hD : va_D A (ab_ws G σ)) (hS : va_S A s.heap H locs) (hA : ∀ q, s.heap.size ≤ q → A q) : ∀ q, va_A (ab_ws G σ) H.size q → A q := by
  intro q h
  rcases h with ⟨k, e, h⟩ | h
  · exact hD.2 k (q, e) h
  · exact hA q (Nat.le_trans hS.1 h)
def ab_Pc (G : ab_G) (tt : Prop) (av : List Value) (σ : ab_S) (sz : Nat) : Array Value → State → Prop := va_Pc (av.map (ab_c G)) (fun U => U.heap.size = sz ∧ va_P G.2.2.2 vwCl (ab_ws G σ) U.heap ∧ va_D (fun _ => True) (ab_ws G σ) ∧ ab_K G U ∧ ab_Z G (va_A (ab_ws G σ) sz) U U.heap ∧ (tt → sz = G.1 + σ.1))
theorem ab_blind {av : List Value} {σ : ab_S} {sz : Nat} : FrameBlind (ab_Pc G tt av σ sz) := by
  intro a U g mk q
  obtain ⟨q0, q1, qP, qD, qK, qZ, qt⟩ := q
  exact ⟨q0, q1, qP, qD, ab_K.same (s := U) (U := U.calling g mk a) rfl qK, ab_Z.moved (U := U.calling g mk a) (Vm.Alike.refl U.vm) qZ, qt⟩
theorem ab_pre {av : List Value} (hK : ab_K G s) (hZ : ab_Z G A s s.heap) (hP : va_P G.2.2.2 vwCl (ab_ws G σ) H) (hD : va_D A (ab_ws G σ)) (hS : va_S A s.heap H locs) (hA : ∀ q, s.heap.size ≤ q → A q) (ht : tt → H.size = G.1 + σ.1) : ∀ U : State, U.heap = H → s.WarmedH U.vm → ab_Pc G tt av σ H.size (av.map (ab_c G)).toArray U := by
  intro U hU hW
  refine ⟨rfl, by rw [hU], by rw [hU]; exact hP, hD.weaken (fun _ _ _ _ => trivial), ab_K.warm hW hK, ?_, ht⟩
  rw [hU]
  exact ((hZ.kept hS.2.1).narrow (ab_free hD hS hA)).moved hW.alike
theorem ab_rv (G : ab_G) (r : Option Value) (st : List Value) : (r.map (ab_c G)).toList ++ st.map (ab_c G) = (r.toList ++ st).map (ab_c G) := by
  cases r <;> rfl
theorem ab_sum (G : ab_G) (st : List Value) : ((st.map (ab_c G)).map fun v => v.category).sum = (st.map fun v => v.category).sum := by
  congr 1
  rw [List.map_map]
  apply List.map_congr_left
  intro v _
  exact ab_c_cat G v
end ABN
section ABC
variable {M : ab_M} {d mc ms : Nat} {tt : Prop} {Q : Option Value → ab_S → Prop} {kc ks pc : Nat} {ls : List (Option Value)} {st : List Value} {σ : ab_S}
variable {N : ab_M} {av : List Value} {d' mc' ms' idx : Nat} {Q' : Option Value → ab_S → Prop}
theorem ab_invV {q ci : Nat} (hd : decode M.2.1 pc = .ok (.invokevirtual idx, 3)) (hl : Cond.methodLink M.1.cls idx N.1 ∈ gw) (hF : ab_FV N av.length ci) (hk : ab_is σ q ci) (hst : (st.map fun v => v.category).sum ≤ 8) (hdd : d' + 1 ≤ d) (hmc : kc + mc' ≤ mc ∧ ks + ms' ≤ ms) (hM : ab_Met N d' mc' ms' tt (.ref q :: av) σ Q') (k : ∀ (r : Option Value) (σ' : ab_S), Q' r σ' → ab_V M d mc ms tt Q (kc + mc') (ks + ms') (pc + 3) ls (r.toList ++ st) σ') : ab_V M d mc ms tt Q kc ks (pc) ls (av.reverse ++ .ref q :: st) σ := by
  intro p l e s m args below meth c H locs lsA G A hI hL hP hD hS ht
  have hts := hI.2.2.2.2.2.1
  have hfr := ab_free hD hS hI.2.2.2.2.2.2.2.2.1
  have hR : (ab_rm d' mc' ms').frames + 1 ≤ (ab_rm d mc ms).frames ∧ 8 + (N.2.2.1 + 11) + (ab_rm d' mc' ms').locals ≤ (ab_rm d mc ms).locals := by
    have h1 := hF.1.2.2.2
    refine ⟨hdd, ?_⟩
    show 8 + (N.2.2.1 + 11) + (36 * d' + 20) ≤ 36 * d + 20
    omega
  have hMm := hM l G H.size
  obtain ⟨T, kN, hci⟩ := hF.2.2.2
  have hrun := va_runV (As := av.map (ab_c G)) (rest := st.map (ab_c G)) (b := ab_a G q) (C := N.1.cls) (locs := locs) (below := below) (e := e) (meth := meth) (cells := kc) (slots := ks) (g := F0 m pc lsA ((av.reverse ++ .ref q :: st).map (ab_c G))) ⟨hI.1, hI.2.1, hI.2.2.2.1, hI.2.2.2.2.1, hts⟩ hMm ⟨callB_of av.length hts (ab_gw_code hF.1) rfl rfl rfl (hts _ hF.1.2.1) (hts _ hl) hF.1.2.2.1 hR, hts _ hF.2.1, hts _ hF.2.2.1⟩ ⟨ab_blind, va_recv hI.2.2.2.2.2.2.2.2.2.1.1 hP hci (ab_ws_obj hk (ab_lt_of hci)), ab_pre (av := .ref q :: av) hI.2.2.2.2.2.2.2.2.2.1 hI.2.2.2.2.2.2.2.2.2.2 hP hD hS hI.2.2.2.2.2.2.2.2.1 (fun h => (ht h).2)⟩ rfl (by simp) hL.1 (by simp [ab_c]) (lv_room (by rw [ab_sum]; exact hst)) hd hmc
  refine ab_call (st0 := (av.reverse ++ .ref q :: st).map (ab_c G)) (rest := st.map (ab_c G)) hrun hS hfr (fun r σ' H1 locs1 hq hP1 hD1 hS1 ht1 => ?_)
  have k1 := k r σ' hq p l e s m args below meth c H1 locs1 lsA G A hI hL hP1 hD1 hS1 (fun h => by have h1 := ht h; have h2 := ht1 h; omega)
  rw [ab_rv]
  exact k1
theorem ab_invS  (hd : decode M.2.1 pc = .ok (.invokestatic idx, 3)) (hl : Cond.methodLink M.1.cls idx N.1 ∈ gw) (hF : ab_FS N av.length) (hst : (st.map fun v => v.category).sum ≤ 8) (hdd : d' + 1 ≤ d) (hmc : kc + mc' ≤ mc ∧ ks + ms' ≤ ms) (hM : ab_Met N d' mc' ms' tt av σ Q') (k : ∀ (r : Option Value) (σ' : ab_S), Q' r σ' → ab_V M d mc ms tt Q (kc + mc') (ks + ms') (pc + 3) ls (r.toList ++ st) σ') : ab_V M d mc ms tt Q kc ks (pc) ls (av.reverse ++ st) σ := by
  intro p l e s m args below meth c H locs lsA G A hI hL hP hD hS ht
  have hts := hI.2.2.2.2.2.1
  have hfr := ab_free hD hS hI.2.2.2.2.2.2.2.2.1
  have hR : (ab_rm d' mc' ms').frames + 1 ≤ (ab_rm d mc ms).frames ∧ 8 + (N.2.2.1 + 11) + (ab_rm d' mc' ms').locals ≤ (ab_rm d mc ms).locals := by
    have h1 := hF.1.2.2.2
    refine ⟨hdd, ?_⟩
    show 8 + (N.2.2.1 + 11) + (36 * d' + 20) ≤ 36 * d + 20
    omega
  have hMm := hM l G H.size
  have hrun := va_runS (As := av.map (ab_c G)) (rest := st.map (ab_c G)) (locs := locs) (below := below) (e := e) (meth := meth) (cells := kc) (slots := ks) (g := F0 m pc lsA ((av.reverse ++ st).map (ab_c G))) ⟨hI.1, hI.2.1, hI.2.2.2.1, hI.2.2.2.2.1, hts⟩ hMm ⟨callB_of av.length hts (ab_gw_code hF.1) rfl rfl rfl (hts _ hF.1.2.1) (hts _ hl) hF.1.2.2.1 hR, hts _ hF.2⟩ ⟨ab_blind, ab_pre (av := av) hI.2.2.2.2.2.2.2.2.2.1 hI.2.2.2.2.2.2.2.2.2.2 hP hD hS hI.2.2.2.2.2.2.2.2.1 (fun h => (ht h).2)⟩ rfl (by simp) hL.1 (by simp) (lv_room (by rw [ab_sum]; exact hst)) hd hmc
  refine ab_call (st0 := (av.reverse ++ st).map (ab_c G)) (rest := st.map (ab_c G)) hrun hS hfr (fun r σ' H1 locs1 hq hP1 hD1 hS1 ht1 => ?_)
  have k1 := k r σ' hq p l e s m args below meth c H1 locs1 lsA G A hI hL hP1 hD1 hS1 (fun h => by have h1 := ht h; have h2 := ht1 h; omega)
  rw [ab_rv]
  exact k1
theorem ab_invI {q : Nat} (hd : decode M.2.1 pc = .ok (.invokespecial idx, 3)) (hl : Cond.methodLink M.1.cls idx N.1 ∈ gw) (hF : ab_FI N av.length) (hst : (st.map fun v => v.category).sum ≤ 8) (hdd : d' + 1 ≤ d) (hmc : kc + mc' ≤ mc ∧ ks + ms' ≤ ms) (hM : ab_Met N d' mc' ms' tt (.ref q :: av) σ Q') (k : ∀ (r : Option Value) (σ' : ab_S), Q' r σ' → ab_V M d mc ms tt Q (kc + mc') (ks + ms') (pc + 3) ls (r.toList ++ st) σ') : ab_V M d mc ms tt Q kc ks (pc) ls (av.reverse ++ .ref q :: st) σ := by
  intro p l e s m args below meth c H locs lsA G A hI hL hP hD hS ht
  have hts := hI.2.2.2.2.2.1
  have hfr := ab_free hD hS hI.2.2.2.2.2.2.2.2.1
  have hR : (ab_rm d' mc' ms').frames + 1 ≤ (ab_rm d mc ms).frames ∧ 8 + (N.2.2.1 + 11) + (ab_rm d' mc' ms').locals ≤ (ab_rm d mc ms).locals := by
    have h1 := hF.1.2.2.2
    refine ⟨hdd, ?_⟩
    show 8 + (N.2.2.1 + 11) + (36 * d' + 20) ≤ 36 * d + 20
    omega
  have hMm := hM l G H.size
  have hcb := callB_of av.length hts (ab_gw_code hF.1) rfl rfl rfl (hts _ hF.1.2.1) (hts _ hl) hF.1.2.2.1 hR
  rw [hF.2.2.2] at hcb hMm
  have hrun := va_runI (n := av.length) (As := av.map (ab_c G)) (rest := st.map (ab_c G)) (b := ab_a G q) (locs := locs) (below := below) (e := e) (meth := meth) (cells := kc) (slots := ks) (g := F0 m pc lsA ((av.reverse ++ .ref q :: st).map (ab_c G))) ⟨hI.1, hI.2.1, hI.2.2.2.1, hI.2.2.2.2.1, hts⟩ hMm ⟨hcb, hF.2.1, hts _ hF.2.2.1⟩ ⟨ab_blind, ab_pre (av := .ref q :: av) hI.2.2.2.2.2.2.2.2.2.1 hI.2.2.2.2.2.2.2.2.2.2 hP hD hS hI.2.2.2.2.2.2.2.2.1 (fun h => (ht h).2)⟩ rfl (by simp) hL.1 (by simp [ab_c]) (lv_room (by rw [ab_sum]; exact hst)) hd hmc
  refine ab_call (st0 := (av.reverse ++ .ref q :: st).map (ab_c G)) (rest := st.map (ab_c G)) hrun hS hfr (fun r σ' H1 locs1 hq hP1 hD1 hS1 ht1 => ?_)
  have k1 := k r σ' hq p l e s m args below meth c H1 locs1 lsA G A hI hL hP1 hD1 hS1 (fun h => by have h1 := ht h; have h2 := ht1 h; omega)
  rw [ab_rv]
  exact k1
theorem ab_invSN {host : String} (hd : decode M.2.1 pc = .ok (.invokestatic idx, 3)) (hl : Cond.methodLinkNest M.1.cls idx N.1 host ∈ ab_nest) (hF : ab_FS N av.length) (hst : (st.map fun v => v.category).sum ≤ 8) (hdd : d' + 1 ≤ d) (hmc : kc + mc' ≤ mc ∧ ks + ms' ≤ ms) (hM : ab_Met N d' mc' ms' tt av σ Q') (k : ∀ (r : Option Value) (σ' : ab_S), Q' r σ' → ab_V M d mc ms tt Q (kc + mc') (ks + ms') (pc + 3) ls (r.toList ++ st) σ') : ab_V M d mc ms tt Q kc ks (pc) ls (av.reverse ++ st) σ := by
  intro p l e s m args below meth c H locs lsA G A hI hL hP hD hS ht
  have hts := hI.2.2.2.2.2.1
  have hfr := ab_free hD hS hI.2.2.2.2.2.2.2.2.1
  have hR : (ab_rm d' mc' ms').frames + 1 ≤ (ab_rm d mc ms).frames ∧ 8 + (N.2.2.1 + 11) + (ab_rm d' mc' ms').locals ≤ (ab_rm d mc ms).locals := by
    have h1 := hF.1.2.2.2
    refine ⟨hdd, ?_⟩
    show 8 + (N.2.2.1 + 11) + (36 * d' + 20) ≤ 36 * d + 20
    omega
  have hMm := hM l G H.size
  have hrun := va_runSN (As := av.map (ab_c G)) (rest := st.map (ab_c G)) (locs := locs) (below := below) (e := e) (meth := meth) (cells := kc) (slots := ks) (g := F0 m pc lsA ((av.reverse ++ st).map (ab_c G))) ⟨hI.1, hI.2.1, hI.2.2.2.1, hI.2.2.2.2.1, hts⟩ hMm ⟨va_cnB av.length hts (ab_gw_code hF.1) rfl rfl rfl (hI.2.2.2.2.2.2.2.2.2.1.2.2.2.1 _ hl) (hts _ hF.1.2.1) hF.1.2.2.1 hR, hts _ hF.2, trivial⟩ ⟨ab_blind, ab_pre (av := av) hI.2.2.2.2.2.2.2.2.2.1 hI.2.2.2.2.2.2.2.2.2.2 hP hD hS hI.2.2.2.2.2.2.2.2.1 (fun h => (ht h).2)⟩ rfl (by simp) hL.1 (by simp) (lv_room (by rw [ab_sum]; exact hst)) hd hmc
  refine ab_call (st0 := (av.reverse ++ st).map (ab_c G)) (rest := st.map (ab_c G)) hrun hS hfr (fun r σ' H1 locs1 hq hP1 hD1 hS1 ht1 => ?_)
  have k1 := k r σ' hq p l e s m args below meth c H1 locs1 lsA G A hI hL hP1 hD1 hS1 (fun h => by have h1 := ht h; have h2 := ht1 h; omega)
  rw [ab_rv]
  exact k1
theorem ab_invIN {q : Nat} {host : String} (hd : decode M.2.1 pc = .ok (.invokespecial idx, 3)) (hl : Cond.methodLinkNest M.1.cls idx N.1 host ∈ ab_nest) (hF : ab_FI N av.length) (hst : (st.map fun v => v.category).sum ≤ 8) (hdd : d' + 1 ≤ d) (hmc : kc + mc' ≤ mc ∧ ks + ms' ≤ ms) (hM : ab_Met N d' mc' ms' tt (.ref q :: av) σ Q') (k : ∀ (r : Option Value) (σ' : ab_S), Q' r σ' → ab_V M d mc ms tt Q (kc + mc') (ks + ms') (pc + 3) ls (r.toList ++ st) σ') : ab_V M d mc ms tt Q kc ks (pc) ls (av.reverse ++ .ref q :: st) σ := by
  intro p l e s m args below meth c H locs lsA G A hI hL hP hD hS ht
  have hts := hI.2.2.2.2.2.1
  have hfr := ab_free hD hS hI.2.2.2.2.2.2.2.2.1
  have hR : (ab_rm d' mc' ms').frames + 1 ≤ (ab_rm d mc ms).frames ∧ 8 + (N.2.2.1 + 11) + (ab_rm d' mc' ms').locals ≤ (ab_rm d mc ms).locals := by
    have h1 := hF.1.2.2.2
    refine ⟨hdd, ?_⟩
    show 8 + (N.2.2.1 + 11) + (36 * d' + 20) ≤ 36 * d + 20
    omega
  have hMm := hM l G H.size
  have hcb := va_cnB av.length hts (ab_gw_code hF.1) rfl rfl rfl (hI.2.2.2.2.2.2.2.2.2.1.2.2.2.1 _ hl) (hts _ hF.1.2.1) hF.1.2.2.1 hR
  rw [hF.2.2.2] at hcb hMm
  have hrun := va_runIN (n := av.length) (As := av.map (ab_c G)) (rest := st.map (ab_c G)) (b := ab_a G q) (locs := locs) (below := below) (e := e) (meth := meth) (cells := kc) (slots := ks) (g := F0 m pc lsA ((av.reverse ++ .ref q :: st).map (ab_c G))) ⟨hI.1, hI.2.1, hI.2.2.2.1, hI.2.2.2.2.1, hts⟩ hMm ⟨hcb, hF.2.1, hts _ hF.2.2.1⟩ ⟨ab_blind, ab_pre (av := .ref q :: av) hI.2.2.2.2.2.2.2.2.2.1 hI.2.2.2.2.2.2.2.2.2.2 hP hD hS hI.2.2.2.2.2.2.2.2.1 (fun h => (ht h).2)⟩ rfl (by simp) hL.1 (by simp [ab_c]) (lv_room (by rw [ab_sum]; exact hst)) hd hmc
  refine ab_call (st0 := (av.reverse ++ .ref q :: st).map (ab_c G)) (rest := st.map (ab_c G)) hrun hS hfr (fun r σ' H1 locs1 hq hP1 hD1 hS1 ht1 => ?_)
  have k1 := k r σ' hq p l e s m args below meth c H1 locs1 lsA G A hI hL hP1 hD1 hS1 (fun h => by have h1 := ht h; have h2 := ht1 h; omega)
  rw [ab_rv]
  exact k1
theorem ab_obj {q : Nat} (hd : decode M.2.1 pc = .ok (.invokespecial idx, 3)) (hl : Cond.methodLink M.1.cls idx objectInit ∈ gw) (hst : (st.map fun v => v.category).sum ≤ 8) (hdd : 1 ≤ d) (k : ab_V M d mc ms tt Q kc ks (pc + 3) ls st σ) : ab_V M d mc ms tt Q kc ks pc ls (.ref q :: st) σ := by
  intro p l e s m args below meth c H locs lsA G A hI hL hP hD hS ht
  have hts := hI.2.2.2.2.2.1
  refine W.objInit (a := ab_a G q) (rest := st.map (ab_c G)) hI.1 hI.2.1 hI.2.2.2.2.1 (hts _ hl) (hts _ im_obj) (hts _ cd_obj) rfl (hL.1.trans hI.2.2.2.1.symm) rfl hd hdd ?_ (k p l e s m args below meth c H locs lsA G A hI hL hP hD hS ht)
  have h1 : 2 * (F0 m pc lsA ((Value.ref q :: st).map (ab_c G))).monitorRoom + ((st.map (ab_c G)).map fun v => v.category).sum ≤ 8 := lv_room (by rw [ab_sum]; exact hst)
  show _ ≤ 36 * d + 20
  omega
theorem ab_ireturn {v : Int32} {ty : FieldType} (hd : decode M.2.1 pc = .ok (.ireturn, 1)) (hr : M.2.2.2 = some ty) (hn : narrow ty (.int v) = .int v) (hk : kc ≤ mc ∧ ks ≤ ms) (htk : tt → kc = mc) (hq : Q (some (.int v)) σ) : ab_V M d mc ms tt Q kc ks pc ls [.int v] σ := by
  intro p l e s m args below meth c H locs lsA G A hI hL hP hD hS ht
  have hlocks := hI.2.2.2.2.2.2.1
  refine W.widen hk.1 hk.2 ?_
  exact W.zret hI.1 hI.2.1 (hI.2.2.1.trans hr) hn (fun t h1 _ => ⟨⟨some (.int v), σ, rfl, hq, by rw [h1]; exact hP, hD, fun h => by have h2 := ht h; have h3 := htk h; rw [h1]; omega⟩, hS.F h1⟩) hS.2.2 hd hlocks
theorem ab_return (hd : decode M.2.1 pc = .ok (.return_, 1)) (hr : M.2.2.2 = none) (hk : kc ≤ mc ∧ ks ≤ ms) (htk : tt → kc = mc) (hq : Q none σ) : ab_V M d mc ms tt Q kc ks pc ls [] σ := by
  intro p l e s m args below meth c H locs lsA G A hI hL hP hD hS ht
  have hlocks := hI.2.2.2.2.2.2.1
  refine W.widen hk.1 hk.2 ?_
  exact W.vret hI.1 hI.2.1 (hI.2.2.1.trans hr) (fun t h1 _ => ⟨⟨none, σ, rfl, hq, by rw [h1]; exact hP, hD, fun h => by have h2 := ht h; have h3 := htk h; rw [h1]; omega⟩, hS.F h1⟩) hS.2.2 hd hlocks
theorem ab_areturn {v : Value} {C : String} (hd : decode M.2.1 pc = .ok (.areturn, 1)) (hr : M.2.2.2 = some (.object C)) (hv : v = .null ∨ ∃ x, v = .ref x) (hk : kc ≤ mc ∧ ks ≤ ms) (htk : tt → kc = mc) (hq : Q (some v) σ) : ab_V M d mc ms tt Q kc ks pc ls [v] σ := by
  intro p l e s m args below meth c H locs lsA G A hI hL hP hD hS ht
  have hlocks := hI.2.2.2.2.2.2.1
  refine W.widen hk.1 hk.2 ?_
  exact W.aret (v := ab_c G v) hI.1 hI.2.1 (hI.2.2.1.trans hr) (Or.inl ⟨C, rfl⟩) (by rcases hv with rfl | ⟨x, rfl⟩; exact Or.inl rfl; exact Or.inr ⟨_, rfl⟩) (fun t h1 _ => ⟨⟨some v, σ, rfl, hq, by rw [h1]; exact hP, hD, fun h => by have h2 := ht h; have h3 := htk h; rw [h1]; omega⟩, hS.F h1⟩) hS.2.2 hd hlocks
end ABC
