/-! calls from frames of any kind (the law's, its helpers') into contracts over stores -/
def wI (cc : ByteArray) (nL : Nat) (own : String) (G : ab_G) (A : Nat → Prop) (p : Program) (s : State) (m : MethodId) (args : Array Value) (c : Code) : Prop :=
  p.tables.exec = Jvm.exec ∧ c.code = cc ∧ c.maxLocals = nL ∧ s.vm.findClass own = some m.cls ∧ (∀ w ∈ gw, w.before args s = true) ∧ (∀ q, s.heap.size ≤ q → A q) ∧ ab_K G s ∧ ab_Z G A s s.heap
def wR (R : Room) (N : ab_M) (d' : Nat) : Prop := d' + 1 ≤ R.frames ∧ 8 + (N.2.2.1 + 11) + (36 * d' + 20) ≤ R.locals
section WLC
variable {p : Program} {l : Launch} {e : Env} {R : Room} {s : State} {m : MethodId} {args : Array Value} {below : List Frame} {meth : Method} {c : Code} {H : Heap} {locs : List Loc} {kc ks : Nat} {lsA : Array Slot} {G : ab_G} {A : Nat → Prop} {Qx : State → Prop}
variable {cc : ByteArray} {nL pc idx d' mc' ms' : Nat} {own : String} {N : ab_M} {av rest : List Value} {σ : ab_S} {tt : Prop} {Q' : Option Value → ab_S → Prop}
theorem wl_call {A1 : Nat → Prop} {a : Array Value} {st0 : List Value} (hr : va_Run p l e R s m args below meth c H locs kc ks mc' ms' (F0 m pc lsA st0) rest (ab_Q G tt mc' Q' A1 a) A1) (hS : va_S A s.heap H locs) (hA : ∀ q, A1 q → A q)
    (kk : ∀ (r : Option Value) (σ' : ab_S) (H1 : Heap) (locs1 : List Loc), Q' r σ' → va_P G.2.2.2 vwCl (ab_ws G σ') H1 → va_S A s.heap H1 locs1 → (tt → H1.size = H.size + mc' ∧ H1.size = G.1 + σ'.1) → H.size ≤ H1.size → (∀ q : Nat, q < H.size → ¬ A1 q → H1[q]? = H[q]?) → W p l e R s m args below meth c H1 locs1 (kc + mc') (ks + ms') Qx (F0 m (pc + 3) lsA ((r.map (ab_c G)).toList ++ rest))) : W p l e R s m args below meth c H locs kc ks Qx (F0 m pc lsA st0) := by
  intro T hT X
  obtain ⟨v, st₀, t, T', L, h0, X', hL, e1, e2, ⟨⟨r, σ', hv, hq, hp1, hd1, htt⟩, hz, hk⟩, stp⟩ := hr T hT X
  cases hv
  rw [h0] at hz hk htt
  obtain ⟨t2, a1, b1⟩ := kk r σ' T'.heap (locs ++ L) hq (by rw [e1]; exact hp1)
    ⟨Nat.le_trans hS.1 (by rw [e1]; exact hz), fun q h1 h2 => by rw [e1, hk q (Nat.lt_of_lt_of_le h1 hS.1) (fun z => h2 (hA q z))]; exact hS.2.1 q h1 h2, fun q hq => by
      rcases List.mem_append.mp hq with h | h
      · exact hS.2.2 q h
      · exact hA _ (hL q h)⟩ (fun h => by rw [e1]; exact htt h) (by rw [e1]; exact hz) (fun q h1 h2 => by rw [e1]; exact hk q h1 h2) T' rfl X'
  exact ⟨t2, stp t2 a1, b1⟩
theorem wl_V {q ci : Nat} (hI : wI cc nL own G A p s m args c) (hsz : lsA.size = nL) (hd : decode cc pc = .ok (.invokevirtual idx, 3)) (hl : Cond.methodLink own idx N.1 ∈ gw) (hF : ab_FV N av.length ci) (hk : ab_is σ q ci) (hst : (rest.map fun v => v.category).sum ≤ 8) (hR : wR R N d') (hmc : kc + mc' ≤ R.cells ∧ ks + ms' ≤ R.slots) (hP : va_P G.2.2.2 vwCl (ab_ws G σ) H) (hD : va_D A (ab_ws G σ)) (hS : va_S A s.heap H locs) (ht : tt → H.size = G.1 + σ.1) (hM : ab_Met N d' mc' ms' tt (.ref q :: av) σ Q')
    (kk : ∀ (r : Option Value) (σ' : ab_S) (H1 : Heap) (locs1 : List Loc), Q' r σ' → va_P G.2.2.2 vwCl (ab_ws G σ') H1 → va_S A s.heap H1 locs1 → (tt → H1.size = H.size + mc' ∧ H1.size = G.1 + σ'.1) → H.size ≤ H1.size → (∀ q : Nat, q < H.size → ¬ va_A (ab_ws G σ) H.size q → H1[q]? = H[q]?) → W p l e R s m args below meth c H1 locs1 (kc + mc') (ks + ms') Qx (F0 m (pc + 3) lsA ((r.map (ab_c G)).toList ++ rest))) : W p l e R s m args below meth c H locs kc ks Qx (F0 m pc lsA ((av.map (ab_c G)).reverse ++ .ref (ab_a G q) :: rest)) := by
  obtain ⟨hx, hb, hml, hown, hts, hA, hK, hZ⟩ := hI
  have hfr := ab_free hD hS hA
  have hMm := hM l G H.size
  obtain ⟨T, kN, hci⟩ := hF.2.2.2
  have hrun := va_runV (As := av.map (ab_c G)) (rest := rest) (b := ab_a G q) (C := N.1.cls) (locs := locs) (below := below) (e := e) (meth := meth) (cells := kc) (slots := ks) (g := F0 m pc lsA ((av.map (ab_c G)).reverse ++ .ref (ab_a G q) :: rest)) ⟨hx, hb, hml, hown, hts⟩ hMm ⟨callB_of av.length hts (ab_gw_code hF.1) rfl rfl rfl (hts _ hF.1.2.1) (hts _ hl) hF.1.2.2.1 hR, hts _ hF.2.1, hts _ hF.2.2.1⟩ ⟨ab_blind, va_recv hK.1 hP hci (ab_ws_obj hk (ab_lt_of hci)), ab_pre (av := .ref q :: av) hK hZ hP hD hS hA ht⟩ rfl (by simp) hsz (by simp) (lv_room hst) hd hmc
  exact wl_call hrun hS hfr kk
theorem wl_S (hI : wI cc nL own G A p s m args c) (hsz : lsA.size = nL) (hd : decode cc pc = .ok (.invokestatic idx, 3)) (hl : Cond.methodLink own idx N.1 ∈ gw) (hF : ab_FS N av.length) (hst : (rest.map fun v => v.category).sum ≤ 8) (hR : wR R N d') (hmc : kc + mc' ≤ R.cells ∧ ks + ms' ≤ R.slots) (hP : va_P G.2.2.2 vwCl (ab_ws G σ) H) (hD : va_D A (ab_ws G σ)) (hS : va_S A s.heap H locs) (ht : tt → H.size = G.1 + σ.1) (hM : ab_Met N d' mc' ms' tt av σ Q')
    (kk : ∀ (r : Option Value) (σ' : ab_S) (H1 : Heap) (locs1 : List Loc), Q' r σ' → va_P G.2.2.2 vwCl (ab_ws G σ') H1 → va_S A s.heap H1 locs1 → (tt → H1.size = H.size + mc' ∧ H1.size = G.1 + σ'.1) → H.size ≤ H1.size → (∀ q : Nat, q < H.size → ¬ va_A (ab_ws G σ) H.size q → H1[q]? = H[q]?) → W p l e R s m args below meth c H1 locs1 (kc + mc') (ks + ms') Qx (F0 m (pc + 3) lsA ((r.map (ab_c G)).toList ++ rest))) : W p l e R s m args below meth c H locs kc ks Qx (F0 m pc lsA ((av.map (ab_c G)).reverse ++ rest)) := by
  obtain ⟨hx, hb, hml, hown, hts, hA, hK, hZ⟩ := hI
  have hfr := ab_free hD hS hA
  have hMm := hM l G H.size
  have hrun := va_runS (As := av.map (ab_c G)) (rest := rest) (locs := locs) (below := below) (e := e) (meth := meth) (cells := kc) (slots := ks) (g := F0 m pc lsA ((av.map (ab_c G)).reverse ++ rest)) ⟨hx, hb, hml, hown, hts⟩ hMm ⟨callB_of av.length hts (ab_gw_code hF.1) rfl rfl rfl (hts _ hF.1.2.1) (hts _ hl) hF.1.2.2.1 hR, hts _ hF.2⟩ ⟨ab_blind, ab_pre (av := av) hK hZ hP hD hS hA ht⟩ rfl (by simp) hsz (by simp) (lv_room hst) hd hmc
  exact wl_call hrun hS hfr kk
theorem wl_I {q : Nat} (hI : wI cc nL own G A p s m args c) (hsz : lsA.size = nL) (hd : decode cc pc = .ok (.invokespecial idx, 3)) (hl : Cond.methodLink own idx N.1 ∈ gw) (hF : ab_FI N av.length) (hst : (rest.map fun v => v.category).sum ≤ 8) (hR : wR R N d') (hmc : kc + mc' ≤ R.cells ∧ ks + ms' ≤ R.slots) (hP : va_P G.2.2.2 vwCl (ab_ws G σ) H) (hD : va_D A (ab_ws G σ)) (hS : va_S A s.heap H locs) (ht : tt → H.size = G.1 + σ.1) (hM : ab_Met N d' mc' ms' tt (.ref q :: av) σ Q')
    (kk : ∀ (r : Option Value) (σ' : ab_S) (H1 : Heap) (locs1 : List Loc), Q' r σ' → va_P G.2.2.2 vwCl (ab_ws G σ') H1 → va_S A s.heap H1 locs1 → (tt → H1.size = H.size + mc' ∧ H1.size = G.1 + σ'.1) → H.size ≤ H1.size → (∀ q : Nat, q < H.size → ¬ va_A (ab_ws G σ) H.size q → H1[q]? = H[q]?) → W p l e R s m args below meth c H1 locs1 (kc + mc') (ks + ms') Qx (F0 m (pc + 3) lsA ((r.map (ab_c G)).toList ++ rest))) : W p l e R s m args below meth c H locs kc ks Qx (F0 m pc lsA ((av.map (ab_c G)).reverse ++ .ref (ab_a G q) :: rest)) := by
  obtain ⟨hx, hb, hml, hown, hts, hA, hK, hZ⟩ := hI
  have hfr := ab_free hD hS hA
  have hMm := hM l G H.size
  have hcb := callB_of (R := R) (rm := ab_rm d' mc' ms') (mc := mc') (ms := ms') av.length hts (ab_gw_code hF.1) rfl rfl rfl (hts _ hF.1.2.1) (hts _ hl) hF.1.2.2.1 hR
  rw [hF.2.2.2] at hcb hMm
  have hrun := va_runI (n := av.length) (As := av.map (ab_c G)) (rest := rest) (b := ab_a G q) (locs := locs) (below := below) (e := e) (meth := meth) (cells := kc) (slots := ks) (g := F0 m pc lsA ((av.map (ab_c G)).reverse ++ .ref (ab_a G q) :: rest)) ⟨hx, hb, hml, hown, hts⟩ hMm ⟨hcb, hF.2.1, hts _ hF.2.2.1⟩ ⟨ab_blind, ab_pre (av := .ref q :: av) hK hZ hP hD hS hA ht⟩ rfl (by simp) hsz (by simp) (lv_room hst) hd hmc
  exact wl_call hrun hS hfr kk
end WLC
/-- a store's places are apart, and lie where its base is -/
theorem ab_D {G : ab_G} {A : Nat → Prop} {σ : ab_S} (hn : σ.1 ≤ 1000000) (hA : ∀ k, k < σ.1 → A (G.1 + k)) : va_D A (ab_ws G σ) := by
  have e : ∀ (i : Nat) (p : Nat × va_E), (ab_ws G σ)[i]? = some p → i < σ.1 ∧ p.1 = G.1 + i := fun i p hp => by
    have hi : i < σ.1 := by
      have := (List.getElem?_eq_some_iff.mp hp).1
      simpa [ab_ws] using this
    rw [ab_ws_at hi] at hp
    cases hp
    exact ⟨hi, by show ab_a G i = _; rw [ab_a, if_neg (by omega)]⟩
  refine ⟨fun i j p q hp hq hpq => ?_, fun k q hq => ?_⟩
  · have h1 := e i p hp
    have h2 := e j q hq
    omega
  · have h1 := e k q hq
    rw [h1.2]
    exact hA k h1.1
theorem ab_A {G : ab_G} {σ : ab_S} {sz q : Nat} (hn : σ.1 ≤ 1000000) (h : va_A (ab_ws G σ) sz q) : (G.1 ≤ q ∧ q < G.1 + σ.1) ∨ sz ≤ q := by
  rcases h with ⟨k, e, h⟩ | h
  · have hi : k < σ.1 := by
      have := (List.getElem?_eq_some_iff.mp h).1
      simpa [ab_ws] using this
    rw [ab_ws_at hi] at h
    cases h
    left
    rw [ab_a, if_neg (by omega)]
    omega
  · exact Or.inr h
/-- a store that nothing has touched -/
theorem ab_keep {G : ab_G} {σ : ab_S} {H H1 : Heap} (hn : σ.1 ≤ 1000000) (hP : va_P G.2.2.2 vwCl (ab_ws G σ) H) (hk : ∀ q, G.1 ≤ q → q < G.1 + σ.1 → H1[q]? = H[q]?) : va_P G.2.2.2 vwCl (ab_ws G σ) H1 := hP.kept (fun k x hx => by
  have hi : k < σ.1 := by
    have := (List.getElem?_eq_some_iff.mp hx).1
    simpa [ab_ws] using this
  rw [ab_ws_at hi] at hx
  cases hx
  show H1[ab_a G k]? = H[ab_a G k]?
  rw [ab_a, if_neg (by omega)]
  exact hk _ (by omega) (by omega))
