/-! THE LAW FROM ITS ENTRY -/
abbrev zI : Nat → Nat → Int32 := fun _ _ => 0
abbrev zR : Nat → Nat → Option Nat := fun _ _ => none
section WLN
variable {p : Program} {l : Launch} {e : Env} {R : Room} {s : State} {m : MethodId} {args : Array Value} {below : List Frame} {meth : Method} {c : Code} {H : Heap} {locs : List Loc} {kc ks : Nat} {lsA : Array Slot} {G : ab_G} {A : Nat → Prop} {Qx : State → Prop}
theorem wl_new {cc : ByteArray} {nL pc idx ci : Nat} {own C : String} {T : u_T} {N : Nat} {st : List Value} (sh : Nat → Nat × Nat) (hI : wI cc nL own G A p s m args c) (hd : decode cc pc = .ok (.new idx, 3)) (hl : Cond.classLink own idx C ∈ gw) (hc : vwCl[ci]? = some (C, T, N)) (hs : sh 0 = (ci, N)) (hm : kc + 1 ≤ R.cells ∧ ks + N ≤ R.slots) (hS : va_S A s.heap H locs) (hz : H.size = G.1)
    (k : ∀ H1 : Heap, H1.size = H.size + 1 → (∀ q, q < H.size → H1[q]? = H[q]?) → va_P G.2.2.2 vwCl (ab_ws G (sN sh 1 zI zR)) H1 → va_D A (ab_ws G (sN sh 1 zI zR)) → va_S A s.heap H1 locs → W p l e R s m args below meth c H1 locs (kc + 1) (ks + N) Qx (F0 m (pc + 3) lsA (.ref G.1 :: st))) : W p l e R s m args below meth c H locs kc ks Qx (F0 m pc lsA st) := by
  obtain ⟨hx, hb, hml, hown, hts, hA, hK, hZ⟩ := hI
  have hKn := hK.1.1 ci _ hc
  have hnw : ab_nw (sN sh 0 zI zR) ci N = sN sh 1 zI zR := sN_nw hs (fun _ _ => ⟨fun _ => rfl, fun _ => rfl⟩)
  have h0 : (sN sh 0 zI zR).1 = 0 := rfl
  refine W.newcK hx hb hown (hts _ hl) (hts _ (ab_cls hc).2.2.2.1) (hts _ (ab_cls hc).2.2.2.2) rfl hd hm.1 hm.2 hKn.2.1 rfl fun H1 kC hkC e1 z1 o1 => ?_
  have hat : va_at G.2.2.2 vwCl (H.size, ab_cell G (ab_nw (sN sh 0 zI zR) ci N) (sN sh 0 zI zR).1) H1 := by
    have ec : ab_cell G (ab_nw (sN sh 0 zI zR) ci N) (sN sh 0 zI zR).1 = .inr (ci, (List.range (ab_nf ci)).map (ab_fv G (ab_nw (sN sh 0 zI zR) ci N) ci (sN sh 0 zI zR).1)) := by
      simp [ab_cell, ab_nw, ab_lt_of hc]
    rw [ec]
    refine ⟨_, hc, (u_born (ab_ty ci) hts (ab_cls hc).1 hKn hkC e1 (ab_cls hc).2.1).to (fun j hj => ?_)⟩
    have hj2 : j < ab_nf ci := by rw [ab_nf_of hc]; exact hj
    rw [ab_dv ci (ab_ci_lt hc) j (Nat.lt_of_lt_of_le hj2 (ab_nf_le ci (ab_ci_lt hc)))]
    simp [vp_V, hj2, ab_fv, ab_nw, va_rf]
  have hP0 : va_P G.2.2.2 vwCl (ab_ws G (sN sh 0 zI zR)) H := fun k q h => by
    have := (List.getElem?_eq_some_iff.mp h).1
    rw [ab_ws_len, h0] at this
    omega
  have hD0 : va_D A (ab_ws G (sN sh 0 zI zR)) := ab_D (by rw [h0]; omega) (fun k hk => by rw [h0] at hk; omega)
  obtain ⟨hP1, hD1, hS1⟩ := ab_grow hP0 hD0 hS hA (by rw [h0]; omega) (by rw [h0]; omega) z1 o1 hat
  rw [hnw] at hP1 hD1
  have k1 := k H1 z1 o1 hP1 hD1 hS1
  rw [← hz] at k1
  exact k1
end WLN
set_option maxHeartbeats 4000000 in
set_option maxRecDepth 100000 in
theorem whole_start {p : Program} {e : Env} {s : State} {m : MethodId} {below : List Frame} {meth : Method} {c : Code} (l : Launch) (hlt : l.stackTraces = false) {b L : Nat} {xs : Nat → Int32} (hL : L ≤ 2560) (C0 : lw_At p s m meth c b L xs) : W p l e room_1 s m #[Value.ref b] below meth c s.heap [] 0 0 (lw_Z below #[Value.ref b] s) (entryFrame m ([Value.ref b] : List Value).toArray 7) := by
  obtain ⟨hx, hb, hr, hml, hown, hts, hX, hbl, hlocks, hgv⟩ := id C0
  have hgw : ∀ w ∈ gw, w.before #[Value.ref b] s = true := fun w hw => hts w (in_tbl hw)
  obtain ⟨dC, dI, hKc⟩ := st_cls hgw
  obtain ⟨cI, aI1, aI2⟩ := st_arr (hgw _ ac_int)
  obtain ⟨cZ, aZ1, aZ2⟩ := st_arr (hgw _ ac_boolean)
  obtain ⟨cL, aL1, aL2⟩ := st_arr (hgw _ ac_long)
  obtain ⟨hA6, hA0⟩ := st_AO hts
  obtain ⟨cM, aM1, aM2⟩ := st_ref hA6
  obtain ⟨cB, aB1, aB2⟩ := st_ref hA0
  obtain ⟨ta, tz, tt⟩ := st_tab hts hgv
  obtain ⟨hKx, hTx⟩ := st_thr hts hgv
  obtain ⟨hn1, hn2, -⟩ := st_nest hts
  obtain ⟨G, hG⟩ : ∃ G : ab_G, G = (s.heap.size, ta, (fun k => if k = 100 then cI else if k = 101 then cZ else if k = 102 then cM else cB), (dC, dI)) := ⟨_, rfl⟩
  have hK : ab_K G s := by
    subst hG
    refine ⟨⟨hKc, fun k q hq => ?_⟩, hA6, hA0, hn1, hn2⟩
    match k, hq with
    | 0, hq => cases hq; exact ⟨aI1, aI2⟩
    | 1, hq => cases hq; exact ⟨aZ1, aZ2⟩
    | 2, hq => cases hq; exact ⟨aM1, aM2⟩
    | 3, hq => cases hq; exact ⟨aB1, aB2⟩
    | k + 4, hq => simp [ab_tys] at hq
  have hKl : va_K G.2.2.2 vwCl [(cL, .long)] s := by
    subst hG
    refine ⟨hKc, fun k q hq => ?_⟩
    match k, hq with
    | 0, hq => cases hq; exact ⟨aL1, aL2⟩
    | k + 1, hq => simp at hq
  have hZ : ab_Z G (fun q => s.heap.size ≤ q) s s.heap := by
    subst hG
    exact ⟨tz, tt⟩
  have hGs : G.1 = s.heap.size := by rw [hG]
  have C : lwC l p s m meth c b L xs G cL := ⟨C0, hL, hlt, hK, hKl, hZ, hKx, hTx, hGs⟩
  clear hG
  have hIx := C.wi G.1
  have hIm := C.wi (G.1 + 366)
  have hl := lv_entry ([.ref b]) (n := 7) (Nat.le_of_ble_eq_true rfl)
  rw [lg_entry_eq]
  generalize (lg_sl ([.ref b]) ++ List.replicate (7 - (lg_sl ([.ref b])).length) Slot.unset).toArray = ls at hl ⊢
  have hl : lv_has ls 7 [(0, .ref b)] := hl
  refine wl_new (R := room_1) (idx := 8) (ci := 10) (G := G) (st := []) shX hIx dL_law_0 cl_L_8 rfl rfl ⟨by decide, by decide⟩ va_S.rf hGs.symm (fun H1 z1 o1 hP1 hD1 hS1 => ?_)
  refine lv_dup hx hb dL_law_3 rfl ?_
  refine wl_I (R := room_1) (tt := True) (d' := 4) (mc' := 365) (ms' := 3238) (N := mX10_init) (av := []) (rest := [.ref G.1]) (q := 0) (σ := sN shX 1 zI zR) (G := G) hIx hl.1 dL_law_4 ml_L_18 fi_X10_init (Nat.le_of_ble_eq_true rfl) ⟨by decide, by decide⟩ ⟨by decide, by decide⟩ hP1 hD1 hS1 (fun _ => by show H1.size = G.1 + 1; omega) (n_X10 trivial z0_Fr) (fun r σ' H2 locs2 hq hP2 hS2 ht2 hz2 hk2 => ?_)
  obtain ⟨rfl, rfl⟩ := hq
  have s2 := (ht2 trivial).1
  rw [sX_0] at hP2
  refine lv_astore_n (lv' := [(1, .ref G.1), (0, .ref b)]) hx hb dL_law_7 rfl hl (by decide) rfl (fun ls hl => ?_)
  refine wl_new (R := room_1) (idx := 19) (ci := 11) (G := gmo G) (st := []) shM hIm dL_law_8 cl_L_19 rfl rfl ⟨by decide, by decide⟩ hS2 (by show H2.size = G.1 + 366; omega) (fun H3 z3 o3 hP3 hD3 hS3 => ?_)
  refine lv_dup hx hb dL_law_11 rfl ?_
  refine wl_I (R := room_1) (tt := True) (d' := 1) (mc' := 22) (ms' := 2586) (N := mX11_init) (av := []) (rest := [.ref (G.1 + 366)]) (q := 0) (σ := sN shM 1 zI zR) (G := gmo G) hIm hl.1 dL_law_12 ml_L_21 fi_X11_init (Nat.le_of_ble_eq_true rfl) ⟨by decide, by decide⟩ ⟨by decide, by decide⟩ hP3 hD3 hS3 (fun _ => by show H3.size = G.1 + 366 + 1; omega) (n_X11 trivial) (fun r σ' H4 locs4 hq hP4 hS4 ht4 hz4 hk4 => ?_)
  obtain ⟨rfl, rfl⟩ := hq
  have s4 := (ht4 trivial).1
  rw [sM_0] at hP4
  have hx3 : va_P G.2.2.2 vwCl (ab_ws G (sX x0)) H3 := ab_keep (by show 366 ≤ _; omega) hP2 (fun q h1 h2 => o3 q (by have h2 : q < G.1 + 366 := h2; omega))
  have hx4 : va_P G.2.2.2 vwCl (ab_ws G (sX x0)) H4 := ab_keep (by show 366 ≤ _; omega) hx3 (fun q h1 h2 => by
    have h2 : q < G.1 + 366 := h2
    refine hk4 q (by omega) (fun h => ?_)
    have h9 := ab_A (by show 1 ≤ _; omega) h
    have h9 : (G.1 + 366 ≤ q ∧ q < G.1 + 366 + 1) ∨ H3.size ≤ q := h9
    omega)
  refine lv_astore_n (lv' := [(2, .ref (G.1 + 366)), (1, .ref G.1), (0, .ref b)]) hx hb dL_law_15 rfl hl (by decide) rfl (fun ls hl => ?_)
  refine lv_iconst (v := 1) hx hb dL_law_16 (by decide) ?_
  refine va_newaK (N := 1) (n := 1) (rest := []) (atype := .long) hx hb (hgw _ ac_long) rfl dL_law_17 rfl (by decide) (by decide) (by decide) (by decide) (by decide) rfl (fun H5 cA e5 z5 o5 _ hNm => ?_)
  have hcA : cA = cL := Option.some.inj (hNm.symm.trans aL2)
  subst hcA
  have so : H4.size = G.1 + 389 := by omega
  have hx5 : va_P G.2.2.2 vwCl (ab_ws G (sX x0)) H5 := ab_keep (by show 366 ≤ _; omega) hx4 (fun q h1 h2 => o5 q (by have h2 : q < G.1 + 366 := h2; omega))
  have hm5 : va_P G.2.2.2 vwCl (ab_ws (gmo G) (sM m0)) H5 := ab_keep (by show 23 ≤ _; omega) hP4 (fun q h1 h2 => o5 q (by have h2 : q < G.1 + 366 + 23 := h2; omega))
  have ho5 : va_P G.2.2.2 vwCl [(G.1 + 389, oc cA 0)] H5 := fun k q hk => by
    have hz : k < 1 := (List.getElem?_eq_some_iff.mp hk).1
    rw [show k = 0 by omega] at hk
    cases hk
    show H5[G.1 + 389]? = some (vp_cell cA (1, .inr (.inl (fun _ => 0))))
    rw [← so]
    exact e5
  have hS5 : va_S (fun q => s.heap.size ≤ q) s.heap H5 locs4 := ⟨by have := hS4.1; omega, fun q h1 h2 => (o5 q (Nat.lt_of_lt_of_le h1 hS4.1)).trans (hS4.2.1 q h1 h2), hS4.2.2⟩
  rw [so]
  show W p l e room_1 s m #[Value.ref b] below meth c H5 locs4 _ _ (lw_Z below #[Value.ref b] s) (F0 m 19 ls [.ref (G.1 + 389)])
  refine lv_astore_n (lv' := [(3, .ref (G.1 + 389)), (2, .ref (G.1 + 366)), (1, .ref G.1), (0, .ref b)]) hx hb dL_law_19 rfl hl (by decide) rfl (fun ls hl => ?_)
  refine lv_iconst (v := nI 0) hx hb dL_law_20 (by decide) ?_
  refine lv_istore (lv' := [(4, .int (nI 0)), (3, .ref (G.1 + 389)), (2, .ref (G.1 + 366)), (1, .ref G.1), (0, .ref b)]) hx hb dL_law_21 hl (by decide) rfl (fun ls hl => ?_)
  refine W.widen (k := 400 + 0) (n := 6000 + 6 * 0) (by decide) (by decide) ?_
  exact law_loop C 520 0 x0 m0 0 (by omega) (by omega) JJ_0 H5 locs4 ls ⟨hx5, hm5, ho5, hS5, by omega⟩ (lv_sub hl [4, 3, 2, 1, 0] rfl)
