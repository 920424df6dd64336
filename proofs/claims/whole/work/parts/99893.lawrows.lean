/-! THE LAW's FRAME: house, reference and out beside each other; rows over it -/
abbrev gmo (G : ab_G) : ab_G := (G.1 + 366, G.2)
theorem cw_L_user : Cond.codeWith yL_user cL_user 5 (some .int) [(0, 10, 13, 13)] ∈ gw := gm3 (i := 227) rfl rfl
theorem cw_L_disk : Cond.codeWith yL_disk cL_disk 5 (some .int) [(0, 10, 13, 13)] ∈ gw := gm4 (i := 78) rfl rfl
def lwC (l : Launch) (p : Program) (s : State) (m : MethodId) (meth : Method) (c : Code) (b L : Nat) (xs : Nat → Int32) (G : ab_G) (cL : ClassId) : Prop :=
  lw_At p s m meth c b L xs ∧ L ≤ 2560 ∧ l.stackTraces = false ∧ ab_K G s ∧ va_K G.2.2.2 vwCl [(cL, .long)] s ∧ ab_Z G (fun q => s.heap.size ≤ q) s s.heap ∧ xw_K s ∧ xw_T (fun q => s.heap.size ≤ q) s s.heap ∧ G.1 = s.heap.size
def lwS (s : State) (G : ab_G) (cL : ClassId) (x : xD) (n : mD) (v : Int64) (H : Heap) (locs : List Loc) : Prop :=
  va_P G.2.2.2 vwCl (ab_ws G (sX x)) H ∧ va_P G.2.2.2 vwCl (ab_ws (gmo G) (sM n)) H ∧ va_P G.2.2.2 vwCl [(G.1 + 389, oc cL v)] H ∧ va_S (fun q => s.heap.size ≤ q) s.heap H locs ∧ G.1 + 390 ≤ H.size
/-- the law's frame at pc, with locals lv and operands st, comes to its end with true -/
def LW (l : Launch) (p : Program) (e : Env) (s : State) (m : MethodId) (below : List Frame) (meth : Method) (c : Code) (b : Nat) (G : ab_G) (cL : ClassId) (kc ks pc : Nat) (lv : List (Nat × Value)) (st : List Value) (x : xD) (n : mD) (v : Int64) : Prop :=
  ∀ (H : Heap) (locs : List Loc) (ls : Array Slot), lwS s G cL x n v H locs → lv_has ls 7 lv → W p l e room_1 s m #[Value.ref b] below meth c H locs kc ks (lw_Z below #[Value.ref b] s) (F0 m pc ls st)
theorem in_tbl {w : Cond} (h : w ∈ gw) : w ∈ lw_tbl := (List.mem_filter.mp h).1
section LWR
variable {l : Launch} {p : Program} {e : Env} {s : State} {m : MethodId} {below : List Frame} {meth : Method} {c : Code} {b L : Nat} {xs : Nat → Int32} {G : ab_G} {cL : ClassId} {kc ks pc : Nat} {lv : List (Nat × Value)} {st : List Value} {x : xD} {n : mD} {v : Int64}
theorem lwC.wi (C : lwC l p s m meth c b L xs G cL) (B : Nat) : wI code 7 RL (B, G.2) (fun q => s.heap.size ≤ q) p s m #[Value.ref b] c := by
  obtain ⟨⟨hx, hb, -, hml, hown, hts, -⟩, -, -, hK, -, hZ, -⟩ := C
  exact ⟨hx, hb, hml, hown, fun w hw => hts w (in_tbl hw), fun _ h => h, hK, hZ⟩
theorem LW_arg {i k : Nat} {k' : Int} (C : lwC l p s m meth c b L xs G cL) (p0 p4 : Nat) (e0 : lv[p0]? = some (0, .ref b)) (e4 : lv[p4]? = some (4, .int (nI i))) (hk : i + k < L) (d0 : decode code pc = .ok (.aload_n 0, 1)) (d1 : decode code (pc + 1) = .ok (.iload 4, 2)) (d3 : decode code (pc + 3) = .ok (.iconst k', 1)) (hk' : Int32.ofInt k' = nI k) (d4 : decode code (pc + 4) = .ok (.iadd, 1)) (d5 : decode code (pc + 5) = .ok (.iaload, 1))
    (K : LW l p e s m below meth c b G cL kc ks (pc + 6) lv (.int (xs (i + k)) :: st) x n v) : LW l p e s m below meth c b G cL kc ks pc lv st x n v := by
  intro H locs ls hs hl
  obtain ⟨⟨hx, hb, -, -, -, -, hX, hbl, -⟩, hL, -⟩ := C
  refine lv_aload_n hx hb d0 rfl (lv_at hl p0 e0) ?_
  refine lv_iload hx hb d1 (lv_at hl p4 e4) ?_
  refine lv_iconst (v := nI k) hx hb d3 hk' ?_
  refine lv_iadd hx hb d4 ?_
  rw [nI_add]
  refine va_sld (A := fun q => s.heap.size ≤ q) hx hb hX hbl (Nat.not_le.mpr hbl) hs.2.2.2.1 (vp_in_nI hk (by omega)) d5 ?_
  rw [nI_clamp (show i + k < 2 ^ 31 by omega)]
  exact K H locs ls hs hl
theorem LW_ld {j i a : Nat} {jj : Fin 4} (C : lwC l p s m meth c b L xs G cL) (p0 : Nat) (e0 : lv[p0]? = some (i, .ref a)) (hj : (jj : Nat) = i) (d0 : decode code pc = .ok (.aload_n jj, 1))
    (K : LW l p e s m below meth c b G cL kc ks (pc + 1) lv (.ref a :: st) x n v) : LW l p e s m below meth c b G cL kc ks pc lv st x n v := by
  intro H locs ls hs hl
  obtain ⟨⟨hx, hb, -⟩, -⟩ := C
  refine lv_aload_n hx hb d0 hj (lv_at hl p0 e0) ?_
  exact K H locs ls hs hl
theorem LW_eq {a a' : Int32} {off : Int} {tgt : Nat} (C : lwC l p s m meth c b L xs G cL) (h : a = a') (d0 : decode code pc = .ok (.if_icmp .eq off, 3)) (ht : (pc : Int) + off = (tgt : Int))
    (K : LW l p e s m below meth c b G cL kc ks tgt lv st x n v) : LW l p e s m below meth c b G cL kc ks pc lv (.int a' :: .int a :: st) x n v := by
  intro H locs ls hs hl
  obtain ⟨⟨hx, hb, -⟩, -⟩ := C
  exact lv_icmp_eq hx hb d0 ht (fun _ => K H locs ls hs hl) (fun z => absurd h z)
theorem LW_goto {off : Int} {tgt : Nat} (C : lwC l p s m meth c b L xs G cL) (d0 : decode code pc = .ok (.goto off, 3)) (ht : (pc : Int) + off = (tgt : Int))
    (K : LW l p e s m below meth c b G cL kc ks tgt lv st x n v) : LW l p e s m below meth c b G cL kc ks pc lv st x n v := by
  intro H locs ls hs hl
  obtain ⟨⟨hx, hb, -⟩, -⟩ := C
  exact lv_goto hx hb d0 ht (K H locs ls hs hl)
theorem LW_store {i : Nat} {a : Int32} {lv' : List (Nat × Value)} (C : lwC l p s m meth c b L xs G cL) (d0 : decode code pc = .ok (.istore i, 2)) (hi : i < 7) (hlv : (i, Value.int a) :: lv.filter (fun q => !(q.1 == i) && !(q.1 + 1 == i && q.2.category == 2)) = lv')
    (K : LW l p e s m below meth c b G cL kc ks (pc + 2) lv' st x n v) : LW l p e s m below meth c b G cL kc ks pc lv (.int a :: st) x n v := by
  intro H locs ls hs hl
  obtain ⟨⟨hx, hb, -⟩, -⟩ := C
  exact lv_istore hx hb d0 hl hi hlv (fun ls' hl' => K H locs ls' hs hl')
theorem LW_il {i : Nat} {a : Int32} (C : lwC l p s m meth c b L xs G cL) (p0 : Nat) (e0 : lv[p0]? = some (i, .int a)) (d0 : decode code pc = .ok (.iload i, 2))
    (K : LW l p e s m below meth c b G cL kc ks (pc + 2) lv (.int a :: st) x n v) : LW l p e s m below meth c b G cL kc ks pc lv st x n v := by
  intro H locs ls hs hl
  obtain ⟨⟨hx, hb, -⟩, -⟩ := C
  exact lv_iload hx hb d0 (lv_at hl p0 e0) (K H locs ls hs hl)
theorem LW_wide {kc' ks' : Nat} (h1 : kc ≤ kc') (h2 : ks ≤ ks') (K : LW l p e s m below meth c b G cL kc' ks' pc lv st x n v) : LW l p e s m below meth c b G cL kc ks pc lv st x n v := fun H locs ls hs hl => W.widen h1 h2 (K H locs ls hs hl)
theorem lwS.one {q : Nat} {e' : va_E} {D : va_G} {cl : List vw_C} {H H1 : Heap} (h : va_P D cl [(q, e')] H) (hk : H1[q]? = H[q]?) : va_P D cl [(q, e')] H1 := h.kept (fun k y hy => by
  have hz : k < 1 := (List.getElem?_eq_some_iff.mp hy).1
  rw [show k = 0 by omega] at hy
  cases hy
  exact hk)
/-- a call of the house -/
theorem LW_X {N : ab_M} {idx d' : Nat} {av : List Value} {z : Int32 × xD} (C : lwC l p s m meth c b L xs G cL) (hb' : kc ≤ 5000 ∧ ks ≤ 30000) (hd : decode code pc = .ok (.invokevirtual idx, 3)) (hlk : Cond.methodLink RL idx N.1 ∈ gw) (hF : ab_FV N av.length 10) (hst : (st.map fun v => v.category).sum ≤ 8) (hR : wR room_1 N d') (hav : av.map (ab_c G) = av) (hM : ab_Met N d' 0 0 False (.ref (0 : Nat) :: av) (sX x) (xQi z))
    (K : LW l p e s m below meth c b G cL kc ks (pc + 3) lv (.int z.1 :: st) z.2 n v) : LW l p e s m below meth c b G cL kc ks pc lv (av.reverse ++ .ref G.1 :: st) x n v := by
  intro H locs ls hs hl
  have hG := C.2.2.2.2.2.2.2.2
  have hn : ∀ y : xD, (sX y).1 = 366 := fun _ => rfl
  have hm : (sM n).1 = 23 := rfl
  obtain ⟨hP, hQ, hO, hS, hz⟩ := hs
  have hD : va_D (fun q => s.heap.size ≤ q) (ab_ws G (sX x)) := ab_D (by rw [hn]; omega) (fun k _ => by show _ ≤ G.1 + k; omega)
  have K1 := wl_V (l := l) (R := room_1) (e := e) (below := below) (meth := meth) (Qx := lw_Z below #[Value.ref b] s) (kc := kc) (ks := ks) (lsA := ls) (pc := pc) (tt := False) (mc' := 0) (ms' := 0) (N := N) (av := av) (rest := st) (q := 0) (ci := 10) (σ := sX x) (C.wi G.1) hl.1 hd hlk hF ⟨by rw [hn]; omega, rfl⟩ hst hR ⟨by show kc + 0 ≤ 601024; omega, by show ks + 0 ≤ 7293034; omega⟩ hP hD hS (fun z => z.elim) hM (fun r σ' H1 locs1 hq hP1 hS1 _ hz1 hk1 => by
    obtain ⟨rfl, rfl⟩ := hq
    have hA : ∀ q, G.1 + 366 ≤ q → q < H.size → ¬ va_A (ab_ws G (sX x)) H.size q := fun q h1 h2 h => by
      have := ab_A (by rw [hn]; omega) h
      rw [hn] at this
      omega
    exact K H1 locs1 ls ⟨hP1, ab_keep (by rw [hm]; omega) hQ (fun q h1 h2 => hk1 q (by have h2 : q < G.1 + 366 + (sM n).1 := h2; rw [hm] at h2; omega) (hA q h1 (by have h2 : q < G.1 + 366 + (sM n).1 := h2; rw [hm] at h2; omega))), lwS.one hO (hk1 _ (by omega) (hA _ (by omega) (by omega))), hS1, by omega⟩ hl)
  rw [hav] at K1
  exact K1
/-- a call of the reference -/
theorem LW_M {N : ab_M} {idx d' : Nat} {av : List Value} {z : Int32 × mD} (C : lwC l p s m meth c b L xs G cL) (hb' : kc ≤ 5000 ∧ ks ≤ 30000) (hd : decode code pc = .ok (.invokevirtual idx, 3)) (hlk : Cond.methodLink RL idx N.1 ∈ gw) (hF : ab_FV N av.length 11) (hst : (st.map fun v => v.category).sum ≤ 8) (hR : wR room_1 N d') (hav : av.map (ab_c (gmo G)) = av) (hM : ab_Met N d' 0 0 False (.ref (0 : Nat) :: av) (sM n) (mQi z))
    (K : LW l p e s m below meth c b G cL kc ks (pc + 3) lv (.int z.1 :: st) x z.2 v) : LW l p e s m below meth c b G cL kc ks pc lv (av.reverse ++ .ref (G.1 + 366) :: st) x n v := by
  intro H locs ls hs hl
  have hG := C.2.2.2.2.2.2.2.2
  have hn : (sX x).1 = 366 := rfl
  have hm : ∀ y : mD, (sM y).1 = 23 := fun _ => rfl
  obtain ⟨hP, hQ, hO, hS, hz⟩ := hs
  have hD : va_D (fun q => s.heap.size ≤ q) (ab_ws (gmo G) (sM n)) := ab_D (by rw [hm]; omega) (fun k _ => by show _ ≤ G.1 + 366 + k; omega)
  have K1 := wl_V (l := l) (R := room_1) (e := e) (below := below) (meth := meth) (Qx := lw_Z below #[Value.ref b] s) (kc := kc) (ks := ks) (lsA := ls) (pc := pc) (tt := False) (mc' := 0) (ms' := 0) (N := N) (av := av) (rest := st) (q := 0) (ci := 11) (σ := sM n) (G := gmo G) (C.wi (G.1 + 366)) hl.1 hd hlk hF ⟨by rw [hm]; omega, rfl⟩ hst hR ⟨by show kc + 0 ≤ 601024; omega, by show ks + 0 ≤ 7293034; omega⟩ hQ hD hS (fun z => z.elim) hM (fun r σ' H1 locs1 hq hP1 hS1 _ hz1 hk1 => by
    obtain ⟨rfl, rfl⟩ := hq
    have hA : ∀ q, (q < G.1 + 366 ∨ G.1 + 389 ≤ q) → q < H.size → ¬ va_A (ab_ws (gmo G) (sM n)) H.size q := fun q h1 h2 h => by
      have := ab_A (by rw [hm]; omega) h
      rw [hm] at this
      have this : (G.1 + 366 ≤ q ∧ q < G.1 + 366 + 23) ∨ H.size ≤ q := this
      omega
    exact K H1 locs1 ls ⟨ab_keep (by rw [hn]; omega) hP (fun q h1 h2 => hk1 q (by rw [hn] at h2; omega) (hA q (by rw [hn] at h2; omega) (by rw [hn] at h2; omega))), hP1, lwS.one hO (hk1 _ (by omega) (hA _ (by omega) (by omega))), hS1, by omega⟩ hl)
  rw [hav] at K1
  exact K1
end LWR
