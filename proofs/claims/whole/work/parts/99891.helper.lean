/-! THE LAW's HELPERS user, disk: they answer 1 where the house throws, and else 0 and the house's answer in out -/
abbrev oc (cL : ClassId) (v : Int64) : va_E := .inl (cL, 1, .inr (.inl (fun _ => v)))
/-- what a helper may change: the house, out, what is new -/
def xf (G : ab_G) (o sz : Nat) : Nat → Prop := fun q => (G.1 ≤ q ∧ q < G.1 + 366) ∨ q = o ∨ sz ≤ q
theorem va_P.l {D : va_G} {cl : List vw_C} {w1 w2 : va_W} {H : Heap} (h : va_P D cl (w1 ++ w2) H) : va_P D cl w1 H := fun k q hk => h k q (by rw [List.getElem?_append_left (List.getElem?_eq_some_iff.mp hk).1]; exact hk)
theorem va_P.r {D : va_G} {cl : List vw_C} {w1 w2 : va_W} {H : Heap} (h : va_P D cl (w1 ++ w2) H) : va_P D cl w2 H := fun k q hk => h (w1.length + k) q (by rw [List.getElem?_append_right (by omega), Nat.add_sub_cancel_left]; exact hk)
theorem ab_ws_len {G : ab_G} {σ : ab_S} : (ab_ws G σ).length = σ.1 := by simp [ab_ws]
/-- the house and out, apart -/
theorem xf_D {G : ab_G} {x : xD} {o sz : Nat} {e : va_E} (ho : G.1 + 366 ≤ o) : va_D (xf G o sz) (ab_ws G (sX x) ++ [(o, e)]) := by
  have hn : (sX x).1 = 366 := rfl
  have f : ∀ (i : Nat) (p : Nat × va_E), (ab_ws G (sX x) ++ [(o, e)])[i]? = some p → (i < 366 ∧ p.1 = G.1 + i) ∨ (i = 366 ∧ p.1 = o) := fun i p hp => by
    by_cases hi : i < 366
    · rw [List.getElem?_append_left (by rw [ab_ws_len, hn]; exact hi), ab_ws_at (by rw [hn]; exact hi)] at hp
      cases hp
      exact Or.inl ⟨hi, by show ab_a G i = _; rw [ab_a, if_neg (by omega)]⟩
    · rw [List.getElem?_append_right (by rw [ab_ws_len, hn]; omega), ab_ws_len, hn] at hp
      have hz : i - 366 < 1 := (List.getElem?_eq_some_iff.mp hp).1
      rw [show i - 366 = 0 by omega] at hp
      cases hp
      exact Or.inr ⟨by omega, rfl⟩
  refine ⟨fun i j p q hp hq hpq => ?_, fun k q hq => ?_⟩
  · rcases f i p hp with h1 | h1 <;> rcases f j q hq with h2 | h2 <;> omega
  · rcases f k q hq with h1 | h1
    · exact Or.inl ⟨by omega, by omega⟩
    · exact Or.inr (Or.inl h1.2)
def hp_Pc (G : ab_G) (cL : ClassId) (x : xD) (v : Int64) (u w : Int32) (o sz : Nat) : Array Value → State → Prop := va_Pc [.ref (ab_a G 0), .int u, .int w, .ref o] (fun U => U.heap.size = sz ∧ va_P G.2.2.2 vwCl (ab_ws G (sX x)) U.heap ∧ va_P G.2.2.2 vwCl [(o, oc cL v)] U.heap ∧ ab_K G U ∧ va_K G.2.2.2 vwCl [(cL, .long)] U ∧ ab_Z G (xf G o sz) U U.heap ∧ xw_K U ∧ xw_T (xf G o sz) U U.heap ∧ G.1 + 366 ≤ o ∧ o < sz)
def hp_post (T : Prop) (a : Int32) (v : Int64) : Int32 → Int64 → Prop := fun r v' => (T ∧ r = 1 ∧ v' = v) ∨ (¬ T ∧ r = 0 ∧ v' = a.toInt64)
def hp_B (G : ab_G) (cL : ClassId) (x : xD) (o : Nat) : Int64 → State → Prop := fun v' t => va_P G.2.2.2 vwCl (ab_ws G (sX x)) t.heap ∧ va_P G.2.2.2 vwCl [(o, oc cL v')] t.heap
section HPX
variable {p : Program} {l : Launch} {e : Env} {R : Room} {s : State} {m : MethodId} {args : Array Value} {below : List Frame} {meth : Method} {c : Code} {H : Heap} {locs : List Loc} {kc ks mc ms pc : Nat} {ls : Array Slot} {G : ab_G} {A A1 : Nat → Prop} {σ : ab_S} {st0 rest : List Value} {Qx : State → Prop}
theorem wl_X {free : Nat → Prop} (hr : vx_Run p l e R s m args below meth c H locs kc ks mc ms (F0 m pc ls st0) rest (fun _ _ _ => False) (xb_X G σ A1) free) (hS : va_S A s.heap H locs) (hA : ∀ q, A1 q → A q) (hf : ∀ q, free q → A q)
    (kx : ∀ (ce : Cell) (q9 : Addr) (H1 : Heap) (locs1 : List Loc), va_P G.2.2.2 vwCl (ab_ws G σ) H1 → H.size ≤ H1.size → (∀ q : Nat, q < H.size → ¬ A1 q → H1[q]? = H[q]?) → va_S A s.heap H1 locs1 → H1[q9]? = some ce → ce.vm = .none → s.vm.findClass nse = some ce.cls → vx_W p l e R s m args below meth c H1 locs1 (kc + mc) (ks + ms) Qx (F0 m pc ls rest) q9) : W p l e R s m args below meth c H locs kc ks Qx (F0 m pc ls st0) := by
  intro T hT X
  rcases hr T hT X with ⟨v, st₀, t, T', L, h0, X', hL, e1, e2, hF, st⟩ | ⟨q, st₀, t, T', L, E, ce, h0, X', hL, e1, e2, ⟨rfl, hP1, hF⟩, hce, hcv, hcl, st⟩
  · exact hF.elim
  · obtain ⟨k1, k2, k3⟩ := vx_keep h0 e1 hS (fun q _ h => hA q h) hf hL hF
    obtain ⟨t2, a1, b1⟩ := kx ce q T'.heap (locs ++ L) (by rw [e1]; exact hP1) k1 k2 k3 (by rw [e1]; exact hce) hcv hcl T' rfl X'
    exact ⟨t2, st.trans a1, b1⟩
end HPX
theorem xb_blind {G : ab_G} {av : List Value} {σ : ab_S} {sz : Nat} : FrameBlind (xb_Pc G av σ sz) := by
  intro a U g mk q
  obtain ⟨q0, q1, qP, qD, qK, qZ, qX, qT⟩ := q
  exact ⟨q0, q1, qP, qD, ab_K.same (s := U) (U := U.calling g mk a) rfl qK, ab_Z.moved (U := U.calling g mk a) (Vm.Alike.refl U.vm) qZ, xw_K.same (s := U) (U := U.calling g mk a) rfl qX, xw_T.moved (s := U) (U := U.calling g mk a) (Vm.Alike.refl U.vm) qT⟩
set_option maxHeartbeats 4000000 in
/-- either helper: N the house's method, T where it throws, a its answer elsewhere -/
theorem hp_go {l : Launch} {yL : MethodName} {cL5 : ByteArray} {N : ab_M} {idx dd : Nat} (hdd : dd ≤ 3) (G : ab_G) (cL : ClassId) (x : xD) (v : Int64) (u w a : Int32) (o sz : Nat) (T : Prop) (hyc : yL.cls = RL) (hNb : N.2.2.1 = 3) (hNr : N.2.2.2 = some .int) (hF : ab_FV N 2 10) (hlk : Cond.methodLink RL idx N.1 ∈ gw)
    (d0 : decode cL5 0 = .ok (.aload_n 3, 1)) (d1 : decode cL5 1 = .ok (.iconst 0, 1)) (d2 : decode cL5 2 = .ok (.aload_n 0, 1)) (d3 : decode cL5 3 = .ok (.iload_n 1, 1)) (d4 : decode cL5 4 = .ok (.iload_n 2, 1)) (d5 : decode cL5 5 = .ok (.invokevirtual idx, 3)) (d8 : decode cL5 8 = .ok (.i2l, 1)) (d9 : decode cL5 9 = .ok (.lastore, 1)) (d10 : decode cL5 10 = .ok (.goto 7, 3)) (d13 : decode cL5 13 = .ok (.astore 4, 2)) (d15 : decode cL5 15 = .ok (.iconst 1, 1)) (d16 : decode cL5 16 = .ok (.ireturn, 1)) (d17 : decode cL5 17 = .ok (.iconst 0, 1)) (d18 : decode cL5 18 = .ok (.ireturn, 1))
    (hok : ¬ T → ab_Met N dd 0 0 False [.ref (0 : Nat), .int u, .int w] (sX x) (xQi (a, x)))
    (hno : T → ∀ sz, vx_Met l N.1 (Cond.code N.1 N.2.1 N.2.2.1 N.2.2.2 :: gw) (ab_rm 6 1 6) (xb_Pc G [.ref (0 : Nat), .int u, .int w] (sX x) sz) (fun _ _ _ _ => False) (xb_X G (sX x) (va_A (ab_ws G (sX x)) sz)) 1 6 (va_A (ab_ws G (sX x)) sz)) :
    Met l yL (Cond.codeWith yL cL5 5 (some .int) [(0, 10, 13, 13)] :: gw) (ab_rm 7 1 6) (hp_Pc G cL x v u w o sz) (va_Qi (hp_post T a v) (hp_B G cL x o) (xf G o sz)) 1 6 (xf G o sz) := by
  refine va_MetW (cc := cL5) (maxL := 5) (ret := some .int) (hh := [(0, 10, 13, 13)]) (by rw [hyc]; rfl) rfl ?_
  intro p e s m args below meth c s₁ B hml hv
  obtain ⟨rfl, hsz, hP, hPo, hK, hKl, hZ, hKx, hTx, ho, hos⟩ := hv
  subst hsz
  have hts := atoms_spec (ws := Cond.codeWith yL cL5 5 (some .int) [(0, 10, 13, 13)] :: gw) B.pre
  have hgw : ∀ w' ∈ gw, w'.before (([.ref (ab_a G 0), .int u, .int w, .ref o] : List Value).toArray) s = true := fun w' hw => hts w' (List.mem_cons_of_mem _ hw)
  have htab : c.exceptionTable.toList = [⟨0, 10, 13, 13⟩] := vx_table (x := yL) B (hts _ List.mem_cons_self)
  have hx := B.exec
  have hb := B.bytes
  have hr : meth.sig.returnType = some .int := B.returns
  have hlocks := B.notSynchronized
  have hown : s.vm.findClass RL = some m.cls := by have := findClass_of_methodNamed B.named; rw [hyc] at this; exact this
  have hA : ∀ q, s.heap.size ≤ q → xf G o s.heap.size q := fun q hq => Or.inr (Or.inr hq)
  have hI : wI cL5 5 RL G (xf G o s.heap.size) p s m (([.ref (ab_a G 0), .int u, .int w, .ref o] : List Value).toArray) c := ⟨hx, hb, hml, hown, hgw, hA, hK, hZ⟩
  have hle := lv_entry ([.ref (ab_a G 0), .int u, .int w, .ref o]) (n := 5) (Nat.le_of_ble_eq_true rfl)
  rw [lg_entry_eq]
  generalize (lg_sl ([.ref (ab_a G 0), .int u, .int w, .ref o]) ++ List.replicate (5 - (lg_sl ([.ref (ab_a G 0), .int u, .int w, .ref o])).length) Slot.unset).toArray = ls at hle ⊢
  have hle : lv_has ls 5 [(0, .ref (ab_a G 0)), (1, .int u), (2, .int w), (3, .ref o)] := hle
  have hS : va_S (xf G o s.heap.size) s.heap s.heap [] := va_S.rf
  have hD : va_D (xf G o s.heap.size) (ab_ws G (sX x)) := ab_D (by show 366 ≤ _; omega) (fun k hk => Or.inl ⟨by omega, by have : (sX x).1 = 366 := rfl; omega⟩)
  have hn : (sX x).1 = 366 := rfl
  have hoA : ¬ va_A (ab_ws G (sX x)) s.heap.size o := fun h => by
    have := ab_A (by omega) h
    omega
  have hAf : ∀ q, va_A (ab_ws G (sX x)) s.heap.size q → xf G o s.heap.size q := fun q h => by
    have := ab_A (by omega) h
    rcases this with h | h
    · exact Or.inl ⟨h.1, by omega⟩
    · exact Or.inr (Or.inr h)
  refine lv_aload_n hx hb d0 rfl (lv_at hle 3 rfl) ?_
  refine lv_iconst (v := 0) hx hb d1 (by decide) ?_
  refine lv_aload_n hx hb d2 rfl (lv_at hle 0 rfl) ?_
  refine lv_iload_n hx hb d3 rfl (lv_at hle 1 rfl) ?_
  refine lv_iload_n hx hb d4 rfl (lv_at hle 2 rfl) ?_
  by_cases hT : T
  · have hMm := hno hT s.heap.size
    obtain ⟨Tn, kN, hci⟩ := hF.2.2.2
    have hrun := vx_runV (R := ab_rm 7 1 6) (As := [.int u, .int w]) (rest := [.int 0, .ref o]) (b := ab_a G 0) (C := N.1.cls) (locs := []) (below := below) (e := e) (meth := meth) (cells := 0) (slots := 0) (H := s.heap) (g := F0 m 5 ls [.int w, .int u, .ref (ab_a G 0), .int 0, .ref o]) ⟨hx, hb, hml, hown, hgw⟩ hMm ⟨callB_of 2 hgw (ab_gw_code hF.1) rfl rfl rfl (hgw _ hF.1.2.1) (hgw _ hlk) hF.1.2.2.1 ⟨by decide, by rw [hNb]; decide⟩, hgw _ hF.2.1, hgw _ hF.2.2.1⟩ ⟨xb_blind, va_recv hK.1 hP hci (ab_ws_obj (q := 0) (ci := 10) ⟨by rw [hn]; omega, rfl⟩ (by omega)), fun U hU hW => ⟨rfl, by rw [hU], by rw [hU]; exact hP, hD.weaken (fun _ _ _ _ => trivial), ab_K.warm hW hK, by rw [hU]; exact (hZ.narrow hAf).moved hW.alike, xw_K.warm hW hKx, by rw [hU]; exact (hTx.narrow hAf).moved hW.alike⟩⟩ rfl rfl hle.1 rfl (lv_room (Nat.le_of_ble_eq_true rfl)) d5 ⟨by decide, by decide⟩
    refine wl_X hrun hS hAf hAf (fun ce q9 H1 locs1 hP1 hz1 hk1 hS1 hce hcv hcl => ?_)
    refine cx_catch (own := RL) (name := nse) (E := nse) hown ⟨0, 10, 13, 13⟩ htab (by decide) (by decide) (hgw _ cl_lawnse) (va_Nw.use (xw_B_ot _ (List.mem_of_getElem? (i := 3) rfl)) (hKx.1 _ (List.mem_of_getElem? (i := 3) rfl))) hce hcv hcl ?_
    refine lv_astore (lv' := [(4, .ref q9), (0, .ref (ab_a G 0)), (1, .int u), (2, .int w), (3, .ref o)]) hx hb d13 hle (by decide) rfl (fun ls2 hl2 => ?_)
    refine lv_iconst (v := 1) hx hb d15 (by decide) ?_
    have hPo1 : va_P G.2.2.2 vwCl [(o, oc cL v)] H1 := hPo.kept (fun k q hq => by
      have hz : k < 1 := (List.getElem?_eq_some_iff.mp hq).1
      rw [show k = 0 by omega] at hq
      cases hq
      exact hk1 o hos hoA)
    exact W.iret (v := 1) hx hb hr (fun t ht _ => ⟨⟨1, v, rfl, Or.inl ⟨hT, rfl, rfl⟩, by rw [ht]; exact hP1, by rw [ht]; exact hPo1⟩, hS1.F ht⟩) hS1.2.2 d16 hlocks
  · refine wl_V (R := ab_rm 7 1 6) (tt := False) (d' := dd) (mc' := 0) (ms' := 0) (N := N) (av := [.int u, .int w]) (rest := [.int 0, .ref o]) (q := 0) (ci := 10) (σ := sX x) hI hle.1 d5 hlk hF ⟨by rw [hn]; omega, rfl⟩ (Nat.le_of_ble_eq_true rfl) ⟨by show dd + 1 ≤ 7; omega, by rw [hNb]; show 8 + (3 + 11) + (36 * dd + 20) ≤ 36 * 7 + 20; omega⟩ ⟨by decide, by decide⟩ hP hD hS (fun z => z.elim) (hok hT) (fun r σ' H1 locs1 hq hP1 hS1 _ hz1 hk1 => ?_)
    obtain ⟨rfl, rfl⟩ := hq
    refine lv_i2l (x := a) (v := a.toInt64) hx hb d8 rfl ?_
    have hPo1 : va_P G.2.2.2 vwCl [(o, oc cL v)] H1 := hPo.kept (fun k q hq => by
      have hz : k < 1 := (List.getElem?_eq_some_iff.mp hq).1
      rw [show k = 0 by omega] at hq
      cases hq
      exact hk1 o hos hoA)
    refine va_last (D := G.2.2.2) (cl := vwCl) (tys := [(cL, .long)]) (ws := ab_ws G (sX x) ++ [(o, oc cL v)]) (cA := cL) (n := 1) (f := fun _ => v) (i := 0) hx hb hKl (hP1.app hPo1) (xf_D ho) hS1 366 0 (by rw [List.getElem?_append_right (by rw [ab_ws_len]; exact Nat.le_refl _), ab_ws_len]; rfl) rfl (by unfold vp_in; decide) d9 (fun H2 locs2 hP2 _ hS2 => ?_)
    have es : (ab_ws G (sX x) ++ [(o, oc cL v)]).set 366 (o, .inl (cL, 1, .inr (.inl (vp_updL (fun _ => v) (0 : Int32).toNatClampNeg a.toInt64)))) = ab_ws G (sX x) ++ [(o, .inl (cL, 1, .inr (.inl (vp_updL (fun _ => v) (0 : Int32).toNatClampNeg a.toInt64))))] := by
      rw [List.set_append_right _ _ (by rw [ab_ws_len]; exact Nat.le_refl _), ab_ws_len]
      rfl
    rw [es] at hP2
    refine lv_goto (tgt := 17) hx hb d10 (by decide) ?_
    refine lv_iconst (v := 0) hx hb d17 (by decide) ?_
    refine W.widen (k := 1) (n := 6) (by omega) (by omega) ?_
    refine W.iret (v := 0) hx hb hr (fun t ht _ => ⟨⟨0, a.toInt64, rfl, Or.inr ⟨hT, rfl, rfl⟩, by rw [ht]; exact hP2.l, ?_⟩, hS2.F ht⟩) hS2.2.2 d18 hlocks
    rw [ht]
    intro k q hk
    have hz : k < 1 := (List.getElem?_eq_some_iff.mp hk).1
    rw [show k = 0 by omega] at hk
    cases hk
    have h9 := hP2.r 0 _ rfl
    have e9 : vp_cell cL (1, .inr (.inl (vp_updL (fun _ => v) (0 : Int32).toNatClampNeg a.toInt64))) = vp_cell cL (1, .inr (.inl (fun _ => a.toInt64))) := by
      rw [vp_cell_l, vp_cell_l, arrV, arrV]
      congr 2
      funext j
      have hj : j.val = 0 := by omega
      show Value.long (vp_updL (fun _ => v) (0 : Int32).toNatClampNeg a.toInt64 j.val) = _
      rw [hj]
      rfl
    show H2[o]? = some (vp_cell cL (1, .inr (.inl (fun _ => a.toInt64))))
    rw [← e9]
    exact h9

theorem hp_user {l : Launch} (hl : l.stackTraces = false) (G : ab_G) (cL : ClassId) (x : xD) (v : Int64) (u w : Int32) (o sz : Nat) (hD : ¬ uThrow u w → DX10_user u w x) (h2 : ¬ uThrow u w → (FX10_user u w x).2 = x) : Met l yL_user (Cond.codeWith yL_user cL_user 5 (some .int) [(0, 10, 13, 13)] :: gw) (ab_rm 7 1 6) (hp_Pc G cL x v u w o sz) (va_Qi (hp_post (uThrow u w) (FX10_user u w x).1 v) (hp_B G cL x o) (xf G o sz)) 1 6 (xf G o sz) :=
  hp_go (N := mX10_user) (idx := 7) (dd := 3) (by omega) G cL x v u w _ o sz (uThrow u w) rfl rfl rfl fv_X10_user ml_L_7 dL_user_0 dL_user_1 dL_user_2 dL_user_3 dL_user_4 dL_user_5 dL_user_8 dL_user_9 dL_user_10 dL_user_13 dL_user_15 dL_user_16 dL_user_17 dL_user_18 (fun hn => by
    have h := c_X10_user (tt := False) u w x (hD hn)
    have e : FX10_user u w x = ((FX10_user u w x).1, x) := Prod.ext rfl (h2 hn)
    rw [e] at h
    exact h) (fun hn sz => t_user hl G sz x hn)
theorem hp_disk {l : Launch} (hl : l.stackTraces = false) (G : ab_G) (cL : ClassId) (x : xD) (v : Int64) (u w : Int32) (o sz : Nat) (hD : ¬ dThrow u w → DX10_disk u w x) (h2 : ¬ dThrow u w → (FX10_disk u w x).2 = x) : Met l yL_disk (Cond.codeWith yL_disk cL_disk 5 (some .int) [(0, 10, 13, 13)] :: gw) (ab_rm 7 1 6) (hp_Pc G cL x v u w o sz) (va_Qi (hp_post (dThrow u w) (FX10_disk u w x).1 v) (hp_B G cL x o) (xf G o sz)) 1 6 (xf G o sz) :=
  hp_go (N := mX10_disk) (idx := 15) (dd := 0) (by omega) G cL x v u w _ o sz (dThrow u w) rfl rfl rfl fv_X10_disk ml_L_15 dL_disk_0 dL_disk_1 dL_disk_2 dL_disk_3 dL_disk_4 dL_disk_5 dL_disk_8 dL_disk_9 dL_disk_10 dL_disk_13 dL_disk_15 dL_disk_16 dL_disk_17 dL_disk_18 (fun hn => by
    have h := c_X10_disk (tt := False) u w x (hD hn)
    have e : FX10_disk u w x = ((FX10_disk u w x).1, x) := Prod.ext rfl (h2 hn)
    rw [e] at h
    exact h) (fun hn sz => t_disk hl G sz x hn)
