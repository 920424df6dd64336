/-! ServerHouse.user and .disk where they throw -/
def xw_K (U : State) : Prop := (∀ w ∈ xw_B, va_Nw w U) ∧ (∃ a, vk_R RX10 95 "no such user" a U) ∧ (∃ a, vk_R RX10 126 "nothing such of a user" a U) ∧ ∃ a, vk_R RX10 148 "no such place on the disk" a U
def xw_T (A : Nat → Prop) (U : State) (H : Heap) : Prop := vx_Zq Bundle.tN "UNASSIGNED_STACK" Bundle.steD A U H ∧ vx_Zq Bundle.tN "SUPPRESSED_SENTINEL" Bundle.listD A U H
theorem xw_B_warm {s U : State} (hW : s.WarmedH U.vm) (h : ∀ w ∈ xw_B, va_Nw w s) : ∀ w ∈ xw_B, va_Nw w U := by
  have d : ∀ y : MethodName, va_Nw (.declares y) s → va_Nw (.declares y) U := fun y hy => va_tabs rfl (rfl : (s.setVm U.vm).vm = U.vm) (by rw [Cond.declares_setVm hW.alike]; exact hy)
  intro w hw
  have h1 := h w hw
  simp only [xw_B, List.mem_cons, List.not_mem_nil, or_false] at hw
  rcases hw with rfl | rfl | rfl | rfl
  · exact d _ h1
  · exact d _ h1
  · exact d _ h1
  · exact va_Nw.warmC hW h1
theorem xw_K.warm {s U : State} (hW : s.WarmedH U.vm) (h : xw_K s) : xw_K U := by
  obtain ⟨h0, ⟨a1, h1⟩, ⟨a2, h2⟩, ⟨a3, h3⟩⟩ := h
  exact ⟨xw_B_warm hW h0, ⟨a1, vk_R.warm hW h1⟩, ⟨a2, vk_R.warm hW h2⟩, ⟨a3, vk_R.warm hW h3⟩⟩
theorem xw_K.same {s U : State} (hv : s.vm = U.vm) (h : xw_K s) : xw_K U := by
  obtain ⟨h0, ⟨a1, h1⟩, ⟨a2, h2⟩, ⟨a3, h3⟩⟩ := h
  exact ⟨fun w hw => va_tabs (xw_B_ot w hw) hv (h0 w hw), ⟨a1, vk_R.same hv.symm h1⟩, ⟨a2, vk_R.same hv.symm h2⟩, ⟨a3, vk_R.same hv.symm h3⟩⟩
theorem xw_T.moved {A : Nat → Prop} {s U : State} {H : Heap} (ha : s.vm.Alike U.vm) (h : xw_T A s H) : xw_T A U H := ⟨h.1.moved ha, h.2.moved ha⟩
theorem xw_T.kept {A : Nat → Prop} {U : State} {H H1 : Heap} (h : xw_T A U H) (hq : ∀ a : Nat, a < H.size → ¬ A a → H1[a]? = H[a]?) : xw_T A U H1 := ⟨h.1.kept hq, h.2.kept hq⟩
theorem xw_T.narrow {A B : Nat → Prop} {U : State} {H : Heap} (h : xw_T A U H) (hAB : ∀ q, B q → A q) : xw_T B U H := ⟨h.1.narrow hAB, h.2.narrow hAB⟩
/-- what is thrown, and that nothing else is changed -/
def xb_X (G : ab_G) (σ : ab_S) (A : Nat → Prop) : String → State → State → Prop := fun E st t => E = nse ∧ va_P G.2.2.2 vwCl (ab_ws G σ) t.heap ∧ va_F A st t
def xb_Pc (G : ab_G) (av : List Value) (σ : ab_S) (sz : Nat) : Array Value → State → Prop := va_Pc (av.map (ab_c G)) (fun U => U.heap.size = sz ∧ va_P G.2.2.2 vwCl (ab_ws G σ) U.heap ∧ va_D (fun _ => True) (ab_ws G σ) ∧ ab_K G U ∧ ab_Z G (va_A (ab_ws G σ) sz) U U.heap ∧ xw_K U ∧ xw_T (va_A (ab_ws G σ) sz) U U.heap)
section THX
variable {p : Program} {l : Launch} {e : Env} {s : State} {m : MethodId} {args : Array Value} {below : List Frame} {meth : Method} {c : Code} {H : Heap} {locs : List Loc} {ls : Array Slot} {G : ab_G} {A : Nat → Prop} {σ : ab_S}
theorem th_at {cc : ByteArray} {nL pc is sa : Nat} {text : String} (hl : l.stackTraces = false) (hI : wI cc nL RX10 G A p s m args c) (hKx : xw_K s) (hTx : xw_T A s s.heap) (hstr : vk_R RX10 is text sa s) (hP : va_P G.2.2.2 vwCl (ab_ws G σ) H) (hS : va_S A s.heap H locs) (hsize : ls.size = nL)
    (d0 : decode cc pc = .ok (.new 93, 3)) (d3 : decode cc (pc + 3) = .ok (.dup, 1)) (d4 : decode cc (pc + 4) = .ok (.ldc is, 2)) (d6 : decode cc (pc + 6) = .ok (.invokespecial 97, 3)) (d9 : decode cc (pc + 9) = .ok (.athrow, 1)) (htab : ∀ x ∈ c.exceptionTable.toList, False) (hlocks : meth.locks = false) :
    W p l e (ab_rm 6 1 6) s m args below meth c H locs 0 0 (vx_MQ below (fun _ _ _ _ => False) (xb_X G σ A) args s 1 6 A) (F0 m pc ls []) := by
  obtain ⟨hx, hb, hml, hown, hts, hA, hK, hZ⟩ := hI
  refine cx_throw (own := RX10) (cls := nse) (sup := rte) (ix := 13) (by0 := prog_19_method_4_code) (names := [exc]) (ik := 93) (is := is) (ic := 97) (A := A) (sa := sa) (text := text) hx hb hl hown (by decide +kernel) (by decide +kernel) (by decide +kernel) (by decide +kernel) (by decide +kernel) (by decide +kernel) (by decide +kernel) (hts _ cl_nse) (hts _ in_nse) hstr (fun w hw => ?_) cx_good hTx.1 hTx.2 hS (hsize.trans hml.symm) d0 d3 d4 d6 d9 (fun x hx => (htab x hx).elim) (by decide) (by decide) (by decide) (by decide) hlocks (fun t hv hz hk => ⟨rfl, hP.kept (fun k y hy => hk _ ((hP k y hy).lt)), Nat.le_trans hS.1 hz, fun q h1 h2 => (hk q (Nat.lt_of_lt_of_le h1 hS.1)).trans (hS.2.1 q h1 h2)⟩) hS.2.2 (by decide) (by decide)
  rcases cx_in w hw with h | h
  · exact hts w h
  · exact va_Nw.use (A := args) (xw_B_ot w h) (hKx.1 w h)
end THX
theorem toI_out {w : Int32} (h : w < 0 ∨ nI 6 < w) : w.toInt < 0 ∨ 6 < w.toInt := by
  rcases h with h | h
  · exact Or.inl (by have := Int32.lt_iff_toInt_lt.mp h; simpa using this)
  · refine Or.inr ?_
    have h6 : (nI 6).toInt = 6 := by decide
    have := Int32.lt_iff_toInt_lt.mp h
    rw [h6] at this
    exact this
set_option maxHeartbeats 4000000 in
theorem t_user {l : Launch} (hl : l.stackTraces = false) (G : ab_G) (sz : Nat) (x : xD) {u w : Int32} (hn : uThrow u w) : vx_Met l yX10_user (Cond.code yX10_user cX10_user 3 (some .int) :: gw) (ab_rm 6 1 6) (xb_Pc G [.ref (0 : Nat), .int u, .int w] (sX x) sz) (fun _ _ _ _ => False) (xb_X G (sX x) (va_A (ab_ws G (sX x)) sz)) 1 6 (va_A (ab_ws G (sX x)) sz) := by
  refine vx_ofW (cc := cX10_user) (maxL := 3) (ret := some .int) rfl rfl ?_
  intro p e s m args below meth c s₁ B hml htab hv
  obtain ⟨rfl, hsz, hP, hD, hK, hZ, hKx, hTx⟩ := hv
  subst hsz
  have hts := atoms_spec (ws := Cond.code yX10_user cX10_user 3 (some .int) :: gw) B.pre
  have hx := B.exec
  have hb := B.bytes
  have hI : wI cX10_user 3 RX10 G (va_A (ab_ws G (sX x)) s.heap.size) p s m ([.ref (0 : Nat), .int u, .int w].map (ab_c G)).toArray c := ⟨hx, hb, hml, findClass_of_methodNamed B.named, fun w hw => hts w (List.mem_cons_of_mem _ hw), fun q hq => Or.inr hq, hK, hZ⟩
  have hle := lv_entry ([.ref (0 : Nat), .int u, .int w].map (ab_c G)) (n := 3) (Nat.le_of_ble_eq_true rfl)
  rw [lg_entry_eq]
  generalize (lg_sl ([.ref (0 : Nat), .int u, .int w].map (ab_c G)) ++ List.replicate (3 - (lg_sl ([.ref (0 : Nat), .int u, .int w].map (ab_c G))).length) Slot.unset).toArray = ls at hle ⊢
  have hle : lv_has ls 3 [(0, .ref (ab_a G 0)), (1, .int u), (2, .int w)] := hle
  refine lv_iload_n hx hb dX10_user_0 rfl (lv_at hle 1 rfl) ?_
  refine wl_S (tt := False) (d' := 0) (mc' := 0) (ms' := 0) (N := mX10_isUser) (av := [.int u]) (rest := []) hI hle.1 dX10_user_1 ml_X10_61 fs_X10_isUser (Nat.le_of_ble_eq_true rfl) ⟨by decide, by decide⟩ ⟨by decide, by decide⟩ hP hD.self va_S.rf (fun z => z.elim) (c_X10_isUser u x trivial) (fun r σ' H1 locs1 hq hP1 hS1 _ _ _ => ?_)
  obtain ⟨rfl, rfl⟩ := hq
  refine lv_if_ne (x := FX10_isUser u) (tgt := 17) hx hb dX10_user_4 (by decide) (fun c4 => ?_) (fun c4 => ?_)
  · refine lv_iload_n hx hb dX10_user_17 rfl (lv_at hle 2 rfl) ?_
    refine lv_tableOut (tgt := 160) hx hb dX10_user_18 (toI_out ?_) (by decide) ?_
    · rcases hn with z | z | z
      · exact absurd z c4
      · exact Or.inl z
      · exact Or.inr z
    · obtain ⟨sa, hsa⟩ := hKx.2.2.1
      exact th_at (is := 126) hl hI hKx hTx hsa hP1 hS1 hle.1 dX10_user_160 dX10_user_163 dX10_user_164 dX10_user_166 dX10_user_169 htab B.notSynchronized
  · obtain ⟨sa, hsa⟩ := hKx.2.1
    exact th_at (is := 95) hl hI hKx hTx hsa hP1 hS1 hle.1 dX10_user_7 dX10_user_10 dX10_user_11 dX10_user_13 dX10_user_16 htab B.notSynchronized
set_option maxHeartbeats 4000000 in
theorem t_disk {l : Launch} (hl : l.stackTraces = false) (G : ab_G) (sz : Nat) (x : xD) {u w : Int32} (hn : dThrow u w) : vx_Met l yX10_disk (Cond.code yX10_disk cX10_disk 3 (some .int) :: gw) (ab_rm 6 1 6) (xb_Pc G [.ref (0 : Nat), .int u, .int w] (sX x) sz) (fun _ _ _ _ => False) (xb_X G (sX x) (va_A (ab_ws G (sX x)) sz)) 1 6 (va_A (ab_ws G (sX x)) sz) := by
  refine vx_ofW (cc := cX10_disk) (maxL := 3) (ret := some .int) rfl rfl ?_
  intro p e s m args below meth c s₁ B hml htab hv
  obtain ⟨rfl, hsz, hP, hD, hK, hZ, hKx, hTx⟩ := hv
  subst hsz
  have hts := atoms_spec (ws := Cond.code yX10_disk cX10_disk 3 (some .int) :: gw) B.pre
  have hx := B.exec
  have hb := B.bytes
  have hI : wI cX10_disk 3 RX10 G (va_A (ab_ws G (sX x)) s.heap.size) p s m ([.ref (0 : Nat), .int u, .int w].map (ab_c G)).toArray c := ⟨hx, hb, hml, findClass_of_methodNamed B.named, fun w hw => hts w (List.mem_cons_of_mem _ hw), fun q hq => Or.inr hq, hK, hZ⟩
  have hle := lv_entry ([.ref (0 : Nat), .int u, .int w].map (ab_c G)) (n := 3) (Nat.le_of_ble_eq_true rfl)
  rw [lg_entry_eq]
  generalize (lg_sl ([.ref (0 : Nat), .int u, .int w].map (ab_c G)) ++ List.replicate (3 - (lg_sl ([.ref (0 : Nat), .int u, .int w].map (ab_c G))).length) Slot.unset).toArray = ls at hle ⊢
  have hle : lv_has ls 3 [(0, .ref (ab_a G 0)), (1, .int u), (2, .int w)] := hle
  obtain ⟨sa, hsa⟩ := hKx.2.2.2
  have hT := th_at (below := below) (e := e) (σ := sX x) (is := 148) (pc := 20) (ls := ls) hl hI hKx hTx hsa hP va_S.rf hle.1 dX10_disk_20 dX10_disk_23 dX10_disk_24 dX10_disk_26 dX10_disk_29 htab B.notSynchronized
  refine lv_iload_n hx hb dX10_disk_0 rfl (lv_at hle 1 rfl) ?_
  refine lv_if_lt (tgt := 20) hx hb dX10_disk_1 (by decide) (fun _ => hT) (fun c1 => ?_)
  refine lv_iload_n hx hb dX10_disk_4 rfl (lv_at hle 1 rfl) ?_
  refine lv_bipush (v := nI 24) hx hb dX10_disk_5 (by decide) ?_
  refine lv_icmp_ge (tgt := 20) hx hb dX10_disk_7 (by decide) (fun _ => hT) (fun c2 => ?_)
  refine lv_iload_n hx hb dX10_disk_10 rfl (lv_at hle 2 rfl) ?_
  refine lv_if_lt (tgt := 20) hx hb dX10_disk_11 (by decide) (fun _ => hT) (fun c3 => ?_)
  refine lv_iload_n hx hb dX10_disk_14 rfl (lv_at hle 2 rfl) ?_
  refine lv_bipush (v := nI 8) hx hb dX10_disk_15 (by decide) ?_
  refine lv_icmp_lt (tgt := 30) hx hb dX10_disk_17 (by decide) (fun c4 => ?_) (fun _ => hT)
  exfalso
  rcases hn with z | z | z | z
  · exact c1 z
  · exact c2 z
  · exact c3 z
  · exact absurd c4 (Int32.not_lt.mpr z)
