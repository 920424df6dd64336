/-! the law calls its helpers -/
theorem hp_blind {G : ab_G} {cL : ClassId} {x : xD} {v : Int64} {u w : Int32} {o sz : Nat} : FrameBlind (hp_Pc G cL x v u w o sz) := by
  intro a U g mk q
  obtain ⟨q0, q1, qP, qO, qK, qL, qZ, qX, qT, q2⟩ := q
  exact ⟨q0, q1, qP, qO, ab_K.same (s := U) (U := U.calling g mk a) rfl qK, va_K.moved (u := U) (U := U.calling g mk a) (Vm.Alike.refl U.vm) qL, ab_Z.moved (U := U.calling g mk a) (Vm.Alike.refl U.vm) qZ, xw_K.same (s := U) (U := U.calling g mk a) rfl qX, xw_T.moved (s := U) (U := U.calling g mk a) (Vm.Alike.refl U.vm) qT, q2⟩
section LWH
variable {l : Launch} {p : Program} {e : Env} {s : State} {m : MethodId} {below : List Frame} {meth : Method} {c : Code} {b L : Nat} {xs : Nat → Int32} {G : ab_G} {cL : ClassId} {kc ks pc : Nat} {lv : List (Nat × Value)} {st : List Value} {x : xD} {n : mD} {v : Int64}
set_option maxHeartbeats 4000000 in
theorem LW_H {yL : MethodName} {cx : ByteArray} {idx : Nat} {T : Prop} {a u w : Int32} (C : lwC l p s m meth c b L xs G cL) (hb' : kc ≤ 5000 ∧ ks ≤ 30000) (hd : decode code pc = .ok (.invokestatic idx, 3)) (hlk : Cond.methodLink RL idx yL ∈ gw) (hsm : Cond.static yL ∈ gw) (hcw : Cond.codeWith yL cx 5 (some .int) [(0, 10, 13, 13)] ∈ gw) (hyc : yL.cls = RL) (hds : (parseMethodDescriptor yL.desc).map (fun d => d.parameters.length) = some 4) (hst : (st.map fun v => v.category).sum ≤ 8)
    (hM : ∀ sz, Met l yL (Cond.codeWith yL cx 5 (some .int) [(0, 10, 13, 13)] :: gw) (ab_rm 7 1 6) (hp_Pc G cL x v u w (G.1 + 389) sz) (va_Qi (hp_post T a v) (hp_B G cL x (G.1 + 389)) (xf G (G.1 + 389) sz)) 1 6 (xf G (G.1 + 389) sz))
    (K : ∀ r v', hp_post T a v r v' → LW l p e s m below meth c b G cL (kc + 1) (ks + 6) (pc + 3) lv (.int r :: st) x n v') : LW l p e s m below meth c b G cL kc ks pc lv (.ref (G.1 + 389) :: .int w :: .int u :: .ref G.1 :: st) x n v := by
  intro H locs ls hs hl
  have hwi := C.wi G.1
  obtain ⟨hx, hb, hml, hown, hts, hA, hK, hZ⟩ := hwi
  obtain ⟨-, hL, -, -, hKl, -, hKx, hTx, hG⟩ := C
  have hm : (sM n).1 = 23 := rfl
  obtain ⟨hP, hQ, hO, hS, hz⟩ := hs
  have hfr : ∀ q, xf G (G.1 + 389) H.size q → s.heap.size ≤ q := fun q h => by
    rcases h with h | h | h
    · omega
    · omega
    · have := hS.1; omega
  have hT : GoodIn gw (va_wsS RL idx yL (Cond.codeWith yL cx 5 (some .int) [(0, 10, 13, 13)] :: gw)) := fun w' hw' => by
    refine ab_gw_good w' ?_
    simp only [va_wsS, List.cons_append, List.nil_append, List.mem_cons] at hw'
    rcases hw' with rfl | rfl | rfl | rfl | h
    · exact hlk
    · exact hsm
    · rw [hyc]; exact in_L
    · exact hcw
    · exact h
  have cw := vx_cwSW (R := room_1) (own := RL) (index := idx) (mc := 1) (ms := 6) (rm := ab_rm 7 1 6) 4 hts hT rfl rfl rfl ⟨by rw [hyc]; decide +kernel, by rw [hyc]; decide +kernel, hds⟩ ⟨by decide, by decide⟩
  refine va_calli (vx_runSW (l := l) (R := room_1) (e := e) (below := below) (meth := meth) (H := H) (locs := locs) (cells := kc) (slots := ks) (As := [.ref (ab_a G 0), .int u, .int w, .ref (G.1 + 389)]) (rest := st) (g := F0 m pc ls (.ref (G.1 + 389) :: .int w :: .int u :: .ref G.1 :: st)) ⟨hx, hb, hml, hown, hts⟩ (hM H.size) cw ⟨hp_blind, fun U hU hW => ⟨rfl, by rw [hU], by rw [hU]; exact hP, by rw [hU]; exact hO, ab_K.warm hW hK, va_K.moved hW.alike hKl, by rw [hU]; exact ((hZ.kept hS.2.1).narrow hfr).moved hW.alike, xw_K.warm hW hKx, by rw [hU]; exact ((hTx.kept hS.2.1).narrow hfr).moved hW.alike, by omega, by omega⟩⟩ rfl rfl hl.1 rfl (lv_room hst) hd ⟨by show kc + 1 ≤ 601024; omega, by show ks + 6 ≤ 7293034; omega⟩) hS (fun q _ h => hfr q h) hfr (fun r v' t H1 locs1 ht hvm hw hB hz1 hk1 hS1 => ?_)
  obtain ⟨hB1, hB2⟩ := hB
  rw [ht] at hB1 hB2
  refine K r v' hw H1 locs1 ls ⟨hB1, ab_keep (by rw [hm]; omega) hQ (fun q h1 h2 => ?_), hB2, hS1, by omega⟩ hl
  have h1 : G.1 + 366 ≤ q := h1
  have h2 : q < G.1 + 366 + (sM n).1 := h2
  rw [hm] at h2
  refine hk1 q (by omega) (fun h => ?_)
  rcases h with h | h | h <;> omega
end LWH
