/-! THE LAW's CASES -/
abbrev lvI (b : Nat) (G : ab_G) (i : Nat) : List (Nat × Value) := [(0, .ref b), (1, .ref G.1), (2, .ref (G.1 + 366)), (3, .ref (G.1 + 389)), (4, .int (nI i))]
section LWO
variable {l : Launch} {p : Program} {e : Env} {s : State} {m : MethodId} {below : List Frame} {meth : Method} {c : Code} {b L : Nat} {xs : Nat → Int32} {G : ab_G} {cL : ClassId} {kc ks pc : Nat} {lv : List (Nat × Value)} {st : List Value} {x : xD} {n : mD} {v : Int64}
theorem LW_sub {lv' : List (Nat × Value)} (hs : ∀ ls, lv_has ls 7 lv → lv_has ls 7 lv') (K : LW l p e s m below meth c b G cL kc ks pc lv' st x n v) : LW l p e s m below meth c b G cL kc ks pc lv st x n v := fun H locs ls h hl => K H locs ls h (hs ls hl)
theorem LW_ne {a : Int32} {off : Int} {tgt : Nat} (C : lwC l p s m meth c b L xs G cL) (d0 : decode code pc = .ok (.ifCond .ne off, 3)) (ht : (pc : Int) + off = (tgt : Int)) (kt : ¬ a = 0 → LW l p e s m below meth c b G cL kc ks tgt lv st x n v) (kf : a = 0 → LW l p e s m below meth c b G cL kc ks (pc + 3) lv st x n v) : LW l p e s m below meth c b G cL kc ks pc lv (.int a :: st) x n v := by
  intro H locs ls hs hl
  obtain ⟨⟨hx, hb, -⟩, -⟩ := C
  exact lv_if_ne hx hb d0 ht (fun h => kt h H locs ls hs hl) (fun h => kf (by simpa using h) H locs ls hs hl)
/-- out[0] against the reference's answer -/
theorem LW_out {a : Int32} {off : Int} {tgt : Nat} (C : lwC l p s m meth c b L xs G cL) (p3 p6 : Nat) (e3 : lv[p3]? = some (3, .ref (G.1 + 389))) (e6 : lv[p6]? = some (6, .int a)) (hv : v = a.toInt64) (d0 : decode code pc = .ok (.aload_n 3, 1)) (d1 : decode code (pc + 1) = .ok (.iconst 0, 1)) (d2 : decode code (pc + 2) = .ok (.laload, 1)) (d3 : decode code (pc + 3) = .ok (.iload 6, 2)) (d5 : decode code (pc + 5) = .ok (.i2l, 1)) (d6 : decode code (pc + 6) = .ok (.lcmp, 1)) (d7 : decode code (pc + 7) = .ok (.ifCond .eq off, 3)) (ht : ((pc + 7 : Nat) : Int) + off = (tgt : Int))
    (K : LW l p e s m below meth c b G cL kc ks tgt lv st x n v) : LW l p e s m below meth c b G cL kc ks pc lv st x n v := by
  intro H locs ls hs hl
  have hKl := C.2.2.2.2.1
  obtain ⟨⟨hx, hb, -⟩, -⟩ := C
  refine lv_aload_n hx hb d0 rfl (lv_at hl p3 e3) ?_
  refine lv_iconst (v := 0) hx hb d1 (by decide) ?_
  refine va_lald (D := G.2.2.2) (cl := vwCl) (tys := [(cL, .long)]) (ws := [(G.1 + 389, oc cL v)]) (cA := cL) (n := 1) (f := fun _ => v) (i := 0) hx hb hKl hs.2.2.1 0 0 rfl rfl (by unfold vp_in; decide) d2 ?_
  refine lv_iload hx hb d3 (lv_at hl p6 e6) ?_
  refine lv_i2l (x := a) (v := a.toInt64) hx hb d5 rfl ?_
  refine W.lcmp hx hb d6 ?_
  refine lv_if_eq hx hb d7 ht (fun _ => K H locs ls hs hl) (fun h => absurd ?_ h)
  show lg_cmp v a.toInt64 = 0
  rw [hv, lg_cmp, if_neg (show ¬ a.toInt64 > a.toInt64 from Int64.lt_irrefl), if_pos rfl]
variable {i S : Nat}
set_option maxHeartbeats 4000000 in
theorem op_call (C : lwC l p s m meth c b L xs G cL) (hb' : kc ≤ 4000 ∧ ks ≤ 29000) (hi : i + 4 < L) (h : JJ S x n) (hS : S + 20000 < 1000000000) (K : ∀ (x' : xD) (n' : mD) (v' : Int64), JJ (S + 20000) x' n' → LW l p e s m below meth c b G cL (kc + 1) (ks + 6) 611 (lvI b G i) [] x' n' v') : LW l p e s m below meth c b G cL kc ks 104 (lvI b G i) [] x n v := by
  have hb1 : kc ≤ 5000 ∧ ks ≤ 30000 := ⟨by omega, by omega⟩
  obtain ⟨d1, d2, e1, h1⟩ := JJ.call (a := xs (i + 1)) (b := xs (i + 2)) (c := xs (i + 3)) (d := xs (i + 4)) h
  refine LW_ld (j := 0) C 1 rfl rfl dL_law_104 ?_
  refine LW_arg (k := 1) C 0 4 rfl rfl (by omega) dL_law_105 dL_law_106 dL_law_108 (by decide) dL_law_109 dL_law_110 ?_
  refine LW_arg (k := 2) C 0 4 rfl rfl (by omega) dL_law_111 dL_law_112 dL_law_114 (by decide) dL_law_115 dL_law_116 ?_
  refine LW_arg (k := 3) C 0 4 rfl rfl (by omega) dL_law_117 dL_law_118 dL_law_120 (by decide) dL_law_121 dL_law_122 ?_
  refine LW_arg (k := 4) C 0 4 rfl rfl (by omega) dL_law_123 dL_law_124 dL_law_126 (by decide) dL_law_127 dL_law_128 ?_
  refine LW_X (N := mX10_call) (d' := 3) (av := [.int (xs (i + 1)), .int (xs (i + 2)), .int (xs (i + 3)), .int (xs (i + 4))]) C hb1 dL_law_129 ml_L_22 fv_X10_call (Nat.le_of_ble_eq_true rfl) ⟨by decide, by decide⟩ rfl (c_X10_call _ _ _ _ x d1) ?_
  refine LW_ld (j := 0) C 2 rfl rfl dL_law_132 ?_
  refine LW_arg (k := 1) C 0 4 rfl rfl (by omega) dL_law_133 dL_law_134 dL_law_136 (by decide) dL_law_137 dL_law_138 ?_
  refine LW_arg (k := 2) C 0 4 rfl rfl (by omega) dL_law_139 dL_law_140 dL_law_142 (by decide) dL_law_143 dL_law_144 ?_
  refine LW_arg (k := 3) C 0 4 rfl rfl (by omega) dL_law_145 dL_law_146 dL_law_148 (by decide) dL_law_149 dL_law_150 ?_
  refine LW_arg (k := 4) C 0 4 rfl rfl (by omega) dL_law_151 dL_law_152 dL_law_154 (by decide) dL_law_155 dL_law_156 ?_
  refine LW_M (N := mX11_call) (d' := 3) (av := [.int (xs (i + 1)), .int (xs (i + 2)), .int (xs (i + 3)), .int (xs (i + 4))]) C hb1 dL_law_157 ml_L_26 fv_X11_call (Nat.le_of_ble_eq_true rfl) ⟨by decide, by decide⟩ rfl (c_call _ _ _ _ n d2) ?_
  exact LW_eq C e1 dL_law_160 (by decide) (LW_wide (by omega) (by omega) (K _ _ v (h1.mono (by omega))))
set_option maxHeartbeats 4000000 in
theorem op_steps (C : lwC l p s m meth c b L xs G cL) (hb' : kc ≤ 4000 ∧ ks ≤ 29000) (hi : i + 4 < L) (h : JJ S x n) (hS : S + 20000 < 1000000000) (K : ∀ (x' : xD) (n' : mD) (v' : Int64), JJ (S + 20000) x' n' → LW l p e s m below meth c b G cL (kc + 1) (ks + 6) 611 (lvI b G i) [] x' n' v') : LW l p e s m below meth c b G cL kc ks 165 (lvI b G i) [] x n v := by
  have hb1 : kc ≤ 5000 ∧ ks ≤ 30000 := ⟨by omega, by omega⟩
  obtain ⟨d1, d2, e1, h1⟩ := steps_rel (w := xs (i + 1)) h hS
  refine LW_ld (j := 0) C 1 rfl rfl dL_law_165 ?_
  refine LW_arg (k := 1) C 0 4 rfl rfl (by omega) dL_law_166 dL_law_167 dL_law_169 (by decide) dL_law_170 dL_law_171 ?_
  refine LW_X (N := mX10_steps) (d' := 6) (av := [.int (xs (i + 1))]) C hb1 dL_law_172 ml_L_27 fv_X10_steps (Nat.le_of_ble_eq_true rfl) ⟨by decide, by decide⟩ rfl (c_X10_steps _ x d1) ?_
  refine LW_ld (j := 0) C 2 rfl rfl dL_law_175 ?_
  refine LW_arg (k := 1) C 0 4 rfl rfl (by omega) dL_law_176 dL_law_177 dL_law_179 (by decide) dL_law_180 dL_law_181 ?_
  refine LW_M (N := mX11_steps) (d' := 9) (av := [.int (xs (i + 1))]) C hb1 dL_law_182 ml_L_31 fv_X11_steps (Nat.le_of_ble_eq_true rfl) ⟨by decide, by decide⟩ rfl (c_steps _ n d2) ?_
  exact LW_eq C e1 dL_law_185 (by decide) (LW_wide (by omega) (by omega) (K _ _ v (h1.mono (by omega))))
set_option maxHeartbeats 4000000 in
theorem op_until (C : lwC l p s m meth c b L xs G cL) (hb' : kc ≤ 4000 ∧ ks ≤ 29000) (hi : i + 4 < L) (h : JJ S x n) (hS : S + 20000 < 1000000000) (K : ∀ (x' : xD) (n' : mD) (v' : Int64), JJ (S + 20000) x' n' → LW l p e s m below meth c b G cL (kc + 1) (ks + 6) 611 (lvI b G i) [] x' n' v') : LW l p e s m below meth c b G cL kc ks 190 (lvI b G i) [] x n v := by
  have hb1 : kc ≤ 5000 ∧ ks ≤ 30000 := ⟨by omega, by omega⟩
  obtain ⟨d1, d2, e1, h1⟩ := until_rel (u := xs (i + 1)) (w := xs (i + 2)) h hS
  refine LW_ld (j := 0) C 1 rfl rfl dL_law_190 ?_
  refine LW_arg (k := 1) C 0 4 rfl rfl (by omega) dL_law_191 dL_law_192 dL_law_194 (by decide) dL_law_195 dL_law_196 ?_
  refine LW_arg (k := 2) C 0 4 rfl rfl (by omega) dL_law_197 dL_law_198 dL_law_200 (by decide) dL_law_201 dL_law_202 ?_
  refine LW_X (N := mX10_until) (d' := 6) (av := [.int (xs (i + 1)), .int (xs (i + 2))]) C hb1 dL_law_203 ml_L_32 fv_X10_until (Nat.le_of_ble_eq_true rfl) ⟨by decide, by decide⟩ rfl (c_X10_until _ _ x d1) ?_
  refine LW_ld (j := 0) C 2 rfl rfl dL_law_206 ?_
  refine LW_arg (k := 1) C 0 4 rfl rfl (by omega) dL_law_207 dL_law_208 dL_law_210 (by decide) dL_law_211 dL_law_212 ?_
  refine LW_arg (k := 2) C 0 4 rfl rfl (by omega) dL_law_213 dL_law_214 dL_law_216 (by decide) dL_law_217 dL_law_218 ?_
  refine LW_M (N := mX11_until) (d' := 9) (av := [.int (xs (i + 1)), .int (xs (i + 2))]) C hb1 dL_law_219 ml_L_35 fv_X11_until (Nat.le_of_ble_eq_true rfl) ⟨by decide, by decide⟩ rfl (c_until _ _ n d2) ?_
  exact LW_eq C e1 dL_law_222 (by decide) (LW_wide (by omega) (by omega) (K _ _ v (h1.mono (by omega))))
set_option maxHeartbeats 4000000 in
theorem op_crash (C : lwC l p s m meth c b L xs G cL) (hb' : kc ≤ 4000 ∧ ks ≤ 29000) (hi : i + 4 < L) (h : JJ S x n) (hS : S + 20000 < 1000000000) (K : ∀ (x' : xD) (n' : mD) (v' : Int64), JJ (S + 20000) x' n' → LW l p e s m below meth c b G cL (kc + 1) (ks + 6) 611 (lvI b G i) [] x' n' v') : LW l p e s m below meth c b G cL kc ks 227 (lvI b G i) [] x n v := by
  have hb1 : kc ≤ 5000 ∧ ks ≤ 30000 := ⟨by omega, by omega⟩
  obtain ⟨d1, e1, h1⟩ := JJ.crash h
  refine LW_ld (j := 0) C 1 rfl rfl dL_law_227 ?_
  refine LW_X (N := mX10_crash) (d' := 3) (av := []) C hb1 dL_law_228 ml_L_36 fv_X10_crash (Nat.le_of_ble_eq_true rfl) ⟨by decide, by decide⟩ rfl (c_X10_crash x d1) ?_
  refine LW_ld (j := 0) C 2 rfl rfl dL_law_231 ?_
  refine LW_M (N := mX11_crash) (d' := 1) (av := []) C hb1 dL_law_232 ml_L_40 fv_X11_crash (Nat.le_of_ble_eq_true rfl) ⟨by decide, by decide⟩ rfl (c_crash n trivial) ?_
  exact LW_eq C e1 dL_law_235 (by decide) (LW_wide (by omega) (by omega) (K _ _ v (h1.mono (by omega))))
set_option maxHeartbeats 4000000 in
theorem op_hang (C : lwC l p s m meth c b L xs G cL) (hb' : kc ≤ 4000 ∧ ks ≤ 29000) (hi : i + 4 < L) (h : JJ S x n) (hS : S + 20000 < 1000000000) (K : ∀ (x' : xD) (n' : mD) (v' : Int64), JJ (S + 20000) x' n' → LW l p e s m below meth c b G cL (kc + 1) (ks + 6) 611 (lvI b G i) [] x' n' v') : LW l p e s m below meth c b G cL kc ks 240 (lvI b G i) [] x n v := by
  have hb1 : kc ≤ 5000 ∧ ks ≤ 30000 := ⟨by omega, by omega⟩
  obtain ⟨e1, h1⟩ := JJ.hang h
  refine LW_ld (j := 0) C 1 rfl rfl dL_law_240 ?_
  refine LW_X (N := mX10_hang) (d' := 0) (av := []) C hb1 dL_law_241 ml_L_41 fv_X10_hang (Nat.le_of_ble_eq_true rfl) ⟨by decide, by decide⟩ rfl (c_X10_hang x trivial) ?_
  refine LW_ld (j := 0) C 2 rfl rfl dL_law_244 ?_
  refine LW_M (N := mX11_hang) (d' := 0) (av := []) C hb1 dL_law_245 ml_L_44 fv_X11_hang (Nat.le_of_ble_eq_true rfl) ⟨by decide, by decide⟩ rfl (c_hang n trivial) ?_
  exact LW_eq C e1 dL_law_248 (by decide) (LW_wide (by omega) (by omega) (K _ _ v (h1.mono (by omega))))
set_option maxHeartbeats 4000000 in
theorem op_force (C : lwC l p s m meth c b L xs G cL) (hb' : kc ≤ 4000 ∧ ks ≤ 29000) (hi : i + 4 < L) (h : JJ S x n) (hS : S + 20000 < 1000000000) (K : ∀ (x' : xD) (n' : mD) (v' : Int64), JJ (S + 20000) x' n' → LW l p e s m below meth c b G cL (kc + 1) (ks + 6) 611 (lvI b G i) [] x' n' v') : LW l p e s m below meth c b G cL kc ks 253 (lvI b G i) [] x n v := by
  have hb1 : kc ≤ 5000 ∧ ks ≤ 30000 := ⟨by omega, by omega⟩
  obtain ⟨d1, d2, e1, h1⟩ := JJ.force (a := xs (i + 1)) (b := xs (i + 2)) h
  refine LW_ld (j := 0) C 1 rfl rfl dL_law_253 ?_
  refine LW_arg (k := 1) C 0 4 rfl rfl (by omega) dL_law_254 dL_law_255 dL_law_257 (by decide) dL_law_258 dL_law_259 ?_
  refine LW_arg (k := 2) C 0 4 rfl rfl (by omega) dL_law_260 dL_law_261 dL_law_263 (by decide) dL_law_264 dL_law_265 ?_
  refine LW_X (N := mX10_force) (d' := 3) (av := [.int (xs (i + 1)), .int (xs (i + 2))]) C hb1 dL_law_266 ml_L_45 fv_X10_force (Nat.le_of_ble_eq_true rfl) ⟨by decide, by decide⟩ rfl (c_X10_force _ _ x d1) ?_
  refine LW_ld (j := 0) C 2 rfl rfl dL_law_269 ?_
  refine LW_arg (k := 1) C 0 4 rfl rfl (by omega) dL_law_270 dL_law_271 dL_law_273 (by decide) dL_law_274 dL_law_275 ?_
  refine LW_arg (k := 2) C 0 4 rfl rfl (by omega) dL_law_276 dL_law_277 dL_law_279 (by decide) dL_law_280 dL_law_281 ?_
  refine LW_M (N := mX11_force) (d' := 3) (av := [.int (xs (i + 1)), .int (xs (i + 2))]) C hb1 dL_law_282 ml_L_48 fv_X11_force (Nat.le_of_ble_eq_true rfl) ⟨by decide, by decide⟩ rfl (c_force _ _ n d2) ?_
  exact LW_eq C e1 dL_law_285 (by decide) (LW_wide (by omega) (by omega) (K _ _ v (h1.mono (by omega))))
set_option maxHeartbeats 4000000 in
theorem op_descriptor (C : lwC l p s m meth c b L xs G cL) (hb' : kc ≤ 4000 ∧ ks ≤ 29000) (hi : i + 4 < L) (h : JJ S x n) (hS : S + 20000 < 1000000000) (K : ∀ (x' : xD) (n' : mD) (v' : Int64), JJ (S + 20000) x' n' → LW l p e s m below meth c b G cL (kc + 1) (ks + 6) 611 (lvI b G i) [] x' n' v') : LW l p e s m below meth c b G cL kc ks 358 (lvI b G i) [] x n v := by
  have hb1 : kc ≤ 5000 ∧ ks ≤ 30000 := ⟨by omega, by omega⟩
  obtain ⟨d1, d2, e1, h1⟩ := JJ.descriptor (a := xs (i + 1)) (b := xs (i + 2)) (c := xs (i + 3)) h
  refine LW_ld (j := 0) C 1 rfl rfl dL_law_358 ?_
  refine LW_arg (k := 1) C 0 4 rfl rfl (by omega) dL_law_359 dL_law_360 dL_law_362 (by decide) dL_law_363 dL_law_364 ?_
  refine LW_arg (k := 2) C 0 4 rfl rfl (by omega) dL_law_365 dL_law_366 dL_law_368 (by decide) dL_law_369 dL_law_370 ?_
  refine LW_arg (k := 3) C 0 4 rfl rfl (by omega) dL_law_371 dL_law_372 dL_law_374 (by decide) dL_law_375 dL_law_376 ?_
  refine LW_X (N := mX10_descriptor) (d' := 3) (av := [.int (xs (i + 1)), .int (xs (i + 2)), .int (xs (i + 3))]) C hb1 dL_law_377 ml_L_59 fv_X10_descriptor (Nat.le_of_ble_eq_true rfl) ⟨by decide, by decide⟩ rfl (c_X10_descriptor _ _ _ x d1) ?_
  refine LW_ld (j := 0) C 2 rfl rfl dL_law_380 ?_
  refine LW_arg (k := 1) C 0 4 rfl rfl (by omega) dL_law_381 dL_law_382 dL_law_384 (by decide) dL_law_385 dL_law_386 ?_
  refine LW_arg (k := 2) C 0 4 rfl rfl (by omega) dL_law_387 dL_law_388 dL_law_390 (by decide) dL_law_391 dL_law_392 ?_
  refine LW_arg (k := 3) C 0 4 rfl rfl (by omega) dL_law_393 dL_law_394 dL_law_396 (by decide) dL_law_397 dL_law_398 ?_
  refine LW_M (N := mX11_descriptor) (d' := 1) (av := [.int (xs (i + 1)), .int (xs (i + 2)), .int (xs (i + 3))]) C hb1 dL_law_399 ml_L_63 fv_X11_descriptor (Nat.le_of_ble_eq_true rfl) ⟨by decide, by decide⟩ rfl (c_descriptor _ _ _ n d2) ?_
  exact LW_eq C e1 dL_law_402 (by decide) (LW_wide (by omega) (by omega) (K _ _ v (h1.mono (by omega))))
set_option maxHeartbeats 4000000 in
theorem op_file (C : lwC l p s m meth c b L xs G cL) (hb' : kc ≤ 4000 ∧ ks ≤ 29000) (hi : i + 4 < L) (h : JJ S x n) (hS : S + 20000 < 1000000000) (K : ∀ (x' : xD) (n' : mD) (v' : Int64), JJ (S + 20000) x' n' → LW l p e s m below meth c b G cL (kc + 1) (ks + 6) 611 (lvI b G i) [] x' n' v') : LW l p e s m below meth c b G cL kc ks 407 (lvI b G i) [] x n v := by
  have hb1 : kc ≤ 5000 ∧ ks ≤ 30000 := ⟨by omega, by omega⟩
  obtain ⟨d1, d2, e1, h1⟩ := JJ.file (a := xs (i + 1)) (b := xs (i + 2)) h
  refine LW_ld (j := 0) C 1 rfl rfl dL_law_407 ?_
  refine LW_arg (k := 1) C 0 4 rfl rfl (by omega) dL_law_408 dL_law_409 dL_law_411 (by decide) dL_law_412 dL_law_413 ?_
  refine LW_arg (k := 2) C 0 4 rfl rfl (by omega) dL_law_414 dL_law_415 dL_law_417 (by decide) dL_law_418 dL_law_419 ?_
  refine LW_X (N := mX10_file) (d' := 2) (av := [.int (xs (i + 1)), .int (xs (i + 2))]) C hb1 dL_law_420 ml_L_64 fv_X10_file (Nat.le_of_ble_eq_true rfl) ⟨by decide, by decide⟩ rfl (c_X10_file _ _ x d1) ?_
  refine LW_ld (j := 0) C 2 rfl rfl dL_law_423 ?_
  refine LW_arg (k := 1) C 0 4 rfl rfl (by omega) dL_law_424 dL_law_425 dL_law_427 (by decide) dL_law_428 dL_law_429 ?_
  refine LW_arg (k := 2) C 0 4 rfl rfl (by omega) dL_law_430 dL_law_431 dL_law_433 (by decide) dL_law_434 dL_law_435 ?_
  refine LW_M (N := mX11_file) (d' := 0) (av := [.int (xs (i + 1)), .int (xs (i + 2))]) C hb1 dL_law_436 ml_L_67 fv_X11_file (Nat.le_of_ble_eq_true rfl) ⟨by decide, by decide⟩ rfl (c_file _ _ n d2) ?_
  exact LW_eq C e1 dL_law_439 (by decide) (LW_wide (by omega) (by omega) (K _ _ v (h1.mono (by omega))))
set_option maxHeartbeats 4000000 in
theorem op_inbox (C : lwC l p s m meth c b L xs G cL) (hb' : kc ≤ 4000 ∧ ks ≤ 29000) (hi : i + 4 < L) (h : JJ S x n) (hS : S + 20000 < 1000000000) (K : ∀ (x' : xD) (n' : mD) (v' : Int64), JJ (S + 20000) x' n' → LW l p e s m below meth c b G cL (kc + 1) (ks + 6) 611 (lvI b G i) [] x' n' v') : LW l p e s m below meth c b G cL kc ks 512 (lvI b G i) [] x n v := by
  have hb1 : kc ≤ 5000 ∧ ks ≤ 30000 := ⟨by omega, by omega⟩
  obtain ⟨d1, d2, e1, h1⟩ := JJ.inbox (a := xs (i + 1)) h
  refine LW_ld (j := 0) C 1 rfl rfl dL_law_512 ?_
  refine LW_arg (k := 1) C 0 4 rfl rfl (by omega) dL_law_513 dL_law_514 dL_law_516 (by decide) dL_law_517 dL_law_518 ?_
  refine LW_X (N := mX10_inbox) (d' := 1) (av := [.int (xs (i + 1))]) C hb1 dL_law_519 ml_L_71 fv_X10_inbox (Nat.le_of_ble_eq_true rfl) ⟨by decide, by decide⟩ rfl (c_X10_inbox _ x d1) ?_
  refine LW_ld (j := 0) C 2 rfl rfl dL_law_522 ?_
  refine LW_arg (k := 1) C 0 4 rfl rfl (by omega) dL_law_523 dL_law_524 dL_law_526 (by decide) dL_law_527 dL_law_528 ?_
  refine LW_M (N := mX11_inbox) (d' := 1) (av := [.int (xs (i + 1))]) C hb1 dL_law_529 ml_L_74 fv_X11_inbox (Nat.le_of_ble_eq_true rfl) ⟨by decide, by decide⟩ rfl (c_inbox _ n d2) ?_
  exact LW_eq C e1 dL_law_532 (by decide) (LW_wide (by omega) (by omega) (K _ _ v (h1.mono (by omega))))
set_option maxHeartbeats 4000000 in
theorem op_message (C : lwC l p s m meth c b L xs G cL) (hb' : kc ≤ 4000 ∧ ks ≤ 29000) (hi : i + 4 < L) (h : JJ S x n) (hS : S + 20000 < 1000000000) (K : ∀ (x' : xD) (n' : mD) (v' : Int64), JJ (S + 20000) x' n' → LW l p e s m below meth c b G cL (kc + 1) (ks + 6) 611 (lvI b G i) [] x' n' v') : LW l p e s m below meth c b G cL kc ks 537 (lvI b G i) [] x n v := by
  have hb1 : kc ≤ 5000 ∧ ks ≤ 30000 := ⟨by omega, by omega⟩
  obtain ⟨d1, d2, e1, h1⟩ := JJ.message (a := xs (i + 1)) (b := xs (i + 2)) (c := xs (i + 3)) h
  refine LW_ld (j := 0) C 1 rfl rfl dL_law_537 ?_
  refine LW_arg (k := 1) C 0 4 rfl rfl (by omega) dL_law_538 dL_law_539 dL_law_541 (by decide) dL_law_542 dL_law_543 ?_
  refine LW_arg (k := 2) C 0 4 rfl rfl (by omega) dL_law_544 dL_law_545 dL_law_547 (by decide) dL_law_548 dL_law_549 ?_
  refine LW_arg (k := 3) C 0 4 rfl rfl (by omega) dL_law_550 dL_law_551 dL_law_553 (by decide) dL_law_554 dL_law_555 ?_
  refine LW_X (N := mX10_message) (d' := 1) (av := [.int (xs (i + 1)), .int (xs (i + 2)), .int (xs (i + 3))]) C hb1 dL_law_556 ml_L_75 fv_X10_message (Nat.le_of_ble_eq_true rfl) ⟨by decide, by decide⟩ rfl (c_X10_message _ _ _ x d1) ?_
  refine LW_ld (j := 0) C 2 rfl rfl dL_law_559 ?_
  refine LW_arg (k := 1) C 0 4 rfl rfl (by omega) dL_law_560 dL_law_561 dL_law_563 (by decide) dL_law_564 dL_law_565 ?_
  refine LW_arg (k := 2) C 0 4 rfl rfl (by omega) dL_law_566 dL_law_567 dL_law_569 (by decide) dL_law_570 dL_law_571 ?_
  refine LW_arg (k := 3) C 0 4 rfl rfl (by omega) dL_law_572 dL_law_573 dL_law_575 (by decide) dL_law_576 dL_law_577 ?_
  refine LW_M (N := mX11_message) (d' := 1) (av := [.int (xs (i + 1)), .int (xs (i + 2)), .int (xs (i + 3))]) C hb1 dL_law_578 ml_L_78 fv_X11_message (Nat.le_of_ble_eq_true rfl) ⟨by decide, by decide⟩ rfl (c_message _ _ _ n d2) ?_
  exact LW_eq C e1 dL_law_581 (by decide) (LW_wide (by omega) (by omega) (K _ _ v (h1.mono (by omega))))
set_option maxHeartbeats 4000000 in
theorem op_count (C : lwC l p s m meth c b L xs G cL) (hb' : kc ≤ 4000 ∧ ks ≤ 29000) (hi : i + 4 < L) (h : JJ S x n) (hS : S + 20000 < 1000000000) (K : ∀ (x' : xD) (n' : mD) (v' : Int64), JJ (S + 20000) x' n' → LW l p e s m below meth c b G cL (kc + 1) (ks + 6) 611 (lvI b G i) [] x' n' v') : LW l p e s m below meth c b G cL kc ks 586 (lvI b G i) [] x n v := by
  have hb1 : kc ≤ 5000 ∧ ks ≤ 30000 := ⟨by omega, by omega⟩
  obtain ⟨d1, d2, e1, h1⟩ := JJ.count (a := xs (i + 1)) h
  refine LW_ld (j := 0) C 1 rfl rfl dL_law_586 ?_
  refine LW_arg (k := 1) C 0 4 rfl rfl (by omega) dL_law_587 dL_law_588 dL_law_590 (by decide) dL_law_591 dL_law_592 ?_
  refine LW_X (N := mX10_count) (d' := 1) (av := [.int (xs (i + 1))]) C hb1 dL_law_593 ml_L_79 fv_X10_count (Nat.le_of_ble_eq_true rfl) ⟨by decide, by decide⟩ rfl (c_X10_count _ x d1) ?_
  refine LW_ld (j := 0) C 2 rfl rfl dL_law_596 ?_
  refine LW_arg (k := 1) C 0 4 rfl rfl (by omega) dL_law_597 dL_law_598 dL_law_600 (by decide) dL_law_601 dL_law_602 ?_
  refine LW_M (N := mX11_count) (d' := 1) (av := [.int (xs (i + 1))]) C hb1 dL_law_603 ml_L_82 fv_X11_count (Nat.le_of_ble_eq_true rfl) ⟨by decide, by decide⟩ rfl (c_count _ n d2) ?_
  exact LW_eq C e1 dL_law_606 (by decide) (LW_wide (by omega) (by omega) (K _ _ v (h1.mono (by omega))))
set_option maxHeartbeats 4000000 in
theorem op_user (C : lwC l p s m meth c b L xs G cL) (hb' : kc ≤ 4000 ∧ ks ≤ 29000) (hi : i + 4 < L) (h : JJ S x n) (hS : S + 20000 < 1000000000) (K : ∀ (x' : xD) (n' : mD) (v' : Int64), JJ (S + 20000) x' n' → LW l p e s m below meth c b G cL (kc + 1) (ks + 6) 611 (lvI b G i) [] x' n' v') : LW l p e s m below meth c b G cL kc ks 290 (lvI b G i) [] x n v := by
  have hb1 : kc ≤ 5000 ∧ ks ≤ 30000 := ⟨by omega, by omega⟩
  have hn : Duser (xs (i + 1)) (xs (i + 2)) n ∧ JJ S x (Fuser (xs (i + 1)) (xs (i + 2)) n).2 := by
    by_cases hT : uThrow (xs (i + 1)) (xs (i + 2))
    · obtain ⟨a1, a2, -⟩ := JJ.userno h hT
      exact ⟨a1, a2⟩
    · obtain ⟨-, a2, -, a4, a5, -⟩ := JJ.userok h hT
      exact ⟨a2, a5⟩
  have hM : ∀ sz, Met l yL_user _ _ _ _ 1 6 _ := fun sz => hp_user (l := l) C.2.2.1 G cL x v (xs (i + 1)) (xs (i + 2)) (G.1 + 389) sz (fun hT => (JJ.userok h hT).1) (fun hT => (JJ.userok h hT).2.2.2.1)
  refine LW_ld (j := 0) C 1 rfl rfl dL_law_290 ?_
  refine LW_arg (k := 1) C 0 4 rfl rfl (by omega) dL_law_291 dL_law_292 dL_law_294 (by decide) dL_law_295 dL_law_296 ?_
  refine LW_arg (k := 2) C 0 4 rfl rfl (by omega) dL_law_297 dL_law_298 dL_law_300 (by decide) dL_law_301 dL_law_302 ?_
  refine LW_ld (j := 0) C 3 rfl rfl dL_law_303 ?_
  refine LW_H (T := uThrow (xs (i + 1)) (xs (i + 2))) C hb1 dL_law_304 ml_L_49 sm_L_user cw_L_user rfl (by decide +kernel) (Nat.le_of_ble_eq_true rfl) hM (fun r v' hp => ?_)
  have hb2 : kc + 1 ≤ 5000 ∧ ks + 6 ≤ 30000 := ⟨by omega, by omega⟩
  refine LW_store (lv' := [(5, .int r), (0, .ref b), (1, .ref G.1), (2, .ref (G.1 + 366)), (3, .ref (G.1 + 389)), (4, .int (nI i))]) C dL_law_307 (by decide) rfl ?_
  refine LW_ld (j := 0) C 3 rfl rfl dL_law_309 ?_
  refine LW_arg (k := 1) C 1 5 rfl rfl (by omega) dL_law_310 dL_law_311 dL_law_313 (by decide) dL_law_314 dL_law_315 ?_
  refine LW_arg (k := 2) C 1 5 rfl rfl (by omega) dL_law_316 dL_law_317 dL_law_319 (by decide) dL_law_320 dL_law_321 ?_
  refine LW_M (N := mX11_user) (d' := 1) (av := [.int (xs (i + 1)), .int (xs (i + 2))]) C hb2 dL_law_322 ml_L_54 fv_X11_user (Nat.le_of_ble_eq_true rfl) ⟨by decide, by decide⟩ rfl (c_user _ _ n hn.1) ?_
  refine LW_store (lv' := [(6, .int (Fuser (xs (i + 1)) (xs (i + 2)) n).1), (5, .int r), (0, .ref b), (1, .ref G.1), (2, .ref (G.1 + 366)), (3, .ref (G.1 + 389)), (4, .int (nI i))]) C dL_law_325 (by decide) rfl ?_
  refine LW_ld (j := 0) C 4 rfl rfl dL_law_327 ?_
  refine LW_M (N := mX11_thrown) (d' := 0) (av := []) C hb2 dL_law_328 ml_L_55 fv_X11_thrown (Nat.le_of_ble_eq_true rfl) ⟨by decide, by decide⟩ rfl (c_thrown _ trivial) ?_
  refine LW_il C 1 rfl dL_law_331 ?_
  have hthr : Fthrown (Fuser (xs (i + 1)) (xs (i + 2)) n).2 = r ∧ (r = 0 → v' = (Fuser (xs (i + 1)) (xs (i + 2)) n).1.toInt64) := by
    rcases hp with ⟨hT, rfl, rfl⟩ | ⟨hT, rfl, rfl⟩
    · obtain ⟨-, -, a3⟩ := JJ.userno h hT
      exact ⟨a3, fun z => absurd z (by decide)⟩
    · obtain ⟨-, -, a3, -, -, a6⟩ := JJ.userok h hT
      exact ⟨a6, fun _ => by rw [a3]⟩
  refine LW_eq (tgt := 338) C hthr.1 dL_law_333 (by decide) ?_
  refine LW_il C 1 rfl dL_law_338 ?_
  have hend : LW l p e s m below meth c b G cL (kc + 1) (ks + 6) 355 [(6, .int (Fuser (xs (i + 1)) (xs (i + 2)) n).1), (5, .int r), (0, .ref b), (1, .ref G.1), (2, .ref (G.1 + 366)), (3, .ref (G.1 + 389)), (4, .int (nI i))] [] x (Fuser (xs (i + 1)) (xs (i + 2)) n).2 v' := LW_goto C dL_law_355 (by decide) (LW_sub (fun ls hl => lv_sub hl [2, 3, 4, 5, 6] rfl) (K _ _ v' (hn.2.mono (by omega))))
  refine LW_ne (tgt := 355) C dL_law_340 (by decide) (fun _ => hend) (fun hr => ?_)
  exact LW_out (tgt := 355) C 5 0 rfl rfl (hthr.2 hr) dL_law_343 dL_law_344 dL_law_345 dL_law_346 dL_law_348 dL_law_349 dL_law_350 (by decide) hend
set_option maxHeartbeats 4000000 in
theorem op_disk (C : lwC l p s m meth c b L xs G cL) (hb' : kc ≤ 4000 ∧ ks ≤ 29000) (hi : i + 4 < L) (h : JJ S x n) (hS : S + 20000 < 1000000000) (K : ∀ (x' : xD) (n' : mD) (v' : Int64), JJ (S + 20000) x' n' → LW l p e s m below meth c b G cL (kc + 1) (ks + 6) 611 (lvI b G i) [] x' n' v') : LW l p e s m below meth c b G cL kc ks 444 (lvI b G i) [] x n v := by
  have hb1 : kc ≤ 5000 ∧ ks ≤ 30000 := ⟨by omega, by omega⟩
  have hx2 : (FX10_disk (xs (i + 1)) (xs (i + 2)) x).2 = x := by
    rw [FX10_disk]
    simp only [apply_ite Prod.snd, ite_self]
  have hn : Ddisk (xs (i + 1)) (xs (i + 2)) n ∧ JJ S x (Fdisk (xs (i + 1)) (xs (i + 2)) n).2 := by
    by_cases hT : dThrow (xs (i + 1)) (xs (i + 2))
    · obtain ⟨a1, a2, -⟩ := JJ.diskno h hT
      exact ⟨a1, a2⟩
    · obtain ⟨-, a2, -, a5, -⟩ := JJ.diskok h hT
      rw [hx2] at a5
      exact ⟨a2, a5⟩
  have hM : ∀ sz, Met l yL_disk _ _ _ _ 1 6 _ := fun sz => hp_disk (l := l) C.2.2.1 G cL x v (xs (i + 1)) (xs (i + 2)) (G.1 + 389) sz (fun hT => (JJ.diskok h hT).1) (fun hT => hx2)
  refine LW_ld (j := 0) C 1 rfl rfl dL_law_444 ?_
  refine LW_arg (k := 1) C 0 4 rfl rfl (by omega) dL_law_445 dL_law_446 dL_law_448 (by decide) dL_law_449 dL_law_450 ?_
  refine LW_arg (k := 2) C 0 4 rfl rfl (by omega) dL_law_451 dL_law_452 dL_law_454 (by decide) dL_law_455 dL_law_456 ?_
  refine LW_ld (j := 0) C 3 rfl rfl dL_law_457 ?_
  refine LW_H (T := dThrow (xs (i + 1)) (xs (i + 2))) C hb1 dL_law_458 ml_L_68 sm_L_disk cw_L_disk rfl (by decide +kernel) (Nat.le_of_ble_eq_true rfl) hM (fun r v' hp => ?_)
  have hb2 : kc + 1 ≤ 5000 ∧ ks + 6 ≤ 30000 := ⟨by omega, by omega⟩
  refine LW_store (lv' := [(5, .int r), (0, .ref b), (1, .ref G.1), (2, .ref (G.1 + 366)), (3, .ref (G.1 + 389)), (4, .int (nI i))]) C dL_law_461 (by decide) rfl ?_
  refine LW_ld (j := 0) C 3 rfl rfl dL_law_463 ?_
  refine LW_arg (k := 1) C 1 5 rfl rfl (by omega) dL_law_464 dL_law_465 dL_law_467 (by decide) dL_law_468 dL_law_469 ?_
  refine LW_arg (k := 2) C 1 5 rfl rfl (by omega) dL_law_470 dL_law_471 dL_law_473 (by decide) dL_law_474 dL_law_475 ?_
  refine LW_M (N := mX11_disk) (d' := 0) (av := [.int (xs (i + 1)), .int (xs (i + 2))]) C hb2 dL_law_476 ml_L_70 fv_X11_disk (Nat.le_of_ble_eq_true rfl) ⟨by decide, by decide⟩ rfl (c_disk _ _ n hn.1) ?_
  refine LW_store (lv' := [(6, .int (Fdisk (xs (i + 1)) (xs (i + 2)) n).1), (5, .int r), (0, .ref b), (1, .ref G.1), (2, .ref (G.1 + 366)), (3, .ref (G.1 + 389)), (4, .int (nI i))]) C dL_law_479 (by decide) rfl ?_
  refine LW_ld (j := 0) C 4 rfl rfl dL_law_481 ?_
  refine LW_M (N := mX11_thrown) (d' := 0) (av := []) C hb2 dL_law_482 ml_L_55 fv_X11_thrown (Nat.le_of_ble_eq_true rfl) ⟨by decide, by decide⟩ rfl (c_thrown _ trivial) ?_
  refine LW_il C 1 rfl dL_law_485 ?_
  have hthr : Fthrown (Fdisk (xs (i + 1)) (xs (i + 2)) n).2 = r ∧ (r = 0 → v' = (Fdisk (xs (i + 1)) (xs (i + 2)) n).1.toInt64) := by
    rcases hp with ⟨hT, rfl, rfl⟩ | ⟨hT, rfl, rfl⟩
    · obtain ⟨-, -, a3⟩ := JJ.diskno h hT
      exact ⟨a3, fun z => absurd z (by decide)⟩
    · obtain ⟨-, -, a3, -, a6⟩ := JJ.diskok h hT
      exact ⟨a6, fun _ => by rw [a3]⟩
  refine LW_eq (tgt := 492) C hthr.1 dL_law_487 (by decide) ?_
  refine LW_il C 1 rfl dL_law_492 ?_
  have hend : LW l p e s m below meth c b G cL (kc + 1) (ks + 6) 509 [(6, .int (Fdisk (xs (i + 1)) (xs (i + 2)) n).1), (5, .int r), (0, .ref b), (1, .ref G.1), (2, .ref (G.1 + 366)), (3, .ref (G.1 + 389)), (4, .int (nI i))] [] x (Fdisk (xs (i + 1)) (xs (i + 2)) n).2 v' := LW_goto C dL_law_509 (by decide) (LW_sub (fun ls hl => lv_sub hl [2, 3, 4, 5, 6] rfl) (K _ _ v' (hn.2.mono (by omega))))
  refine LW_ne (tgt := 509) C dL_law_494 (by decide) (fun _ => hend) (fun hr => ?_)
  exact LW_out (tgt := 509) C 5 0 rfl rfl (hthr.2 hr) dL_law_497 dL_law_498 dL_law_499 dL_law_500 dL_law_502 dL_law_503 dL_law_504 (by decide) hend
end LWO
