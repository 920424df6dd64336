section ABH
variable {M : ab_M} {d mc ms : Nat} {tt : Prop} {Q : Option Value → ab_S → Prop} {kc ks pc : Nat} {ls : List (Option Value)} {st : List Value} {σ : ab_S}
theorem ab_nf_of {ci : Nat} {C : String} {T : u_T} {N : Nat} (h : vwCl[ci]? = some (C, T, N)) : ab_nf ci = N := by
  simp only [ab_nf, h]
theorem ab_lt_of {ci : Nat} {r : vw_C} (h : vwCl[ci]? = some r) : ci < 100 := by
  have := (List.getElem?_eq_some_iff.mp h).1
  have ee : vwCl.length = 12 := rfl
  omega
theorem ab_le {p : Program} {l : Launch} {e : Env} {R : Room} {s : State} {m : MethodId} {args : Array Value} {below : List Frame} {meth : Method} {c : Code} {H : Heap} {locs : List Loc} {cells slots : Nat} {Qx : State → Prop} {g : JFrame} (h : H.size ≤ s.heap.size + cells → W p l e R s m args below meth c H locs cells slots Qx g) : W p l e R s m args below meth c H locs cells slots Qx g :=
  fun T hT X => h (by rw [← hT]; exact X.heapSize) T hT X
theorem ab_S0 {A : Nat → Prop} {H0 H : Heap} {locs : List Loc} (h : va_S A H0 H locs) : va_S A H H locs := ⟨Nat.le_refl _, fun _ _ _ => rfl, h.2.2⟩
theorem ab_S2 {A : Nat → Prop} {H0 H H1 : Heap} {locs locs1 : List Loc} (h : va_S A H0 H locs) (h1 : va_S A H H1 locs1) : va_S A H0 H1 locs1 := ⟨Nat.le_trans h.1 h1.1, fun q hq hA => (h1.2.1 q (Nat.lt_of_lt_of_le hq h.1) hA).trans (h.2.1 q hq hA), h1.2.2⟩
theorem ab_fs_at {G : ab_G} {σ : ab_S} {ci q j : Nat} (h : j < ab_nf ci) : ((List.range (ab_nf ci)).map (ab_fv G σ ci q))[j]? = some (ab_fv G σ ci q j) := by
  simp [h]
theorem ab_getI {idx ci j q : Nat} (hd : decode M.2.1 pc = .ok (.getfield idx, 3)) (hf : ab_FL M.1.cls idx ci j) (hk : ab_is σ q ci) (hr : ab_isR (ab_ty ci j) = false) (k : ab_V M d mc ms tt Q kc ks (pc + 3) ls (.int (σ.2.2.1 q j) :: st) σ) : ab_V M d mc ms tt Q kc ks (pc) ls (.ref q :: st) σ := by
  intro p l e s m args below meth c H locs lsA G A hI hL hP hD hS ht
  obtain ⟨C, T, N, hc, hj, hw⟩ := hf
  refine va_get hI.1 hI.2.1 (hts := hI.2.2.2.2.2.1) (ab_cls hc).1 hI.2.2.2.2.1 hI.2.2.2.2.2.2.2.2.2.1.1 hP q (ab_ws_obj hk (ab_lt_of hc)) hc j hj (hI.2.2.2.2.2.1 _ hw) (fun _ h => h) (ab_fs_at (by rw [ab_nf_of hc]; exact hj)) hd ?_
  have ee : ab_fv G σ ci q j = .int (σ.2.2.1 q j) := by simp [ab_fv, hr]
  rw [ee]
  exact (k p l e s m args below meth c H locs lsA G A hI hL hP hD hS ht)
theorem ab_getR {idx ci j q x : Nat} (hd : decode M.2.1 pc = .ok (.getfield idx, 3)) (hf : ab_FL M.1.cls idx ci j) (hk : ab_is σ q ci) (hr : ab_isR (ab_ty ci j) = true) (hx : σ.2.2.2 q j = some x) (k : ab_V M d mc ms tt Q kc ks (pc + 3) ls (.ref x :: st) σ) : ab_V M d mc ms tt Q kc ks (pc) ls (.ref q :: st) σ := by
  intro p l e s m args below meth c H locs lsA G A hI hL hP hD hS ht
  obtain ⟨C, T, N, hc, hj, hw⟩ := hf
  refine va_get hI.1 hI.2.1 (hts := hI.2.2.2.2.2.1) (ab_cls hc).1 hI.2.2.2.2.1 hI.2.2.2.2.2.2.2.2.2.1.1 hP q (ab_ws_obj hk (ab_lt_of hc)) hc j hj (hI.2.2.2.2.2.1 _ hw) (fun _ h => h) (ab_fs_at (by rw [ab_nf_of hc]; exact hj)) hd ?_
  have ee : ab_fv G σ ci q j = .ref (ab_a G x) := by simp [ab_fv, hr, hx, va_rf]
  rw [ee]
  exact (k p l e s m args below meth c H locs lsA G A hI hL hP hD hS ht)
/-- what an int field may take -/
def ab_ok (t : FieldType) (v : Int32) : Prop := narrow t (.int v) = .int v ∧ fits t (.int v) = true
theorem ab_ok_i (v : Int32) : ab_ok .int v := ⟨rfl, rfl⟩
theorem ab_ok_b {v : Int32} (h : v = 0 ∨ v = 1) : ab_ok .boolean v := by
  rcases h with rfl | rfl <;> exact ⟨by decide, by decide⟩
def ab_pf (M : ab_M) (ci j : Nat) : Prop := ∀ (C : String) (T : u_T) (N : Nat), vwCl[ci]? = some (C, T, N) → (T j).2.2.2 = false ∨ ((T j).2.2.2 = true ∧ M.1.name = "<init>" ∧ (T j).1 = M.1.cls)
theorem ab_putI {idx ci j q : Nat} {v : Int32} (hd : decode M.2.1 pc = .ok (.putfield idx, 3)) (hf : ab_FL M.1.cls idx ci j) (hk : ab_is σ q ci) (hr : ab_isR (ab_ty ci j) = false) (hp : ab_pf M ci j) (hv : ab_ok (ab_ty ci j) v) (k : ab_V M d mc ms tt Q kc ks (pc + 3) ls (st) (ab_si σ q j v)) : ab_V M d mc ms tt Q kc ks (pc) ls (.int v :: .ref q :: st) σ := by
  intro p l e s m args below meth c H locs lsA G A hI hL hP hD hS ht
  obtain ⟨C, T, N, hc, hj, hw⟩ := hf
  have hl : j < ((List.range (ab_nf ci)).map (ab_fv G σ ci q)).length := by simp [ab_nf_of hc, hj]
  have go : ∀ (H1 : Heap) (locs1 : List Loc), va_P G.2.2.2 vwCl ((ab_ws G σ).set q (ab_a G q, .inr (ci, ((List.range (ab_nf ci)).map (ab_fv G σ ci q)).set j (.int v)))) H1 → va_D A ((ab_ws G σ).set q (ab_a G q, .inr (ci, ((List.range (ab_nf ci)).map (ab_fv G σ ci q)).set j (.int v)))) → va_S A H H1 locs1 → W p l e (ab_rm d mc ms) s m args below meth c H1 locs1 kc ks (MQ below (ab_Q G tt mc Q A) args s mc ms A) (F0 m (pc + 3) lsA (st.map (ab_c G))) := by
    intro H1 locs1 hP1 hD1 hS1
    refine ab_le (fun hz => ?_)
    rw [ab_set_fi hk (ab_lt_of hc) hr] at hP1 hD1
    exact k p l e s m args below meth c H1 locs1 lsA G A hI hL hP1 hD1 (ab_S2 hS hS1) (fun h => by have h1 := ht h; have h2 := hS1.1; exact ⟨by omega, by first | (have h3 : (ab_si σ q j v).1 = σ.1 := rfl; omega) | (have h3 : (ab_sr σ q j (some v)).1 = σ.1 := rfl; omega) | (have h3 : (ab_si σ q i.toNatClampNeg x).1 = σ.1 := rfl; omega)⟩)
  rcases hp C T N hc with h0 | ⟨h0, h1, h2⟩
  · exact va_put hI.1 hI.2.1 (hts := hI.2.2.2.2.2.1) (ab_cls hc).1 (ab_ty ci) (ab_cls hc).2.1 (ab_cls hc).2.2.1 hI.2.2.2.2.1 hI.2.2.2.2.2.2.2.2.2.1.1 hP hD (ab_S0 hS) q (ab_ws_obj hk (ab_lt_of hc)) hc j hj (hI.2.2.2.2.2.1 _ hw) (fun _ h => h) h0 ((ab_cls hc).2.1 j hj) hv.1 hv.2 hl hd go
  · exact va_putF hI.1 hI.2.1 (hts := hI.2.2.2.2.2.1) (ab_cls hc).1 (ab_ty ci) (ab_cls hc).2.1 (ab_cls hc).2.2.1 hI.2.2.2.2.1 hI.2.2.2.2.2.2.2.2.2.1.1 hP hD (ab_S0 hS) q (ab_ws_obj hk (ab_lt_of hc)) hc j hj (hI.2.2.2.2.2.1 _ hw) (fun _ h => h) h0 (hI.2.2.2.2.2.2.2.1.trans h1) h2 ((ab_cls hc).2.1 j hj) hv.1 hv.2 hl hd go
theorem ab_putR {idx ci j q : Nat} {v : Nat} (hd : decode M.2.1 pc = .ok (.putfield idx, 3)) (hf : ab_FL M.1.cls idx ci j) (hk : ab_is σ q ci) (hr : ab_isR (ab_ty ci j) = true) (hp : ab_pf M ci j) (k : ab_V M d mc ms tt Q kc ks (pc + 3) ls (st) (ab_sr σ q j (some v))) : ab_V M d mc ms tt Q kc ks (pc) ls (.ref v :: .ref q :: st) σ := by
  intro p l e s m args below meth c H locs lsA G A hI hL hP hD hS ht
  obtain ⟨C, T, N, hc, hj, hw⟩ := hf
  have hv : narrow (ab_ty ci j) (.ref (ab_a G v)) = .ref (ab_a G v) ∧ fits (ab_ty ci j) (.ref (ab_a G v)) = true := by
    cases h : ab_ty ci j <;> rw [h] at hr <;> first | exact ⟨rfl, rfl⟩ | cases hr
  have hl : j < ((List.range (ab_nf ci)).map (ab_fv G σ ci q)).length := by simp [ab_nf_of hc, hj]
  have go : ∀ (H1 : Heap) (locs1 : List Loc), va_P G.2.2.2 vwCl ((ab_ws G σ).set q (ab_a G q, .inr (ci, ((List.range (ab_nf ci)).map (ab_fv G σ ci q)).set j (.ref (ab_a G v))))) H1 → va_D A ((ab_ws G σ).set q (ab_a G q, .inr (ci, ((List.range (ab_nf ci)).map (ab_fv G σ ci q)).set j (.ref (ab_a G v))))) → va_S A H H1 locs1 → W p l e (ab_rm d mc ms) s m args below meth c H1 locs1 kc ks (MQ below (ab_Q G tt mc Q A) args s mc ms A) (F0 m (pc + 3) lsA (st.map (ab_c G))) := by
    intro H1 locs1 hP1 hD1 hS1
    refine ab_le (fun hz => ?_)
    have ee := ab_set_fr (G := G) (v := some v) hk (ab_lt_of hc) hr
    rw [show va_rf ((some v).map (ab_a G)) = .ref (ab_a G v) from rfl] at ee
    rw [ee] at hP1 hD1
    exact k p l e s m args below meth c H1 locs1 lsA G A hI hL hP1 hD1 (ab_S2 hS hS1) (fun h => by have h1 := ht h; have h2 := hS1.1; exact ⟨by omega, by first | (have h3 : (ab_si σ q j v).1 = σ.1 := rfl; omega) | (have h3 : (ab_sr σ q j (some v)).1 = σ.1 := rfl; omega) | (have h3 : (ab_si σ q i.toNatClampNeg x).1 = σ.1 := rfl; omega)⟩)
  rcases hp C T N hc with h0 | ⟨h0, h1, h2⟩
  · exact va_put hI.1 hI.2.1 (hts := hI.2.2.2.2.2.1) (ab_cls hc).1 (ab_ty ci) (ab_cls hc).2.1 (ab_cls hc).2.2.1 hI.2.2.2.2.1 hI.2.2.2.2.2.2.2.2.2.1.1 hP hD (ab_S0 hS) q (ab_ws_obj hk (ab_lt_of hc)) hc j hj (hI.2.2.2.2.2.1 _ hw) (fun _ h => h) h0 ((ab_cls hc).2.1 j hj) hv.1 hv.2 hl hd go
  · exact va_putF hI.1 hI.2.1 (hts := hI.2.2.2.2.2.1) (ab_cls hc).1 (ab_ty ci) (ab_cls hc).2.1 (ab_cls hc).2.2.1 hI.2.2.2.2.1 hI.2.2.2.2.2.2.2.2.2.1.1 hP hD (ab_S0 hS) q (ab_ws_obj hk (ab_lt_of hc)) hc j hj (hI.2.2.2.2.2.1 _ hw) (fun _ h => h) h0 (hI.2.2.2.2.2.2.2.1.trans h1) h2 ((ab_cls hc).2.1 j hj) hv.1 hv.2 hl hd go
theorem ab_iald {q : Nat} {i : Int32} (hd : decode M.2.1 pc = .ok (.iaload, 1)) (hk : ab_is σ q 100) (hi : vp_in i (σ.2.1 q).2) (k : ab_V M d mc ms tt Q kc ks (pc + 1) ls (.int (σ.2.2.1 q i.toNatClampNeg) :: st) σ) : ab_V M d mc ms tt Q kc ks (pc) ls (.int i :: .ref q :: st) σ := by
  intro p l e s m args below meth c H locs lsA G A hI hL hP hD hS ht
  have ha := ab_ws_arr (G := G) hk (by decide)
  rw [ab_arr, hk.2, if_pos (by decide)] at ha
  exact va_iald hI.1 hI.2.1 hI.2.2.2.2.2.2.2.2.2.1.1 hP q 0 ha rfl hi hd (k p l e s m args below meth c H locs lsA G A hI hL hP hD hS ht)
theorem ab_zald {q : Nat} {i : Int32} (hd : decode M.2.1 pc = .ok (.baload, 1)) (hk : ab_is σ q 101) (hi : vp_in i (σ.2.1 q).2) (k : ab_V M d mc ms tt Q kc ks (pc + 1) ls (.int (σ.2.2.1 q i.toNatClampNeg) :: st) σ) : ab_V M d mc ms tt Q kc ks (pc) ls (.int i :: .ref q :: st) σ := by
  intro p l e s m args below meth c H locs lsA G A hI hL hP hD hS ht
  have ha := ab_ws_arr (G := G) hk (by decide)
  rw [ab_arr, hk.2, if_pos (by decide)] at ha
  exact va_zald hI.1 hI.2.1 hI.2.2.2.2.2.2.2.2.2.1.1 hP q 1 ha rfl hi hd (k p l e s m args below meth c H locs lsA G A hI hL hP hD hS ht)
theorem ab_tld {i : Int32} (hd : decode M.2.1 pc = .ok (.iaload, 1)) (hi : vp_in i 12) (k : ab_V M d mc ms tt Q kc ks (pc + 1) ls (.int (ab_al i.toNatClampNeg) :: st) σ) : ab_V M d mc ms tt Q kc ks (pc) ls (.int i :: .ref 1000000 :: st) σ := by
  intro p l e s m args below meth c H locs lsA G A hI hL hP hD hS ht
  exact va_ti hI.1 hI.2.1 hI.2.2.2.2.2.2.2.2.2.2.2 hS hi rfl hd (k p l e s m args below meth c H locs lsA G A hI hL hP hD hS ht)
theorem ab_aald {q x : Nat} {i : Int32} {kd : Nat} (hd : decode M.2.1 pc = .ok (.aaload, 1)) (hk : ab_is σ q kd) (hkd : kd = 102 ∨ kd = 103) (hi : vp_in i (σ.2.1 q).2) (hx : σ.2.2.2 q i.toNatClampNeg = some x) (k : ab_V M d mc ms tt Q kc ks (pc + 1) ls (.ref x :: st) σ) : ab_V M d mc ms tt Q kc ks (pc) ls (.int i :: .ref q :: st) σ := by
  intro p l e s m args below meth c H locs lsA G A hI hL hP hD hS ht
  have go : W p l e (ab_rm d mc ms) s m args below meth c H locs kc ks (MQ below (ab_Q G tt mc Q A) args s mc ms A) (F0 m (pc + 1) lsA (va_rf ((fun j => (σ.2.2.2 q j).map (ab_a G)) i.toNatClampNeg) :: st.map (ab_c G))) := by
    simp only [hx, Option.map_some, va_rf]
    exact (k p l e s m args below meth c H locs lsA G A hI hL hP hD hS ht)
  rcases hkd with rfl | rfl
  · have ha := ab_ws_arr (G := G) hk (by decide)
    rw [ab_arr, hk.2, if_neg (by decide)] at ha
    exact va_aldq hI.1 hI.2.1 hI.2.2.2.2.2.2.2.2.2.1.1 hP q 2 ha rfl hi hd go
  · have ha := ab_ws_arr (G := G) hk (by decide)
    rw [ab_arr, hk.2, if_neg (by decide)] at ha
    exact va_aldq hI.1 hI.2.1 hI.2.2.2.2.2.2.2.2.2.1.1 hP q 3 ha rfl hi hd go
theorem ab_alen {q kd : Nat} (hd : decode M.2.1 pc = .ok (.arraylength, 1)) (hk : ab_is σ q kd) (hkd : kd = 100 ∨ kd = 101) (k : ab_V M d mc ms tt Q kc ks (pc + 1) ls (.int (nI (σ.2.1 q).2) :: st) σ) : ab_V M d mc ms tt Q kc ks (pc) ls (.ref q :: st) σ := by
  intro p l e s m args below meth c H locs lsA G A hI hL hP hD hS ht
  rcases hkd with rfl | rfl
  · exact va_alen hI.1 hI.2.1 hI.2.2.2.2.2.2.2.2.2.1.1 hP q 0 (ab_ws_arr (G := G) hk (by decide)) rfl rfl hd (k p l e s m args below meth c H locs lsA G A hI hL hP hD hS ht)
  · exact va_alen hI.1 hI.2.1 hI.2.2.2.2.2.2.2.2.2.1.1 hP q 1 (ab_ws_arr (G := G) hk (by decide)) rfl rfl hd (k p l e s m args below meth c H locs lsA G A hI hL hP hD hS ht)
theorem ab_iast {q : Nat} {i x : Int32} (hd : decode M.2.1 pc = .ok (.iastore, 1)) (hk : ab_is σ q 100) (hi : vp_in i (σ.2.1 q).2) (k : ab_V M d mc ms tt Q kc ks (pc + 1) ls (st) (ab_si σ q i.toNatClampNeg x)) : ab_V M d mc ms tt Q kc ks (pc) ls (.int x :: .int i :: .ref q :: st) σ := by
  intro p l e s m args below meth c H locs lsA G A hI hL hP hD hS ht
  have ha := ab_ws_arr (G := G) hk (by decide)
  rw [ab_arr, hk.2, if_pos (by decide)] at ha
  refine va_iast hI.1 hI.2.1 hI.2.2.2.2.2.2.2.2.2.1.1 hP hD (ab_S0 hS) q 0 ha rfl hi hd (fun H1 locs1 hP1 hD1 hS1 => ?_)
  rw [ab_set_ai hk (by decide) (by decide)] at hP1 hD1
  exact ab_le (fun hz => k p l e s m args below meth c H1 locs1 lsA G A hI hL hP1 hD1 (ab_S2 hS hS1) (fun h => by have h1 := ht h; have h2 := hS1.1; exact ⟨by omega, by first | (have h3 : (ab_si σ q j v).1 = σ.1 := rfl; omega) | (have h3 : (ab_sr σ q j (some v)).1 = σ.1 := rfl; omega) | (have h3 : (ab_si σ q i.toNatClampNeg x).1 = σ.1 := rfl; omega)⟩))
theorem ab_zast {q : Nat} {i x : Int32} (hd : decode M.2.1 pc = .ok (.bastore, 1)) (hk : ab_is σ q 101) (hi : vp_in i (σ.2.1 q).2) (hx : x = 0 ∨ x = 1) (k : ab_V M d mc ms tt Q kc ks (pc + 1) ls (st) (ab_si σ q i.toNatClampNeg x)) : ab_V M d mc ms tt Q kc ks (pc) ls (.int x :: .int i :: .ref q :: st) σ := by
  intro p l e s m args below meth c H locs lsA G A hI hL hP hD hS ht
  have ha := ab_ws_arr (G := G) hk (by decide)
  rw [ab_arr, hk.2, if_pos (by decide)] at ha
  have hn : vp_nar .boolean x = x := by rcases hx with rfl | rfl <;> decide
  refine va_zast hI.1 hI.2.1 hI.2.2.2.2.2.2.2.2.2.1.1 hP hD (ab_S0 hS) q 1 ha rfl hi hd (fun H1 locs1 hP1 hD1 hS1 => ?_)
  rw [hn, ab_set_ai hk (by decide) (by decide)] at hP1 hD1
  exact ab_le (fun hz => k p l e s m args below meth c H1 locs1 lsA G A hI hL hP1 hD1 (ab_S2 hS hS1) (fun h => by have h1 := ht h; have h2 := hS1.1; exact ⟨by omega, by first | (have h3 : (ab_si σ q j v).1 = σ.1 := rfl; omega) | (have h3 : (ab_sr σ q j (some v)).1 = σ.1 := rfl; omega) | (have h3 : (ab_si σ q i.toNatClampNeg x).1 = σ.1 := rfl; omega)⟩))
theorem ab_aast {q x : Nat} {i : Int32} {kd ck : Nat} (hd : decode M.2.1 pc = .ok (.aastore, 1)) (hk : ab_is σ q kd) (hkd : (kd = 102 ∧ ck = 6) ∨ (kd = 103 ∧ ck = 0)) (hi : vp_in i (σ.2.1 q).2) (hx : ab_is σ x ck) (k : ab_V M d mc ms tt Q kc ks (pc + 1) ls (st) (ab_sr σ q i.toNatClampNeg (some x))) : ab_V M d mc ms tt Q kc ks (pc) ls (.ref x :: .int i :: .ref q :: st) σ := by
  intro p l e s m args below meth c H locs lsA G A hI hL hP hD hS ht
  rcases hkd with ⟨rfl, rfl⟩ | ⟨rfl, rfl⟩
  · have ha := ab_ws_arr (G := G) hk (by decide)
    rw [ab_arr, hk.2, if_neg (by decide)] at ha
    refine va_astq hI.1 hI.2.1 hI.2.2.2.2.2.2.2.2.2.1.1 hP hD (ab_S0 hS) q 2 x 6 ha rfl (ab_ws_obj hx (by decide)) (r := (RX6, TX6, 8)) rfl hi hd (fun H1 locs1 hP1 hD1 hS1 => ?_)
    have ee := ab_set_ar (G := G) (σ := σ) (q := q) (j := i.toNatClampNeg) (v := some x) hk (by decide) (by decide)
    rw [show (some x).map (ab_a G) = some (ab_a G x) from rfl] at ee
    rw [ee] at hP1 hD1
    exact ab_le (fun hz => k p l e s m args below meth c H1 locs1 lsA G A hI hL hP1 hD1 (ab_S2 hS hS1) (fun h => by have h1 := ht h; have h2 := hS1.1; exact ⟨by omega, by have h3 : (ab_sr σ q i.toNatClampNeg (some x)).1 = σ.1 := rfl; omega⟩))
  · have ha := ab_ws_arr (G := G) hk (by decide)
    rw [ab_arr, hk.2, if_neg (by decide)] at ha
    refine va_astq hI.1 hI.2.1 hI.2.2.2.2.2.2.2.2.2.1.1 hP hD (ab_S0 hS) q 3 x 0 ha rfl (ab_ws_obj hx (by decide)) (r := (RX0, TX0, 2)) rfl hi hd (fun H1 locs1 hP1 hD1 hS1 => ?_)
    have ee := ab_set_ar (G := G) (σ := σ) (q := q) (j := i.toNatClampNeg) (v := some x) hk (by decide) (by decide)
    rw [show (some x).map (ab_a G) = some (ab_a G x) from rfl] at ee
    rw [ee] at hP1 hD1
    exact ab_le (fun hz => k p l e s m args below meth c H1 locs1 lsA G A hI hL hP1 hD1 (ab_S2 hS hS1) (fun h => by have h1 := ht h; have h2 := hS1.1; exact ⟨by omega, by have h3 : (ab_sr σ q i.toNatClampNeg (some x)).1 = σ.1 := rfl; omega⟩))
theorem ab_gets (hd : decode M.2.1 pc = .ok (.getstatic 59, 3)) (hM : M.1.cls = RX1) (k : ab_V M d mc ms tt Q kc ks (pc + 3) ls (.ref 1000000 :: st) σ) : ab_V M d mc ms tt Q kc ks (pc) ls (st) σ := by
  intro p l e s m args below meth c H locs lsA G A hI hL hP hD hS ht
  have hn := hI.2.2.2.2.2.2.2.2.2.1.2.2.2.2 (Cond.fieldLinkNest RX1 59 "ServerHouse" "ALLOWED" "[I" "ServerHouse") (by simp [ab_nestf])
  exact va_getsN hI.1 hI.2.1 hI.2.2.2.2.2.2.2.2.2.2.1 hS (own := RX1) (by rw [← hM]; exact hI.2.2.2.2.1) (va_Nw.use rfl hn) (fun _ h => h) hd (k p l e s m args below meth c H locs lsA G A hI hL hP hD hS ht)
end ABH
