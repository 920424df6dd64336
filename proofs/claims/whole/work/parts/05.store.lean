/-! THE ABSTRACT STORE: places 0, 1, .. stand for cells at base + 0, base + 1, ..; place 1000000 is the static table. A store: how many places, what each is (kind, length), its ints, its references.
Kinds: below 100 the class of that number in vwCl; 100 int[], 101 boolean[], 102 Message[], 103 Box[]. -/
abbrev ab_S : Type := Nat × (Nat → Nat × Nat) × (Nat → Nat → Int32) × (Nat → Nat → Option Nat)
abbrev ab_G : Type := Nat × Nat × (Nat → ClassId) × va_G
def ab_a (G : ab_G) (k : Nat) : Nat := if k = 1000000 then G.2.1 else G.1 + k
def ab_c (G : ab_G) : Value → Value
  | .ref k => .ref (ab_a G k)
  | .int x => .int x
  | .long x => .long x
  | .float x => .float x
  | .double x => .double x
  | .null => .null
  | .retAddr x => .retAddr x
def ab_isR (t : FieldType) : Bool := match t with
  | .object _ => true
  | .array _ => true
  | _ => false
def ab_fv (G : ab_G) (σ : ab_S) (ci q j : Nat) : Value := if ab_isR (ab_ty ci j) = true then va_rf ((σ.2.2.2 q j).map (ab_a G)) else .int (σ.2.2.1 q j)
def ab_nf (ci : Nat) : Nat := match vwCl[ci]? with
  | some r => r.2.2
  | none => 0
def ab_arr (G : ab_G) (σ : ab_S) (q : Nat) : vp_A := ((σ.2.1 q).2, if (σ.2.1 q).1 < 102 then .inl (σ.2.2.1 q) else .inr (.inr (.inr (.inr (fun j => (σ.2.2.2 q j).map (ab_a G))))))
def ab_cell (G : ab_G) (σ : ab_S) (q : Nat) : va_E := if (σ.2.1 q).1 < 100 then .inr ((σ.2.1 q).1, (List.range (ab_nf (σ.2.1 q).1)).map (ab_fv G σ (σ.2.1 q).1 q)) else .inl (G.2.2.1 (σ.2.1 q).1, ab_arr G σ q)
def ab_ws (G : ab_G) (σ : ab_S) : va_W := (List.range σ.1).map (fun q => (ab_a G q, ab_cell G σ q))
def ab_is (σ : ab_S) (q ci : Nat) : Prop := q < σ.1 ∧ (σ.2.1 q).1 = ci
def ab_up {α : Type} (f : Nat → Nat → α) (q j : Nat) (v : α) : Nat → Nat → α := fun q' j' => if q' = q then (if j' = j then v else f q' j') else f q' j'
def ab_si (σ : ab_S) (q j : Nat) (v : Int32) : ab_S := (σ.1, σ.2.1, ab_up σ.2.2.1 q j v, σ.2.2.2)
def ab_sr (σ : ab_S) (q j : Nat) (v : Option Nat) : ab_S := (σ.1, σ.2.1, σ.2.2.1, ab_up σ.2.2.2 q j v)
theorem ab_ws_at {G : ab_G} {σ : ab_S} {q : Nat} (h : q < σ.1) : (ab_ws G σ)[q]? = some (ab_a G q, ab_cell G σ q) := by
  simp [ab_ws, h]
theorem ab_ws_obj {G : ab_G} {σ : ab_S} {q ci : Nat} (h : ab_is σ q ci) (hc : ci < 100) : (ab_ws G σ)[q]? = some (ab_a G q, .inr (ci, (List.range (ab_nf ci)).map (ab_fv G σ ci q))) := by
  rw [ab_ws_at h.1, ab_cell, h.2, if_pos hc]
theorem ab_ws_arr {G : ab_G} {σ : ab_S} {q ci : Nat} (h : ab_is σ q ci) (hc : ¬ ci < 100) : (ab_ws G σ)[q]? = some (ab_a G q, .inl (G.2.2.1 ci, ab_arr G σ q)) := by
  rw [ab_ws_at h.1, ab_cell, h.2, if_neg hc]
theorem ab_cell_congr {G : ab_G} {σ σ' : ab_S} {k : Nat} (h1 : σ'.2.1 k = σ.2.1 k) (h2 : σ'.2.2.1 k = σ.2.2.1 k) (h3 : σ'.2.2.2 k = σ.2.2.2 k) : ab_cell G σ' k = ab_cell G σ k := by
  have e : ∀ ci : Nat, ab_fv G σ' ci k = ab_fv G σ ci k := fun ci => by
    funext j
    simp only [ab_fv, h2, h3]
  simp only [ab_cell, ab_arr, h1, h2, h3, e]
theorem ab_up_row {α : Type} {f : Nat → Nat → α} {q j k : Nat} {v : α} (h : k ≠ q) : ab_up f q j v k = f k := by
  funext i
  simp [ab_up, h]
theorem ab_ws_set {G : ab_G} {σ σ' : ab_S} {q : Nat} (hn : σ'.1 = σ.1) (ho : ∀ k, k ≠ q → ab_cell G σ' k = ab_cell G σ k) : (ab_ws G σ).set q (ab_a G q, ab_cell G σ' q) = ab_ws G σ' := by
  apply List.ext_getElem?
  intro k
  rw [List.getElem?_set]
  by_cases hk : q = k
  · subst hk
    rw [if_pos rfl]
    by_cases hl : q < σ.1
    · rw [if_pos (by simpa [ab_ws] using hl), ab_ws_at (by rw [hn]; exact hl)]
    · rw [if_neg (by simpa [ab_ws] using hl), eq_comm, List.getElem?_eq_none_iff]
      simpa [ab_ws, hn] using hl
  · rw [if_neg hk]
    simp only [ab_ws, List.getElem?_map, hn]
    cases h : (List.range σ.1)[k]? with
    | none => rfl
    | some x =>
      have hx : x = k := by
        have := List.getElem?_eq_some_iff.mp h
        obtain ⟨h1, h2⟩ := this
        simp at h2
        exact h2.symm
      subst hx
      simp [ho x (fun e => hk e.symm)]
theorem ab_ws_push {G : ab_G} {σ σ' : ab_S} (hn : σ'.1 = σ.1 + 1) (ho : ∀ k, k < σ.1 → ab_cell G σ' k = ab_cell G σ k) : ab_ws G σ ++ [(ab_a G σ.1, ab_cell G σ' σ.1)] = ab_ws G σ' := by
  simp only [ab_ws, hn, List.range_succ, List.map_append, List.map_cons, List.map_nil]
  congr 1
  apply List.map_congr_left
  intro k hk
  rw [ho k (List.mem_range.mp hk)]
theorem ab_up_ne {α : Type} {f : Nat → Nat → α} {q j q' j' : Nat} {v : α} (h : q' ≠ q) : ab_up f q j v q' j' = f q' j' := by
  simp [ab_up, h]
theorem ab_up_eq {α : Type} {f : Nat → Nat → α} {q j : Nat} {v : α} : ab_up f q j v q j = v := by
  simp [ab_up]
theorem ab_up_nj {α : Type} {f : Nat → Nat → α} {q j q' j' : Nat} {v : α} (h : j' ≠ j) : ab_up f q j v q' j' = f q' j' := by
  simp [ab_up, h]
/-- a field's store -/
theorem ab_set_fi {G : ab_G} {σ : ab_S} {q ci j : Nat} {v : Int32} (h : ab_is σ q ci) (hc : ci < 100) (hr : ab_isR (ab_ty ci j) = false) : (ab_ws G σ).set q (ab_a G q, .inr (ci, ((List.range (ab_nf ci)).map (ab_fv G σ ci q)).set j (.int v))) = ab_ws G (ab_si σ q j v) := by
  rw [← ab_ws_set (σ := σ) (σ' := ab_si σ q j v) (q := q) (G := G) rfl (fun k hk => ?_)]
  · congr 2
    simp only [ab_cell, ab_si, h.2, if_pos hc]
    congr 2
    apply List.ext_getElem?
    intro i
    rw [List.getElem?_set]
    by_cases hi : j = i
    · subst hi
      by_cases hl : j < ab_nf ci
      · simp [hl, ab_fv, hr, ab_up]
      · simp [hl]
    · rw [if_neg hi]
      simp only [List.getElem?_map]
      cases hx : (List.range (ab_nf ci))[i]? with
      | none => rfl
      | some x =>
        obtain ⟨h1, h2⟩ := List.getElem?_eq_some_iff.mp hx
        simp at h2
        subst h2
        simp [ab_fv, ab_up, Ne.symm hi]
  · exact ab_cell_congr rfl (ab_up_row hk) rfl
theorem ab_set_fr {G : ab_G} {σ : ab_S} {q ci j : Nat} {v : Option Nat} (h : ab_is σ q ci) (hc : ci < 100) (hr : ab_isR (ab_ty ci j) = true) : (ab_ws G σ).set q (ab_a G q, .inr (ci, ((List.range (ab_nf ci)).map (ab_fv G σ ci q)).set j (va_rf (v.map (ab_a G))))) = ab_ws G (ab_sr σ q j v) := by
  rw [← ab_ws_set (σ := σ) (σ' := ab_sr σ q j v) (q := q) (G := G) rfl (fun k hk => ?_)]
  · congr 2
    simp only [ab_cell, ab_sr, h.2, if_pos hc]
    congr 2
    apply List.ext_getElem?
    intro i
    rw [List.getElem?_set]
    by_cases hi : j = i
    · subst hi
      by_cases hl : j < ab_nf ci
      · simp [hl, ab_fv, hr, ab_up]
      · simp [hl]
    · rw [if_neg hi]
      simp only [List.getElem?_map]
      cases hx : (List.range (ab_nf ci))[i]? with
      | none => rfl
      | some x =>
        obtain ⟨h1, h2⟩ := List.getElem?_eq_some_iff.mp hx
        simp at h2
        subst h2
        simp [ab_fv, ab_up, Ne.symm hi]
  · exact ab_cell_congr rfl rfl (ab_up_row hk)
theorem ab_set_ai {G : ab_G} {σ : ab_S} {q ci j : Nat} {v : Int32} (h : ab_is σ q ci) (hc : ¬ ci < 100) (h2 : ci < 102) : (ab_ws G σ).set q (ab_a G q, .inl (G.2.2.1 ci, (σ.2.1 q).2, .inl (upd (σ.2.2.1 q) j v))) = ab_ws G (ab_si σ q j v) := by
  rw [← ab_ws_set (σ := σ) (σ' := ab_si σ q j v) (q := q) (G := G) rfl (fun k hk => ?_)]
  · congr 2
    simp only [ab_cell, ab_arr, ab_si, h.2, if_neg hc, if_pos h2]
    congr 4
    funext i
    simp [upd, ab_up]
  · exact ab_cell_congr rfl (ab_up_row hk) rfl
theorem ab_set_ar {G : ab_G} {σ : ab_S} {q ci j : Nat} {v : Option Nat} (h : ab_is σ q ci) (hc : ¬ ci < 100) (h2 : ¬ ci < 102) : (ab_ws G σ).set q (ab_a G q, .inl (G.2.2.1 ci, (σ.2.1 q).2, .inr (.inr (.inr (.inr (va_up (fun j => (σ.2.2.2 q j).map (ab_a G)) j (v.map (ab_a G)))))))) = ab_ws G (ab_sr σ q j v) := by
  rw [← ab_ws_set (σ := σ) (σ' := ab_sr σ q j v) (q := q) (G := G) rfl (fun k hk => ?_)]
  · congr 2
    simp only [ab_cell, ab_arr, ab_sr, h.2, if_neg hc, if_neg h2]
    congr 7
    funext i
    by_cases hi : i = j
    · subst hi; simp [va_up, ab_up]
    · simp [va_up, ab_up, hi]
  · exact ab_cell_congr rfl rfl (ab_up_row hk)
/-- a new place: of kind kd, length len, all default -/
def ab_nw (σ : ab_S) (kd len : Nat) : ab_S := (σ.1 + 1, (fun q => if q = σ.1 then (kd, len) else σ.2.1 q), (fun q j => if q = σ.1 then 0 else σ.2.2.1 q j), (fun q j => if q = σ.1 then none else σ.2.2.2 q j))
theorem ab_push {G : ab_G} {σ : ab_S} {kd len : Nat} : ab_ws G σ ++ [(ab_a G σ.1, ab_cell G (ab_nw σ kd len) σ.1)] = ab_ws G (ab_nw σ kd len) := by
  refine ab_ws_push rfl (fun k hk => ?_)
  have hk : k ≠ σ.1 := Nat.ne_of_lt hk
  exact ab_cell_congr (if_neg hk) (by funext j; exact if_neg hk) (by funext j; exact if_neg hk)
