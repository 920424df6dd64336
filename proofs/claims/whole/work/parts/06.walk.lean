/-! THE WALK'S JUDGEMENT over the abstract store -/
def ab_tys (dA : Nat → ClassId) : List (ClassId × FieldType) := [(dA 100, .int), (dA 101, .boolean), (dA 102, .object RX6), (dA 103, .object RX0)]
def ab_K (G : ab_G) (U : State) : Prop := va_K G.2.2.2 vwCl (ab_tys G.2.2.1) U ∧ va_AO RX6 U ∧ va_AO RX0 U ∧ (∀ w ∈ ab_nest, va_Nw w U) ∧ ∀ w ∈ ab_nestf, va_Nw w U
def ab_al (j : Nat) : Int32 := ([6, 5, 4090, 4084, 12, 12, 12, 12, 12, 12, 12, 12] : List Int32).getD j 0
def ab_Z (G : ab_G) (A : Nat → Prop) (U : State) (H : Heap) : Prop := va_Z "ServerHouse" "ALLOWED" "[I" (.ref G.2.1) A U H ∧ va_T .int G.2.1 12 (fun j => .int (ab_al j)) A U H
def ab_I (M : ab_M) (G : ab_G) (A : Nat → Prop) (p : Program) (s : State) (m : MethodId) (args : Array Value) (meth : Method) (c : Code) : Prop :=
  p.tables.exec = Jvm.exec ∧ c.code = M.2.1 ∧ meth.sig.returnType = M.2.2.2 ∧ c.maxLocals = M.2.2.1 ∧ s.vm.findClass M.1.cls = some m.cls ∧ (∀ w ∈ gw, w.before args s = true) ∧ meth.locks = false ∧ meth.name = M.1.name ∧ (∀ q, s.heap.size ≤ q → A q) ∧ ab_K G s ∧ ab_Z G A s s.heap
def ab_L (G : ab_G) (lsA : Array Slot) (n : Nat) (ls : List (Option Value)) : Prop := lsA.size = n ∧ lv_wf lsA ∧ ∀ (i : Nat) (v : Value), ls[i]? = some (some v) → lsA[i]? = some (.val (ab_c G v))
def ab_rm (d mc ms : Nat) : Room := { frames := d, cells := mc, slots := ms, locals := 36 * d + 20 }
def ab_Q (G : ab_G) (tt : Prop) (mc : Nat) (Q : Option Value → ab_S → Prop) (A : Nat → Prop) : Array Value → State → Outcome → State → Prop := fun _ st oc t =>
  (∃ (r : Option Value) (σ : ab_S), oc = .returned (r.map (ab_c G)) ∧ Q r σ ∧ va_P G.2.2.2 vwCl (ab_ws G σ) t.heap ∧ va_D A (ab_ws G σ) ∧ (tt → t.heap.size = st.heap.size + mc ∧ t.heap.size = G.1 + σ.1)) ∧ va_F A st t
/-- the machine, in the frame of method M at pc, with locals ls and operands st over the store σ, comes to M's end with Q; k cells of n slots have been made so far -/
def ab_V (M : ab_M) (d mc ms : Nat) (tt : Prop) (Q : Option Value → ab_S → Prop) (k n pc : Nat) (ls : List (Option Value)) (st : List Value) (σ : ab_S) : Prop :=
  ∀ (p : Program) (l : Launch) (e : Env) (s : State) (m : MethodId) (args : Array Value) (below : List Frame) (meth : Method) (c : Code) (H : Heap) (locs : List Loc) (lsA : Array Slot) (G : ab_G) (A : Nat → Prop),
    ab_I M G A p s m args meth c → ab_L G lsA M.2.2.1 ls → va_P G.2.2.2 vwCl (ab_ws G σ) H → va_D A (ab_ws G σ) → va_S A s.heap H locs → (tt → H.size = s.heap.size + k ∧ H.size = G.1 + σ.1) →
    W p l e (ab_rm d mc ms) s m args below meth c H locs k n (MQ below (ab_Q G tt mc Q A) args s mc ms A) (F0 m pc lsA (st.map (ab_c G)))
/-- the CONTRACT of a method at these arguments and this store -/
def ab_Met (M : ab_M) (d mc ms : Nat) (tt : Prop) (av : List Value) (σ : ab_S) (Q : Option Value → ab_S → Prop) : Prop :=
  ∀ (l : Launch) (G : ab_G) (sz : Nat), Met l M.1 (Cond.code M.1 M.2.1 M.2.2.1 M.2.2.2 :: gw) (ab_rm d mc ms)
    (va_Pc (av.map (ab_c G)) (fun U => U.heap.size = sz ∧ va_P G.2.2.2 vwCl (ab_ws G σ) U.heap ∧ va_D (fun _ => True) (ab_ws G σ) ∧ ab_K G U ∧ ab_Z G (va_A (ab_ws G σ) sz) U U.heap ∧ (tt → sz = G.1 + σ.1)))
    (ab_Q G tt mc Q (va_A (ab_ws G σ) sz)) mc ms (va_A (ab_ws G σ) sz)
/-- the locals at a method's entry -/
def ab_en (av : List Value) (n : Nat) : List (Option Value) := (av.flatMap fun v => if v.category = 2 then [some v, none] else [some v]) ++ List.replicate (n - (av.flatMap fun v => if v.category = 2 then [some v, (none : Option Value)] else [some v]).length) none
theorem ab_c_cat (G : ab_G) (v : Value) : (ab_c G v).category = v.category := by
  cases v <;> rfl
theorem ab_sl (G : ab_G) : ∀ (av : List Value) (i : Nat) (v : Value), (av.flatMap fun v => if v.category = 2 then [some v, (none : Option Value)] else [some v])[i]? = some (some v) → (lg_sl (av.map (ab_c G)))[i]? = some (.val (ab_c G v))
  | [], i, v, h => by simp at h
  | a :: av, i, v, h => by
    have e1 : lg_sl ((a :: av).map (ab_c G)) = (if (ab_c G a).category = 2 then [Slot.val (ab_c G a), .second] else [.val (ab_c G a)]) ++ lg_sl (av.map (ab_c G)) := by simp [lg_sl]
    rw [e1, ab_c_cat]
    rw [List.flatMap_cons] at h
    by_cases hc : a.category = 2
    · rw [if_pos hc] at h ⊢
      match i, h with
      | 0, h => simp at h; subst h; rfl
      | 1, h => simp at h
      | i + 2, h => exact ab_sl G av i v h
    · rw [if_neg hc] at h ⊢
      match i, h with
      | 0, h => simp at h; subst h; rfl
      | i + 1, h => exact ab_sl G av i v h
theorem ab_sl_len (G : ab_G) (av : List Value) : (lg_sl (av.map (ab_c G))).length = (av.flatMap fun v => if v.category = 2 then [some v, (none : Option Value)] else [some v]).length := by
  induction av with
  | nil => rfl
  | cons a av ih =>
    have e1 : lg_sl ((a :: av).map (ab_c G)) = (if (ab_c G a).category = 2 then [Slot.val (ab_c G a), .second] else [.val (ab_c G a)]) ++ lg_sl (av.map (ab_c G)) := by simp [lg_sl]
    rw [e1, ab_c_cat, List.flatMap_cons, List.length_append, List.length_append, ih]
    by_cases hc : a.category = 2
    · simp [hc]
    · simp [hc]
theorem ab_en_L (G : ab_G) (av : List Value) (n : Nat) (h : (av.flatMap fun v => if v.category = 2 then [some v, (none : Option Value)] else [some v]).length ≤ n) : ab_L G ((lg_sl (av.map (ab_c G)) ++ List.replicate (n - (lg_sl (av.map (ab_c G))).length) Slot.unset).toArray) n (ab_en av n) := by
  have h1 := lv_entry (av.map (ab_c G)) (n := n) (by rw [ab_sl_len]; exact h)
  refine ⟨h1.1, h1.2.1, fun i v hi => ?_⟩
  unfold ab_en at hi
  by_cases hl : i < (av.flatMap fun v => if v.category = 2 then [some v, (none : Option Value)] else [some v]).length
  · rw [List.getElem?_append_left hl] at hi
    have h2 := ab_sl G av i v hi
    have hl2 : i < (lg_sl (av.map (ab_c G))).length := by rw [ab_sl_len]; exact hl
    rw [List.getElem?_toArray, List.getElem?_append_left hl2]
    exact h2
  · rw [List.getElem?_append_right (Nat.le_of_not_lt hl)] at hi
    have := List.mem_of_getElem? hi
    simp at this
/-- a contract out of a walk -/
theorem ab_Met.of {M : ab_M} {d mc ms : Nat} {tt : Prop} {av : List Value} {σ : ab_S} {Q : Option Value → ab_S → Prop} (hy : plainName M.1.cls = true) (hl : (av.flatMap fun v => if v.category = 2 then [some v, (none : Option Value)] else [some v]).length ≤ M.2.2.1)
    (h : ab_V M d mc ms tt Q 0 0 0 (ab_en av M.2.2.1) [] σ) : ab_Met M d mc ms tt av σ Q := by
  intro l G sz
  refine Met.ofW (cc := M.2.1) (maxL := M.2.2.1) (ret := M.2.2.2) hy rfl ?_
  intro p e s m args below meth c s₁ B hml hv
  obtain ⟨rfl, hsz, hP, hD, hK, hZ, ht⟩ := hv
  have hts := atoms_spec (ws := Cond.code M.1 M.2.1 M.2.2.1 M.2.2.2 :: gw) B.pre
  subst hsz
  rw [lg_entry_eq]
  exact h p l e s m _ below meth c s.heap [] _ G (va_A (ab_ws G σ) s.heap.size) ⟨B.exec, B.bytes, B.returns, hml, findClass_of_methodNamed B.named, fun w hw => hts w (List.mem_cons_of_mem _ hw), B.notSynchronized, (name_of_methodNamed B.named B.method).1, fun q hq => Or.inr hq, hK, hZ⟩ (ab_en_L G av _ hl) hP hD.self va_S.rf (fun h => ⟨rfl, ht h⟩)
/-- a weaker end -/
theorem ab_Met.imp {M : ab_M} {d mc ms : Nat} {tt : Prop} {av : List Value} {σ : ab_S} {Q Q' : Option Value → ab_S → Prop} (h : ab_Met M d mc ms tt av σ Q) (hq : ∀ r σ', Q r σ' → Q' r σ') : ab_Met M d mc ms tt av σ Q' := by
  intro l G sz
  have h1 := h l G sz
  intro p e ha hc hk s m args below hf hap hp htr
  obtain ⟨k, o, a1, a2, a3, a4⟩ := h1 p e ha hc hk s m args below hf hap hp htr
  refine ⟨k, o, a1, a2, a3, ?_, a4.2⟩
  obtain ⟨⟨r, σ', b1, b2, b3⟩, b4⟩ := a4.1
  exact ⟨⟨r, σ', b1, hq r σ' b2, b3⟩, b4⟩
section ABV
variable {M : ab_M} {d mc ms : Nat} {tt : Prop} {Q : Option Value → ab_S → Prop} {kc ks pc : Nat} {ls : List (Option Value)} {st : List Value} {σ : ab_S}
theorem ab_iconst {n : Int} {v : Int32} (hd : decode M.2.1 pc = .ok (.iconst n, 1)) (hv : Int32.ofInt n = v) (k : ab_V M d mc ms tt Q kc ks (pc + 1) ls (.int v :: st) σ) : ab_V M d mc ms tt Q kc ks (pc) ls (st) σ := by
  intro p l e s m args below meth c H locs lsA G A hI hL hP hD hS ht
  exact lv_iconst hI.1 hI.2.1 hd hv (k p l e s m args below meth c H locs lsA G A hI hL hP hD hS ht)
theorem ab_bipush {n : Int} {v : Int32} (hd : decode M.2.1 pc = .ok (.bipush n, 2)) (hv : (Int8.ofInt n).toInt32 = v) (k : ab_V M d mc ms tt Q kc ks (pc + 2) ls (.int v :: st) σ) : ab_V M d mc ms tt Q kc ks (pc) ls (st) σ := by
  intro p l e s m args below meth c H locs lsA G A hI hL hP hD hS ht
  exact lv_bipush hI.1 hI.2.1 hd hv (k p l e s m args below meth c H locs lsA G A hI hL hP hD hS ht)
theorem ab_sipush {n : Int} {v : Int32} (hd : decode M.2.1 pc = .ok (.sipush n, 3)) (hv : (Int16.ofInt n).toInt32 = v) (k : ab_V M d mc ms tt Q kc ks (pc + 3) ls (.int v :: st) σ) : ab_V M d mc ms tt Q kc ks (pc) ls (st) σ := by
  intro p l e s m args below meth c H locs lsA G A hI hL hP hD hS ht
  exact lv_sipush hI.1 hI.2.1 hd hv (k p l e s m args below meth c H locs lsA G A hI hL hP hD hS ht)
theorem ab_lconst {n : Fin 2} {v : Int64} (hd : decode M.2.1 pc = .ok (.lconst n, 1)) (hv : Int64.ofNat (n : Nat) = v) (k : ab_V M d mc ms tt Q kc ks (pc + 1) ls (.long v :: st) σ) : ab_V M d mc ms tt Q kc ks (pc) ls (st) σ := by
  intro p l e s m args below meth c H locs lsA G A hI hL hP hD hS ht
  exact lv_lconst hI.1 hI.2.1 hd hv (k p l e s m args below meth c H locs lsA G A hI hL hP hD hS ht)
theorem ab_null (hd : decode M.2.1 pc = .ok (.aconst_null, 1)) (k : ab_V M d mc ms tt Q kc ks (pc + 1) ls (.null :: st) σ) : ab_V M d mc ms tt Q kc ks (pc) ls (st) σ := by
  intro p l e s m args below meth c H locs lsA G A hI hL hP hD hS ht
  exact lv_null hI.1 hI.2.1 hd (k p l e s m args below meth c H locs lsA G A hI hL hP hD hS ht)
theorem ab_ldc2 {i : Nat} {v : Int64} (hd : decode M.2.1 pc = .ok (.ldc2_w i, 3)) (hw : Cond.constantLong M.1.cls i v ∈ gw) (k : ab_V M d mc ms tt Q kc ks (pc + 3) ls (.long v :: st) σ) : ab_V M d mc ms tt Q kc ks (pc) ls (st) σ := by
  intro p l e s m args below meth c H locs lsA G A hI hL hP hD hS ht
  exact lv_ldc2 hI.1 hI.2.1 hI.2.2.2.2.1 (hI.2.2.2.2.2.1 _ hw) hd (k p l e s m args below meth c H locs lsA G A hI hL hP hD hS ht)
theorem ab_iload_n {j : Fin 4} {i : Nat} {x : Int32} (hd : decode M.2.1 pc = .ok (.iload_n j, 1)) (hi : (j : Nat) = i) (hl : ls[i]? = some (some (.int x))) (k : ab_V M d mc ms tt Q kc ks (pc + 1) ls (.int x :: st) σ) : ab_V M d mc ms tt Q kc ks (pc) ls (st) σ := by
  intro p l e s m args below meth c H locs lsA G A hI hL hP hD hS ht
  exact lv_iload_n hI.1 hI.2.1 hd hi (hL.2.2 _ _ hl) (k p l e s m args below meth c H locs lsA G A hI hL hP hD hS ht)
theorem ab_iload {i : Nat} {x : Int32} (hd : decode M.2.1 pc = .ok (.iload i, 2)) (hl : ls[i]? = some (some (.int x))) (k : ab_V M d mc ms tt Q kc ks (pc + 2) ls (.int x :: st) σ) : ab_V M d mc ms tt Q kc ks (pc) ls (st) σ := by
  intro p l e s m args below meth c H locs lsA G A hI hL hP hD hS ht
  exact lv_iload hI.1 hI.2.1 hd (hL.2.2 _ _ hl) (k p l e s m args below meth c H locs lsA G A hI hL hP hD hS ht)
theorem ab_lload_n {j : Fin 4} {i : Nat} {x : Int64} (hd : decode M.2.1 pc = .ok (.lload_n j, 1)) (hi : (j : Nat) = i) (hl : ls[i]? = some (some (.long x))) (k : ab_V M d mc ms tt Q kc ks (pc + 1) ls (.long x :: st) σ) : ab_V M d mc ms tt Q kc ks (pc) ls (st) σ := by
  intro p l e s m args below meth c H locs lsA G A hI hL hP hD hS ht
  exact lv_lload_n hI.1 hI.2.1 hd hi (hL.2.2 _ _ hl) (k p l e s m args below meth c H locs lsA G A hI hL hP hD hS ht)
theorem ab_lload {i : Nat} {x : Int64} (hd : decode M.2.1 pc = .ok (.lload i, 2)) (hl : ls[i]? = some (some (.long x))) (k : ab_V M d mc ms tt Q kc ks (pc + 2) ls (.long x :: st) σ) : ab_V M d mc ms tt Q kc ks (pc) ls (st) σ := by
  intro p l e s m args below meth c H locs lsA G A hI hL hP hD hS ht
  exact lv_lload hI.1 hI.2.1 hd (hL.2.2 _ _ hl) (k p l e s m args below meth c H locs lsA G A hI hL hP hD hS ht)
theorem ab_aload_n {j : Fin 4} {i : Nat} {x : Nat} (hd : decode M.2.1 pc = .ok (.aload_n j, 1)) (hi : (j : Nat) = i) (hl : ls[i]? = some (some (.ref x))) (k : ab_V M d mc ms tt Q kc ks (pc + 1) ls (.ref x :: st) σ) : ab_V M d mc ms tt Q kc ks (pc) ls (st) σ := by
  intro p l e s m args below meth c H locs lsA G A hI hL hP hD hS ht
  exact lv_aload_n hI.1 hI.2.1 hd hi (hL.2.2 _ _ hl) (k p l e s m args below meth c H locs lsA G A hI hL hP hD hS ht)
theorem ab_aload {i : Nat} {x : Nat} (hd : decode M.2.1 pc = .ok (.aload i, 2)) (hl : ls[i]? = some (some (.ref x))) (k : ab_V M d mc ms tt Q kc ks (pc + 2) ls (.ref x :: st) σ) : ab_V M d mc ms tt Q kc ks (pc) ls (st) σ := by
  intro p l e s m args below meth c H locs lsA G A hI hL hP hD hS ht
  exact lv_aload hI.1 hI.2.1 hd (hL.2.2 _ _ hl) (k p l e s m args below meth c H locs lsA G A hI hL hP hD hS ht)
theorem ab_aload_nN {j : Fin 4} {i : Nat} (hd : decode M.2.1 pc = .ok (.aload_n j, 1)) (hi : (j : Nat) = i) (hl : ls[i]? = some (some (.null))) (k : ab_V M d mc ms tt Q kc ks (pc + 1) ls (.null :: st) σ) : ab_V M d mc ms tt Q kc ks (pc) ls (st) σ := by
  intro p l e s m args below meth c H locs lsA G A hI hL hP hD hS ht
  exact lv_aload_nN hI.1 hI.2.1 hd hi (hL.2.2 _ _ hl) (k p l e s m args below meth c H locs lsA G A hI hL hP hD hS ht)
theorem ab_aloadN {i : Nat} (hd : decode M.2.1 pc = .ok (.aload i, 2)) (hl : ls[i]? = some (some (.null))) (k : ab_V M d mc ms tt Q kc ks (pc + 2) ls (.null :: st) σ) : ab_V M d mc ms tt Q kc ks (pc) ls (st) σ := by
  intro p l e s m args below meth c H locs lsA G A hI hL hP hD hS ht
  exact lv_aloadN hI.1 hI.2.1 hd (hL.2.2 _ _ hl) (k p l e s m args below meth c H locs lsA G A hI hL hP hD hS ht)
def ab_as (G : ab_G) (ls : List (Option Value)) : List (Nat × Value) := ls.zipIdx.filterMap (fun x => x.1.map (fun v => (x.2, ab_c G v)))
theorem ab_as_mem {G : ab_G} {ls : List (Option Value)} {i : Nat} {w : Value} : (i, w) ∈ ab_as G ls ↔ ∃ v, ls[i]? = some (some v) ∧ w = ab_c G v := by
  constructor
  · intro h
    obtain ⟨⟨o, j⟩, h1, h2⟩ := List.mem_filterMap.mp h
    cases o with
    | none => cases h2
    | some v =>
      simp only [Option.map_some, Option.some.injEq, Prod.mk.injEq] at h2
      obtain ⟨rfl, rfl⟩ := h2
      exact ⟨v, by simpa [List.mk_mem_zipIdx_iff_getElem?] using h1, rfl⟩
  · rintro ⟨v, h1, rfl⟩
    exact List.mem_filterMap.mpr ⟨(some v, i), by simpa [List.mk_mem_zipIdx_iff_getElem?] using h1, rfl⟩
theorem ab_L.has {G : ab_G} {lsA : Array Slot} {n : Nat} {ls : List (Option Value)} (h : ab_L G lsA n ls) : lv_has lsA n (ab_as G ls) := by
  refine ⟨h.1, h.2.1, fun q hq => ?_⟩
  obtain ⟨i, w⟩ := q
  obtain ⟨v, h1, rfl⟩ := ab_as_mem.mp hq
  exact h.2.2 i v h1
/-- no long stands right before place i -/
def ab_nl (ls : List (Option Value)) (i : Nat) : Bool := match i with
  | 0 => true
  | i + 1 => match ls[i]? with
    | some (some v) => v.category == 1
    | _ => true
theorem ab_L.set {G : ab_G} {lsA : Array Slot} {n i : Nat} {ls : List (Option Value)} {v : Value} (hb : ab_nl ls i = true) (h : lv_has lsA n ((i, ab_c G v) :: (ab_as G ls).filter (fun q => !(q.1 == i) && !(q.1 + 1 == i && q.2.category == 2)))) : ab_L G lsA n (ls.set i (some v)) := by
  refine ⟨h.1, h.2.1, fun j w hj => ?_⟩
  rw [List.getElem?_set] at hj
  by_cases hij : i = j
  · subst hij
    rw [if_pos rfl] at hj
    split at hj
    · cases hj
      exact h.2.2 _ List.mem_cons_self
    · cases hj
  · rw [if_neg hij] at hj
    refine h.2.2 (j, ab_c G w) (List.mem_cons_of_mem _ (List.mem_filter.mpr ⟨ab_as_mem.mpr ⟨w, hj, rfl⟩, ?_⟩))
    simp only [Bool.and_eq_true, Bool.not_eq_true', beq_eq_false_iff_ne, ne_eq, Bool.and_eq_false_iff]
    refine ⟨fun e => hij e.symm, ?_⟩
    by_cases hc : j + 1 = i
    · right
      subst hc
      have hb : (match ls[j]? with | some (some v) => v.category == 1 | _ => true) = true := hb
      rw [hj] at hb
      rw [ab_c_cat]
      have : w.category = 1 := by simpa using hb
      omega
    · left
      exact hc
theorem ab_istore_n {j : Fin 4} {i : Nat} {x : Int32} (hd : decode M.2.1 pc = .ok (.istore_n j, 1)) (hi : (j : Nat) = i) (hn : i < M.2.2.1) (hb : ab_nl ls i = true) (k : ab_V M d mc ms tt Q kc ks (pc + 1) (ls.set i (some (.int x))) (st) σ) : ab_V M d mc ms tt Q kc ks (pc) ls (.int x :: st) σ := by
  intro p l e s m args below meth c H locs lsA G A hI hL hP hD hS ht
  exact lv_istore_n hI.1 hI.2.1 hd hi hL.has hn rfl (fun ls2 h2 => k p l e s m args below meth c H locs ls2 G A hI (ab_L.set (v := .int x) hb h2) hP hD hS ht)
theorem ab_istore {i : Nat} {x : Int32} (hd : decode M.2.1 pc = .ok (.istore i, 2)) (hn : i < M.2.2.1) (hb : ab_nl ls i = true) (k : ab_V M d mc ms tt Q kc ks (pc + 2) (ls.set i (some (.int x))) (st) σ) : ab_V M d mc ms tt Q kc ks (pc) ls (.int x :: st) σ := by
  intro p l e s m args below meth c H locs lsA G A hI hL hP hD hS ht
  exact lv_istore hI.1 hI.2.1 hd hL.has hn rfl (fun ls2 h2 => k p l e s m args below meth c H locs ls2 G A hI (ab_L.set (v := .int x) hb h2) hP hD hS ht)
theorem ab_astore_n {j : Fin 4} {i : Nat} {x : Nat} (hd : decode M.2.1 pc = .ok (.astore_n j, 1)) (hi : (j : Nat) = i) (hn : i < M.2.2.1) (hb : ab_nl ls i = true) (k : ab_V M d mc ms tt Q kc ks (pc + 1) (ls.set i (some (.ref x))) (st) σ) : ab_V M d mc ms tt Q kc ks (pc) ls (.ref x :: st) σ := by
  intro p l e s m args below meth c H locs lsA G A hI hL hP hD hS ht
  exact lv_astore_n hI.1 hI.2.1 hd hi hL.has hn rfl (fun ls2 h2 => k p l e s m args below meth c H locs ls2 G A hI (ab_L.set (v := .ref x) hb h2) hP hD hS ht)
theorem ab_astore {i : Nat} {x : Nat} (hd : decode M.2.1 pc = .ok (.astore i, 2)) (hn : i < M.2.2.1) (hb : ab_nl ls i = true) (k : ab_V M d mc ms tt Q kc ks (pc + 2) (ls.set i (some (.ref x))) (st) σ) : ab_V M d mc ms tt Q kc ks (pc) ls (.ref x :: st) σ := by
  intro p l e s m args below meth c H locs lsA G A hI hL hP hD hS ht
  exact lv_astore hI.1 hI.2.1 hd hL.has hn rfl (fun ls2 h2 => k p l e s m args below meth c H locs ls2 G A hI (ab_L.set (v := .ref x) hb h2) hP hD hS ht)
theorem ab_astore_nN {j : Fin 4} {i : Nat} (hd : decode M.2.1 pc = .ok (.astore_n j, 1)) (hi : (j : Nat) = i) (hn : i < M.2.2.1) (hb : ab_nl ls i = true) (k : ab_V M d mc ms tt Q kc ks (pc + 1) (ls.set i (some (.null))) (st) σ) : ab_V M d mc ms tt Q kc ks (pc) ls (.null :: st) σ := by
  intro p l e s m args below meth c H locs lsA G A hI hL hP hD hS ht
  exact lv_astore_nN hI.1 hI.2.1 hd hi hL.has hn rfl (fun ls2 h2 => k p l e s m args below meth c H locs ls2 G A hI (ab_L.set (v := .null) hb h2) hP hD hS ht)
theorem ab_astoreN {i : Nat} (hd : decode M.2.1 pc = .ok (.astore i, 2)) (hn : i < M.2.2.1) (hb : ab_nl ls i = true) (k : ab_V M d mc ms tt Q kc ks (pc + 2) (ls.set i (some (.null))) (st) σ) : ab_V M d mc ms tt Q kc ks (pc) ls (.null :: st) σ := by
  intro p l e s m args below meth c H locs lsA G A hI hL hP hD hS ht
  exact lv_astoreN hI.1 hI.2.1 hd hL.has hn rfl (fun ls2 h2 => k p l e s m args below meth c H locs ls2 G A hI (ab_L.set (v := .null) hb h2) hP hD hS ht)
theorem ab_iinc {i : Nat} {n : Int} {x v : Int32} (hd : decode M.2.1 pc = .ok (.iinc i n, 3)) (hl : ls[i]? = some (some (.int x))) (hv : x + Int32.ofInt n = v) (hn : i < M.2.2.1) (hb : ab_nl ls i = true) (k : ab_V M d mc ms tt Q kc ks (pc + 3) (ls.set i (some (.int v))) (st) σ) : ab_V M d mc ms tt Q kc ks (pc) ls (st) σ := by
  intro p l e s m args below meth c H locs lsA G A hI hL hP hD hS ht
  obtain ⟨k0, hk0⟩ := List.getElem?_of_mem (ab_as_mem (G := G).mpr ⟨_, hl, rfl⟩)
  exact lv_iinc hI.1 hI.2.1 hd hL.has hk0 hv hn rfl (fun ls2 h2 => k p l e s m args below meth c H locs ls2 G A hI (ab_L.set (v := .int v) hb h2) hP hD hS ht)
theorem ab_iadd {x y : Int32} (hd : decode M.2.1 pc = .ok (.iadd, 1)) (k : ab_V M d mc ms tt Q kc ks (pc + 1) ls (.int (x + y) :: st) σ) : ab_V M d mc ms tt Q kc ks (pc) ls (.int y :: .int x :: st) σ := by
  intro p l e s m args below meth c H locs lsA G A hI hL hP hD hS ht
  exact lv_iadd hI.1 hI.2.1 hd (k p l e s m args below meth c H locs lsA G A hI hL hP hD hS ht)
theorem ab_isub {x y : Int32} (hd : decode M.2.1 pc = .ok (.isub, 1)) (k : ab_V M d mc ms tt Q kc ks (pc + 1) ls (.int (x - y) :: st) σ) : ab_V M d mc ms tt Q kc ks (pc) ls (.int y :: .int x :: st) σ := by
  intro p l e s m args below meth c H locs lsA G A hI hL hP hD hS ht
  exact lv_isub hI.1 hI.2.1 hd (k p l e s m args below meth c H locs lsA G A hI hL hP hD hS ht)
theorem ab_imul {x y : Int32} (hd : decode M.2.1 pc = .ok (.imul, 1)) (k : ab_V M d mc ms tt Q kc ks (pc + 1) ls (.int (x * y) :: st) σ) : ab_V M d mc ms tt Q kc ks (pc) ls (.int y :: .int x :: st) σ := by
  intro p l e s m args below meth c H locs lsA G A hI hL hP hD hS ht
  exact lv_imul hI.1 hI.2.1 hd (k p l e s m args below meth c H locs lsA G A hI hL hP hD hS ht)
theorem ab_iand {x y : Int32} (hd : decode M.2.1 pc = .ok (.iand, 1)) (k : ab_V M d mc ms tt Q kc ks (pc + 1) ls (.int (x &&& y) :: st) σ) : ab_V M d mc ms tt Q kc ks (pc) ls (.int y :: .int x :: st) σ := by
  intro p l e s m args below meth c H locs lsA G A hI hL hP hD hS ht
  exact lv_iand hI.1 hI.2.1 hd (k p l e s m args below meth c H locs lsA G A hI hL hP hD hS ht)
theorem ab_ixor {x y : Int32} (hd : decode M.2.1 pc = .ok (.ixor, 1)) (k : ab_V M d mc ms tt Q kc ks (pc + 1) ls (.int (x ^^^ y) :: st) σ) : ab_V M d mc ms tt Q kc ks (pc) ls (.int y :: .int x :: st) σ := by
  intro p l e s m args below meth c H locs lsA G A hI hL hP hD hS ht
  exact lv_ixor hI.1 hI.2.1 hd (k p l e s m args below meth c H locs lsA G A hI hL hP hD hS ht)
theorem ab_ishr {x y : Int32} (hd : decode M.2.1 pc = .ok (.ishr, 1)) (k : ab_V M d mc ms tt Q kc ks (pc + 1) ls (.int (x >>> (y &&& 31)) :: st) σ) : ab_V M d mc ms tt Q kc ks (pc) ls (.int y :: .int x :: st) σ := by
  intro p l e s m args below meth c H locs lsA G A hI hL hP hD hS ht
  exact lv_ishr hI.1 hI.2.1 hd (k p l e s m args below meth c H locs lsA G A hI hL hP hD hS ht)
theorem ab_idiv {x y : Int32} (hd : decode M.2.1 pc = .ok (.idiv, 1)) (hne : ¬ y = 0) (k : ab_V M d mc ms tt Q kc ks (pc + 1) ls (.int (x / y) :: st) σ) : ab_V M d mc ms tt Q kc ks (pc) ls (.int y :: .int x :: st) σ := by
  intro p l e s m args below meth c H locs lsA G A hI hL hP hD hS ht
  exact lv_idiv hI.1 hI.2.1 hd hne (k p l e s m args below meth c H locs lsA G A hI hL hP hD hS ht)
theorem ab_irem {x y : Int32} (hd : decode M.2.1 pc = .ok (.irem, 1)) (hne : ¬ y = 0) (k : ab_V M d mc ms tt Q kc ks (pc + 1) ls (.int (x - x / y * y) :: st) σ) : ab_V M d mc ms tt Q kc ks (pc) ls (.int y :: .int x :: st) σ := by
  intro p l e s m args below meth c H locs lsA G A hI hL hP hD hS ht
  exact lv_irem hI.1 hI.2.1 hd hne (k p l e s m args below meth c H locs lsA G A hI hL hP hD hS ht)
theorem ab_ladd {x y : Int64} (hd : decode M.2.1 pc = .ok (.ladd, 1)) (k : ab_V M d mc ms tt Q kc ks (pc + 1) ls (.long (x + y) :: st) σ) : ab_V M d mc ms tt Q kc ks (pc) ls (.long y :: .long x :: st) σ := by
  intro p l e s m args below meth c H locs lsA G A hI hL hP hD hS ht
  exact lv_ladd hI.1 hI.2.1 hd (k p l e s m args below meth c H locs lsA G A hI hL hP hD hS ht)
theorem ab_lsub {x y : Int64} (hd : decode M.2.1 pc = .ok (.lsub, 1)) (k : ab_V M d mc ms tt Q kc ks (pc + 1) ls (.long (x - y) :: st) σ) : ab_V M d mc ms tt Q kc ks (pc) ls (.long y :: .long x :: st) σ := by
  intro p l e s m args below meth c H locs lsA G A hI hL hP hD hS ht
  exact lv_lsub hI.1 hI.2.1 hd (k p l e s m args below meth c H locs lsA G A hI hL hP hD hS ht)
theorem ab_lmul {x y : Int64} (hd : decode M.2.1 pc = .ok (.lmul, 1)) (k : ab_V M d mc ms tt Q kc ks (pc + 1) ls (.long (x * y) :: st) σ) : ab_V M d mc ms tt Q kc ks (pc) ls (.long y :: .long x :: st) σ := by
  intro p l e s m args below meth c H locs lsA G A hI hL hP hD hS ht
  exact lv_lmul hI.1 hI.2.1 hd (k p l e s m args below meth c H locs lsA G A hI hL hP hD hS ht)
theorem ab_lcmp {x y : Int64} (hd : decode M.2.1 pc = .ok (.lcmp, 1)) (k : ab_V M d mc ms tt Q kc ks (pc + 1) ls (.int (lg_cmp x y) :: st) σ) : ab_V M d mc ms tt Q kc ks (pc) ls (.long y :: .long x :: st) σ := by
  intro p l e s m args below meth c H locs lsA G A hI hL hP hD hS ht
  exact W.lcmp hI.1 hI.2.1 hd (k p l e s m args below meth c H locs lsA G A hI hL hP hD hS ht)
theorem ab_i2l {x : Int32} (hd : decode M.2.1 pc = .ok (.i2l, 1)) (k : ab_V M d mc ms tt Q kc ks (pc + 1) ls (.long x.toInt64 :: st) σ) : ab_V M d mc ms tt Q kc ks (pc) ls (.int x :: st) σ := by
  intro p l e s m args below meth c H locs lsA G A hI hL hP hD hS ht
  exact lv_i2l hI.1 hI.2.1 hd rfl (k p l e s m args below meth c H locs lsA G A hI hL hP hD hS ht)
theorem ab_l2i {x : Int64} (hd : decode M.2.1 pc = .ok (.l2i, 1)) (k : ab_V M d mc ms tt Q kc ks (pc + 1) ls (.int x.toInt32 :: st) σ) : ab_V M d mc ms tt Q kc ks (pc) ls (.long x :: st) σ := by
  intro p l e s m args below meth c H locs lsA G A hI hL hP hD hS ht
  exact lv_l2i hI.1 hI.2.1 hd rfl (k p l e s m args below meth c H locs lsA G A hI hL hP hD hS ht)
theorem ab_dup {v : Value} (hd : decode M.2.1 pc = .ok (.dup, 1)) (hc : v.category = 1) (k : ab_V M d mc ms tt Q kc ks (pc + 1) ls (v :: v :: st) σ) : ab_V M d mc ms tt Q kc ks (pc) ls (v :: st) σ := by
  intro p l e s m args below meth c H locs lsA G A hI hL hP hD hS ht
  exact lv_dup hI.1 hI.2.1 hd ((ab_c_cat G v).trans hc) (k p l e s m args below meth c H locs lsA G A hI hL hP hD hS ht)
theorem ab_dup2 {v w : Value} (hd : decode M.2.1 pc = .ok (.dup2, 1)) (hc : v.category = 1) (hw : w.category = 1) (k : ab_V M d mc ms tt Q kc ks (pc + 1) ls (v :: w :: v :: w :: st) σ) : ab_V M d mc ms tt Q kc ks (pc) ls (v :: w :: st) σ := by
  intro p l e s m args below meth c H locs lsA G A hI hL hP hD hS ht
  exact lv_dup2_11 hI.1 hI.2.1 hd ((ab_c_cat G v).trans hc) ((ab_c_cat G w).trans hw) (k p l e s m args below meth c H locs lsA G A hI hL hP hD hS ht)
theorem ab_dup_x1 {v w : Value} (hd : decode M.2.1 pc = .ok (.dup_x1, 1)) (hc : v.category = 1) (hw : w.category = 1) (k : ab_V M d mc ms tt Q kc ks (pc + 1) ls (v :: w :: v :: st) σ) : ab_V M d mc ms tt Q kc ks (pc) ls (v :: w :: st) σ := by
  intro p l e s m args below meth c H locs lsA G A hI hL hP hD hS ht
  exact lv_dup_x1 hI.1 hI.2.1 hd ((ab_c_cat G v).trans hc) ((ab_c_cat G w).trans hw) (k p l e s m args below meth c H locs lsA G A hI hL hP hD hS ht)
theorem ab_pop {v : Value} (hd : decode M.2.1 pc = .ok (.pop, 1)) (hc : v.category = 1) (k : ab_V M d mc ms tt Q kc ks (pc + 1) ls (st) σ) : ab_V M d mc ms tt Q kc ks (pc) ls (v :: st) σ := by
  intro p l e s m args below meth c H locs lsA G A hI hL hP hD hS ht
  exact lv_pop hI.1 hI.2.1 hd ((ab_c_cat G v).trans hc) (k p l e s m args below meth c H locs lsA G A hI hL hP hD hS ht)
theorem ab_goto {off : Int} {tgt : Nat} (hd : decode M.2.1 pc = .ok (.goto off, 3)) (htg : (pc : Int) + off = (tgt : Int)) (k : ab_V M d mc ms tt Q kc ks (tgt) ls (st) σ) : ab_V M d mc ms tt Q kc ks (pc) ls (st) σ := by
  intro p l e s m args below meth c H locs lsA G A hI hL hP hD hS ht
  exact lv_goto hI.1 hI.2.1 hd htg (k p l e s m args below meth c H locs lsA G A hI hL hP hD hS ht)
theorem ab_if_eq {x : Int32} {off : Int} {tgt : Nat} (hd : decode M.2.1 pc = .ok (.ifCond .eq off, 3)) (htg : (pc : Int) + off = (tgt : Int)) (kt : x = 0 → ab_V M d mc ms tt Q kc ks (tgt) ls (st) σ) (kf : ¬ x = 0 → ab_V M d mc ms tt Q kc ks (pc + 3) ls (st) σ) : ab_V M d mc ms tt Q kc ks (pc) ls (.int x :: st) σ := by
  intro p l e s m args below meth c H locs lsA G A hI hL hP hD hS ht
  exact lv_if_eq hI.1 hI.2.1 hd htg (fun h => kt h p l e s m args below meth c H locs lsA G A hI hL hP hD hS ht) (fun h => kf h p l e s m args below meth c H locs lsA G A hI hL hP hD hS ht)
theorem ab_icmp_eq {x y : Int32} {off : Int} {tgt : Nat} (hd : decode M.2.1 pc = .ok (.if_icmp .eq off, 3)) (htg : (pc : Int) + off = (tgt : Int)) (kt : x = y → ab_V M d mc ms tt Q kc ks (tgt) ls (st) σ) (kf : ¬ x = y → ab_V M d mc ms tt Q kc ks (pc + 3) ls (st) σ) : ab_V M d mc ms tt Q kc ks (pc) ls (.int y :: .int x :: st) σ := by
  intro p l e s m args below meth c H locs lsA G A hI hL hP hD hS ht
  exact lv_icmp_eq hI.1 hI.2.1 hd htg (fun h => kt h p l e s m args below meth c H locs lsA G A hI hL hP hD hS ht) (fun h => kf h p l e s m args below meth c H locs lsA G A hI hL hP hD hS ht)
theorem ab_if_ne {x : Int32} {off : Int} {tgt : Nat} (hd : decode M.2.1 pc = .ok (.ifCond .ne off, 3)) (htg : (pc : Int) + off = (tgt : Int)) (kt : ¬ x = 0 → ab_V M d mc ms tt Q kc ks (tgt) ls (st) σ) (kf : x = 0 → ab_V M d mc ms tt Q kc ks (pc + 3) ls (st) σ) : ab_V M d mc ms tt Q kc ks (pc) ls (.int x :: st) σ := by
  intro p l e s m args below meth c H locs lsA G A hI hL hP hD hS ht
  exact lv_if_ne hI.1 hI.2.1 hd htg (fun h => kt h p l e s m args below meth c H locs lsA G A hI hL hP hD hS ht) (fun h => kf h p l e s m args below meth c H locs lsA G A hI hL hP hD hS ht)
theorem ab_icmp_ne {x y : Int32} {off : Int} {tgt : Nat} (hd : decode M.2.1 pc = .ok (.if_icmp .ne off, 3)) (htg : (pc : Int) + off = (tgt : Int)) (kt : ¬ x = y → ab_V M d mc ms tt Q kc ks (tgt) ls (st) σ) (kf : x = y → ab_V M d mc ms tt Q kc ks (pc + 3) ls (st) σ) : ab_V M d mc ms tt Q kc ks (pc) ls (.int y :: .int x :: st) σ := by
  intro p l e s m args below meth c H locs lsA G A hI hL hP hD hS ht
  exact lv_icmp_ne hI.1 hI.2.1 hd htg (fun h => kt h p l e s m args below meth c H locs lsA G A hI hL hP hD hS ht) (fun h => kf h p l e s m args below meth c H locs lsA G A hI hL hP hD hS ht)
theorem ab_if_lt {x : Int32} {off : Int} {tgt : Nat} (hd : decode M.2.1 pc = .ok (.ifCond .lt off, 3)) (htg : (pc : Int) + off = (tgt : Int)) (kt : x < 0 → ab_V M d mc ms tt Q kc ks (tgt) ls (st) σ) (kf : ¬ x < 0 → ab_V M d mc ms tt Q kc ks (pc + 3) ls (st) σ) : ab_V M d mc ms tt Q kc ks (pc) ls (.int x :: st) σ := by
  intro p l e s m args below meth c H locs lsA G A hI hL hP hD hS ht
  exact lv_if_lt hI.1 hI.2.1 hd htg (fun h => kt h p l e s m args below meth c H locs lsA G A hI hL hP hD hS ht) (fun h => kf h p l e s m args below meth c H locs lsA G A hI hL hP hD hS ht)
theorem ab_icmp_lt {x y : Int32} {off : Int} {tgt : Nat} (hd : decode M.2.1 pc = .ok (.if_icmp .lt off, 3)) (htg : (pc : Int) + off = (tgt : Int)) (kt : x < y → ab_V M d mc ms tt Q kc ks (tgt) ls (st) σ) (kf : ¬ x < y → ab_V M d mc ms tt Q kc ks (pc + 3) ls (st) σ) : ab_V M d mc ms tt Q kc ks (pc) ls (.int y :: .int x :: st) σ := by
  intro p l e s m args below meth c H locs lsA G A hI hL hP hD hS ht
  exact lv_icmp_lt hI.1 hI.2.1 hd htg (fun h => kt h p l e s m args below meth c H locs lsA G A hI hL hP hD hS ht) (fun h => kf h p l e s m args below meth c H locs lsA G A hI hL hP hD hS ht)
theorem ab_if_ge {x : Int32} {off : Int} {tgt : Nat} (hd : decode M.2.1 pc = .ok (.ifCond .ge off, 3)) (htg : (pc : Int) + off = (tgt : Int)) (kt : 0 ≤ x → ab_V M d mc ms tt Q kc ks (tgt) ls (st) σ) (kf : ¬ 0 ≤ x → ab_V M d mc ms tt Q kc ks (pc + 3) ls (st) σ) : ab_V M d mc ms tt Q kc ks (pc) ls (.int x :: st) σ := by
  intro p l e s m args below meth c H locs lsA G A hI hL hP hD hS ht
  exact lv_if_ge hI.1 hI.2.1 hd htg (fun h => kt h p l e s m args below meth c H locs lsA G A hI hL hP hD hS ht) (fun h => kf h p l e s m args below meth c H locs lsA G A hI hL hP hD hS ht)
theorem ab_icmp_ge {x y : Int32} {off : Int} {tgt : Nat} (hd : decode M.2.1 pc = .ok (.if_icmp .ge off, 3)) (htg : (pc : Int) + off = (tgt : Int)) (kt : y ≤ x → ab_V M d mc ms tt Q kc ks (tgt) ls (st) σ) (kf : ¬ y ≤ x → ab_V M d mc ms tt Q kc ks (pc + 3) ls (st) σ) : ab_V M d mc ms tt Q kc ks (pc) ls (.int y :: .int x :: st) σ := by
  intro p l e s m args below meth c H locs lsA G A hI hL hP hD hS ht
  exact lv_icmp_ge hI.1 hI.2.1 hd htg (fun h => kt h p l e s m args below meth c H locs lsA G A hI hL hP hD hS ht) (fun h => kf h p l e s m args below meth c H locs lsA G A hI hL hP hD hS ht)
theorem ab_if_gt {x : Int32} {off : Int} {tgt : Nat} (hd : decode M.2.1 pc = .ok (.ifCond .gt off, 3)) (htg : (pc : Int) + off = (tgt : Int)) (kt : 0 < x → ab_V M d mc ms tt Q kc ks (tgt) ls (st) σ) (kf : ¬ 0 < x → ab_V M d mc ms tt Q kc ks (pc + 3) ls (st) σ) : ab_V M d mc ms tt Q kc ks (pc) ls (.int x :: st) σ := by
  intro p l e s m args below meth c H locs lsA G A hI hL hP hD hS ht
  exact lv_if_gt hI.1 hI.2.1 hd htg (fun h => kt h p l e s m args below meth c H locs lsA G A hI hL hP hD hS ht) (fun h => kf h p l e s m args below meth c H locs lsA G A hI hL hP hD hS ht)
theorem ab_icmp_gt {x y : Int32} {off : Int} {tgt : Nat} (hd : decode M.2.1 pc = .ok (.if_icmp .gt off, 3)) (htg : (pc : Int) + off = (tgt : Int)) (kt : y < x → ab_V M d mc ms tt Q kc ks (tgt) ls (st) σ) (kf : ¬ y < x → ab_V M d mc ms tt Q kc ks (pc + 3) ls (st) σ) : ab_V M d mc ms tt Q kc ks (pc) ls (.int y :: .int x :: st) σ := by
  intro p l e s m args below meth c H locs lsA G A hI hL hP hD hS ht
  exact lv_icmp_gt hI.1 hI.2.1 hd htg (fun h => kt h p l e s m args below meth c H locs lsA G A hI hL hP hD hS ht) (fun h => kf h p l e s m args below meth c H locs lsA G A hI hL hP hD hS ht)
theorem ab_if_le {x : Int32} {off : Int} {tgt : Nat} (hd : decode M.2.1 pc = .ok (.ifCond .le off, 3)) (htg : (pc : Int) + off = (tgt : Int)) (kt : x ≤ 0 → ab_V M d mc ms tt Q kc ks (tgt) ls (st) σ) (kf : ¬ x ≤ 0 → ab_V M d mc ms tt Q kc ks (pc + 3) ls (st) σ) : ab_V M d mc ms tt Q kc ks (pc) ls (.int x :: st) σ := by
  intro p l e s m args below meth c H locs lsA G A hI hL hP hD hS ht
  exact lv_if_le hI.1 hI.2.1 hd htg (fun h => kt h p l e s m args below meth c H locs lsA G A hI hL hP hD hS ht) (fun h => kf h p l e s m args below meth c H locs lsA G A hI hL hP hD hS ht)
theorem ab_icmp_le {x y : Int32} {off : Int} {tgt : Nat} (hd : decode M.2.1 pc = .ok (.if_icmp .le off, 3)) (htg : (pc : Int) + off = (tgt : Int)) (kt : x ≤ y → ab_V M d mc ms tt Q kc ks (tgt) ls (st) σ) (kf : ¬ x ≤ y → ab_V M d mc ms tt Q kc ks (pc + 3) ls (st) σ) : ab_V M d mc ms tt Q kc ks (pc) ls (.int y :: .int x :: st) σ := by
  intro p l e s m args below meth c H locs lsA G A hI hL hP hD hS ht
  exact lv_icmp_le hI.1 hI.2.1 hd htg (fun h => kt h p l e s m args below meth c H locs lsA G A hI hL hP hD hS ht) (fun h => kf h p l e s m args below meth c H locs lsA G A hI hL hP hD hS ht)
theorem ab_ifnull {x : Nat} {off : Int} (hd : decode M.2.1 pc = .ok (.ifnull off, 3)) (k : ab_V M d mc ms tt Q kc ks (pc + 3) ls (st) σ) : ab_V M d mc ms tt Q kc ks (pc) ls (.ref x :: st) σ := by
  intro p l e s m args below meth c H locs lsA G A hI hL hP hD hS ht
  exact lv_ifnull hI.1 hI.2.1 hd (k p l e s m args below meth c H locs lsA G A hI hL hP hD hS ht)
theorem ab_ifnullN {off : Int} {tgt : Nat} (hd : decode M.2.1 pc = .ok (.ifnull off, 3)) (htg : (pc : Int) + off = (tgt : Int)) (k : ab_V M d mc ms tt Q kc ks (tgt) ls (st) σ) : ab_V M d mc ms tt Q kc ks (pc) ls (.null :: st) σ := by
  intro p l e s m args below meth c H locs lsA G A hI hL hP hD hS ht
  exact lv_ifnullN hI.1 hI.2.1 hd htg (k p l e s m args below meth c H locs lsA G A hI hL hP hD hS ht)
theorem ab_ifnonnull {x : Nat} {off : Int} {tgt : Nat} (hd : decode M.2.1 pc = .ok (.ifnonnull off, 3)) (htg : (pc : Int) + off = (tgt : Int)) (k : ab_V M d mc ms tt Q kc ks (tgt) ls (st) σ) : ab_V M d mc ms tt Q kc ks (pc) ls (.ref x :: st) σ := by
  intro p l e s m args below meth c H locs lsA G A hI hL hP hD hS ht
  exact lv_ifnonnull hI.1 hI.2.1 hd htg (k p l e s m args below meth c H locs lsA G A hI hL hP hD hS ht)
theorem ab_ifnonnullN {off : Int} (hd : decode M.2.1 pc = .ok (.ifnonnull off, 3)) (k : ab_V M d mc ms tt Q kc ks (pc + 3) ls (st) σ) : ab_V M d mc ms tt Q kc ks (pc) ls (.null :: st) σ := by
  intro p l e s m args below meth c H locs lsA G A hI hL hP hD hS ht
  exact lv_ifnonnullN hI.1 hI.2.1 hd (k p l e s m args below meth c H locs lsA G A hI hL hP hD hS ht)
end ABV
