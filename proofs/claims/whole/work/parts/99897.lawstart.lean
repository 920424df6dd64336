/-! THE START: what the Statement gives, as worlds -/
section LWA
variable {p : Program} {s : State} {m : MethodId} {meth : Method} {c : Code} {b L : Nat} {xs : Nat → Int32} {args : Array Value}
theorem st_cls (hts : ∀ w ∈ gw, w.before args s = true) : ∃ (dC : Nat → ClassId) (dI : Nat → Nat → Nat), ∀ (k : Nat) (q : vw_C), vwCl[k]? = some q → u_Kn s q.1 q.2.1 q.2.2 (dC k) (dI k) := by
  have h : ∀ k : Nat, ∃ ci : ClassId × (Nat → Nat), ∀ q : vw_C, vwCl[k]? = some q → u_Kn s q.1 q.2.1 q.2.2 ci.1 ci.2 := fun k => by
    cases hq : vwCl[k]? with
    | none => exact ⟨(0, fun _ => 0), fun q h => by cases h⟩
    | some q =>
      obtain ⟨C, T, N⟩ := q
      have hc := ab_cls hq
      obtain ⟨cC, iS, hK⟩ := u_known (C := C) (T := T) (N := N) (n := N) hts hc.1 (hts _ hc.2.2.2.1)
      exact ⟨(cC, iS), fun q h => by cases h; exact hK⟩
  obtain ⟨f, hf⟩ := Classical.skolem.mp h
  exact ⟨fun k => (f k).1, fun k => (f k).2, hf⟩
theorem st_arr {ty : FieldType} (h : (Cond.arrayClass ty).before args s = true) : ∃ cA, ArrOfT s cA ty ∧ s.vm.findClass ("[" ++ ty.toString) = some cA := by
  obtain ⟨cA, kA, comp, h1, h2, h3⟩ := Cond.arrayClass_spec (show (Cond.arrayClass ty).holds args s none s [] = true from h)
  exact ⟨cA, fun n z => ⟨fun k h => (by cases h), kA, h2, comp, h3⟩, h1⟩
theorem st_ref {C : String} (h : va_AO C s) : ∃ cA, ArrOfT s cA (.object C) ∧ va_RA s cA (.object C) := by
  obtain ⟨comp, cA, kA, h1, -, h3, h4, h5⟩ := Cond.arrayOver_spec (show (Cond.arrayOver (.object C)).holds #[] s none s [] = true from h)
  exact ⟨cA, fun n z => ⟨fun k h => (by cases h), kA, h3, comp, h4⟩, kA, comp, h3, h4, h1, h5⟩
theorem st_AO (hts : ∀ w ∈ lw_tbl, w.before args s = true) : va_AO RX6 s ∧ va_AO RX0 s := by
  have t : ∀ {w : Cond}, w ∈ tables_1 → w.before args s = true := fun h => hts _ (List.mem_append_right _ h)
  exact ⟨t (tm1 (i := 35) rfl), t (tm1 (i := 33) rfl)⟩
theorem st_nest (hts : ∀ w ∈ lw_tbl, w.before args s = true) : (∀ w ∈ ab_nest, va_Nw w s) ∧ (∀ w ∈ ab_nestf, va_Nw w s) ∧ ∀ w ∈ xw_B, va_Nw w s := by
  have t : ∀ {w : Cond}, w.onTables = true → w ∈ tables_1 → va_Nw w s := fun h0 h => va_tabs h0 rfl (hts _ (List.mem_append_right _ h))
  refine ⟨?_, ?_, ?_⟩
  · exact List.forall_mem_cons.mpr ⟨t rfl (tm1 (i := 37) rfl), List.forall_mem_cons.mpr ⟨t rfl (tm1 (i := 99) rfl), List.forall_mem_cons.mpr ⟨t rfl (tm1 (i := 146) rfl), List.forall_mem_cons.mpr ⟨t rfl (tm1 (i := 164) rfl), List.forall_mem_cons.mpr ⟨t rfl (tm1 (i := 193) rfl), List.forall_mem_cons.mpr ⟨t rfl (tm1 (i := 199) rfl), List.forall_mem_cons.mpr ⟨t rfl (tm2 (i := 70) rfl), List.forall_mem_cons.mpr ⟨t rfl (tm2 (i := 125) rfl), List.forall_mem_cons.mpr ⟨t rfl (tm2 (i := 138) rfl), List.forall_mem_cons.mpr ⟨t rfl (tm3 (i := 12) rfl), List.forall_mem_cons.mpr ⟨t rfl (tm3 (i := 132) rfl), List.forall_mem_cons.mpr ⟨t rfl (tm3 (i := 137) rfl), fun _ h => absurd h List.not_mem_nil⟩⟩⟩⟩⟩⟩⟩⟩⟩⟩⟩⟩
  · exact List.forall_mem_cons.mpr ⟨t rfl (tm2 (i := 141) rfl), fun _ h => absurd h List.not_mem_nil⟩
  · exact List.forall_mem_cons.mpr ⟨t rfl (tm3 (i := 237) rfl), List.forall_mem_cons.mpr ⟨t rfl (tm3 (i := 239) rfl), List.forall_mem_cons.mpr ⟨t rfl (tm4 (i := 1) rfl), List.forall_mem_cons.mpr ⟨t rfl (tm3 (i := 235) rfl), fun _ h => absurd h List.not_mem_nil⟩⟩⟩⟩
theorem st_eq {a : Term} {k : Int32} (h : (Cond.eq a (.int k)).before args s = true) : a.eval args s none [] s = some (.int k) := by
  obtain ⟨y, h1, h2⟩ := Cond.eq_one (show (Cond.eq a (.int k)).holds args s none s [] = true from h)
  cases (show some (Value.int k) = some y from h2)
  exact h1
theorem st_tab (hts : ∀ w ∈ lw_tbl, w.before args s = true) (hgv : (Jvm.Cond.and given_1 narrow_1).before args s = true) : ∃ t : Nat, va_Z "ServerHouse" "ALLOWED" "[I" (.ref t) (fun q => s.heap.size ≤ q) s s.heap ∧ va_T .int t 12 (fun j => .int (ab_al j)) (fun q => s.heap.size ≤ q) s s.heap := by
  have hf := flat_of_before _ hgv
  have g : ∀ (k : Nat) (w : Cond), (flatC (Jvm.Cond.and given_1 narrow_1))[k]? = some w → w.before args s = true := fun k w h => hf w (List.mem_of_getElem? h)
  have hA : ∀ a : Nat, a < s.heap.size → ¬ (fun q => s.heap.size ≤ q) a := fun a h => Nat.not_le.mpr h
  obtain ⟨t, ht, hT⟩ := va_Tof (args := args) (s := s) (tm := .static "ServerHouse" "ALLOWED" "[I") (ty := .int) (N := 12) (f := fun j => .int (ab_al j)) (A := fun q => s.heap.size ≤ q) (by decide) (g 5 _ rfl) (st_eq (g 6 (.eq (.length (.static "ServerHouse" "ALLOWED" "[I")) (.int 12)) rfl)) (fun j hj => by
    have hjs : j = 0 ∨ j = 1 ∨ j = 2 ∨ j = 3 ∨ j = 4 ∨ j = 5 ∨ j = 6 ∨ j = 7 ∨ j = 8 ∨ j = 9 ∨ j = 10 ∨ j = 11 := by omega
    rcases hjs with rfl | rfl | rfl | rfl | rfl | rfl | rfl | rfl | rfl | rfl | rfl | rfl
    · exact st_eq (g 7 (.eq (.elem (.static "ServerHouse" "ALLOWED" "[I") (.int 0)) (.int 6)) rfl)
    · exact st_eq (g 8 (.eq (.elem (.static "ServerHouse" "ALLOWED" "[I") (.int 1)) (.int 5)) rfl)
    · exact st_eq (g 9 (.eq (.elem (.static "ServerHouse" "ALLOWED" "[I") (.int 2)) (.int 4090)) rfl)
    · exact st_eq (g 10 (.eq (.elem (.static "ServerHouse" "ALLOWED" "[I") (.int 3)) (.int 4084)) rfl)
    · exact st_eq (g 11 (.eq (.elem (.static "ServerHouse" "ALLOWED" "[I") (.int 4)) (.int 12)) rfl)
    · exact st_eq (g 12 (.eq (.elem (.static "ServerHouse" "ALLOWED" "[I") (.int 5)) (.int 12)) rfl)
    · exact st_eq (g 13 (.eq (.elem (.static "ServerHouse" "ALLOWED" "[I") (.int 6)) (.int 12)) rfl)
    · exact st_eq (g 14 (.eq (.elem (.static "ServerHouse" "ALLOWED" "[I") (.int 7)) (.int 12)) rfl)
    · exact st_eq (g 15 (.eq (.elem (.static "ServerHouse" "ALLOWED" "[I") (.int 8)) (.int 12)) rfl)
    · exact st_eq (g 16 (.eq (.elem (.static "ServerHouse" "ALLOWED" "[I") (.int 9)) (.int 12)) rfl)
    · exact st_eq (g 17 (.eq (.elem (.static "ServerHouse" "ALLOWED" "[I") (.int 10)) (.int 12)) rfl)
    · exact st_eq (g 18 (.eq (.elem (.static "ServerHouse" "ALLOWED" "[I") (.int 11)) (.int 12)) rfl)) hA
  exact ⟨t, va_Zof (hts _ (List.mem_append_right _ (tm2 (i := 142) rfl))) (hts _ (in_tbl in_X10)) ht hA, hT⟩
theorem st_thr (hts : ∀ w ∈ lw_tbl, w.before args s = true) (hgv : (Jvm.Cond.and given_1 narrow_1).before args s = true) : xw_K s ∧ xw_T (fun q => s.heap.size ≤ q) s s.heap := by
  have hf := flat_of_before _ hgv
  have g : ∀ (k : Nat) (w : Cond), (flatC (Jvm.Cond.and given_1 narrow_1))[k]? = some w → w.before args s = true := fun k w h => hf w (List.mem_of_getElem? h)
  have hA : ∀ a : Nat, a < s.heap.size → ¬ (fun q => s.heap.size ≤ q) a := fun a h => Nat.not_le.mpr h
  have t : ∀ {w : Cond}, w ∈ tables_1 → w.before args s = true := fun h => hts _ (List.mem_append_right _ h)
  have str : ∀ (k : Nat) (tx : String), (Cond.stringRef RX10 k tx).before args s = true → (Cond.exactly (.string RX10 k) "java/lang/String").before args s = true → ∃ a, vk_R RX10 k tx a s := fun k tx h1 h2 => by
    obtain ⟨a, -, -, -, h3, -⟩ := Cond.exactly_spec (show (Cond.exactly (.string RX10 k) "java/lang/String").holds args s none s [] = true from h2)
    exact ⟨a, vk_R.of h1 h3⟩
  have it : (Cond.initialized Bundle.tN).before args s = true := t (tm1 (i := 14) rfl)
  exact ⟨⟨(st_nest hts).2.2, str 95 _ (t (tm4 (i := 32) rfl)) (g 33 _ rfl), str 126 _ (t (tm4 (i := 75) rfl)) (g 49 _ rfl), str 148 _ (t (tm4 (i := 83) rfl)) (g 76 _ rfl)⟩, vx_Zqof (t (tm4 (i := 20) rfl)) it (g 19 _ rfl) hA, vx_Zqof (t (tm4 (i := 22) rfl)) it (g 20 _ rfl) hA⟩
end LWA
