/-- the same, of a method of a class of the JDK's -/
theorem ab_Met.ofF {M : ab_M} {d mc ms : Nat} {tt : Prop} {av : List Value} {σ : ab_S} {Q : Option Value → ab_S → Prop} (hy : plainFor M.1 = true) (hl : (av.flatMap fun v => if v.category = 2 then [some v, (none : Option Value)] else [some v]).length ≤ M.2.2.1)
    (h : ab_V M d mc ms tt Q 0 0 0 (ab_en av M.2.2.1) [] σ) : ab_Met M d mc ms tt av σ Q := by
  intro l G sz
  refine va_MetF (cc := M.2.1) (maxL := M.2.2.1) (ret := M.2.2.2) hy rfl ?_
  intro p e s m args below meth c s₁ B hml hv
  obtain ⟨rfl, hsz, hP, hD, hK, hZ, ht⟩ := hv
  have hts := atoms_spec (ws := Cond.code M.1 M.2.1 M.2.2.1 M.2.2.2 :: gw) B.pre
  subst hsz
  rw [lg_entry_eq]
  exact h p l e s m _ below meth c s.heap [] _ G (va_A (ab_ws G σ) s.heap.size) ⟨B.exec, B.bytes, B.returns, hml, findClass_of_methodNamed B.named, fun w hw => hts w (List.mem_cons_of_mem _ hw), B.notSynchronized, (name_of_methodNamed B.named B.method).1, fun q hq => Or.inr hq, hK, hZ⟩ (ab_en_L G av _ hl) hP hD.self va_S.rf (fun h => ⟨rfl, ht h⟩)
theorem mo_eqi {M : ab_M} {d : Nat} {tt : Prop} {z z' : Int32 × mD} {pc : Nat} {ls : List (Option Value)} {st : List Value} {m : mD} (h : z = z') (k : mV M d tt (mQi z') pc ls st m) : mV M d tt (mQi z) pc ls st m := by rw [h]; exact k
theorem mo_eqr {M : ab_M} {d : Nat} {tt : Prop} {z z' : Int32 × mD} {pc : Nat} {ls : List (Option Value)} {st : List Value} {m : mD} (h : z = z') (k : mV M d tt (mQi z') pc ls st m) : mV M d tt (mQi z) pc ls st m := by rw [h]; exact k
theorem mo_eqv {M : ab_M} {d : Nat} {tt : Prop} {z z' : mD} {pc : Nat} {ls : List (Option Value)} {st : List Value} {m : mD} (h : z = z') (k : mV M d tt (mQv z') pc ls st m) : mV M d tt (mQv z) pc ls st m := by rw [h]; exact k
theorem mo_invr {M : ab_M} {d : Nat} {tt : Prop} {Q : Option Value → ab_S → Prop} {pc : Nat} {ls : List (Option Value)} {st : List Value} {m : mD} {N : ab_M} {d' idx : Nat} {av : List Value} {z : Int32} (hd : decode M.2.1 pc = .ok (.invokevirtual idx, 3)) (hl : Cond.methodLink M.1.cls idx N.1 ∈ gw) (hF : ab_FV N av.length 11) (hst : (st.map fun v => v.category).sum ≤ 8) (hdd : d' + 1 ≤ d) (hM : ab_Met N d' 0 0 tt (.ref 0 :: av) (sM m) (mQi (z, m))) (k : mV M d tt Q (pc + 3) ls (.int z :: st) m) : mV M d tt Q pc ls (av.reverse ++ .ref 0 :: st) m := mo_invi hd hl hF hst hdd hM k
theorem ab_nb {v : Int32} (h : v = 0 ∨ v = 1) : narrow .boolean (.int v) = .int v := by rcases h with rfl | rfl <;> decide
def ab_fw : List (Option Value) → List (Option Value) → Prop
  | [], _ => True
  | none :: a, _ :: b => ab_fw a b
  | some v :: a, some w :: b => v = w ∧ ab_fw a b
  | none :: _, [] => False
  | some _ :: _, none :: _ => False
  | some _ :: _, [] => False
theorem ab_fw_ok : ∀ {a b : List (Option Value)}, ab_fw a b → ∀ (i : Nat) (v : Value), a[i]? = some (some v) → b[i]? = some (some v)
  | [], _, _, i, v, hi => by simp at hi
  | none :: a, _ :: b, h, 0, v, hi => by simp at hi
  | none :: a, _ :: b, h, i + 1, v, hi => ab_fw_ok (a := a) (b := b) h i v hi
  | some x :: a, some w :: b, h, 0, v, hi => by
    have h1 : x = w := h.1
    subst h1
    exact hi
  | some x :: a, some w :: b, h, i + 1, v, hi => ab_fw_ok (a := a) (b := b) h.2 i v hi
  | none :: _, [], h, _, _, _ => h.elim
  | some _ :: _, none :: _, h, _, _, _ => h.elim
  | some _ :: _, [], h, _, _, _ => h.elim
section ABT
variable {M : ab_M} {d mc ms : Nat} {tt : Prop} {Q : Option Value → ab_S → Prop} {kc ks pc : Nat} {ls : List (Option Value)} {st : List Value} {σ : ab_S}
theorem ab_wk {ls2 : List (Option Value)} (h : ab_fw ls2 ls) (k : ab_V M d mc ms tt Q kc ks pc ls2 st σ) : ab_V M d mc ms tt Q kc ks pc ls st σ := by
  intro p l e s m args below meth c H locs lsA G A hI hL hP hD hS ht
  exact k p l e s m args below meth c H locs lsA G A hI ⟨hL.1, hL.2.1, fun i v hi => hL.2.2 i v (ab_fw_ok h i v hi)⟩ hP hD hS ht
theorem ab_nat3 {x y : Int32} {v w : Value} (h : x = y) (k : ab_V M d mc ms tt Q kc ks pc ls (v :: .int y :: w :: st) σ) : ab_V M d mc ms tt Q kc ks pc ls (v :: .int x :: w :: st) σ := by rw [h]; exact k
theorem ab_stk1 {a a' : Value} (h : a = a') (k : ab_V M d mc ms tt Q kc ks pc ls (a' :: st) σ) : ab_V M d mc ms tt Q kc ks pc ls (a :: st) σ := by rw [h]; exact k
theorem ab_stk2 {a a' b b' : Value} (h : a = a') (h2 : b = b') (k : ab_V M d mc ms tt Q kc ks pc ls (a' :: b' :: st) σ) : ab_V M d mc ms tt Q kc ks pc ls (a :: b :: st) σ := by rw [h, h2]; exact k
theorem ab_stk3 {a a' b b' c c' : Value} (h : a = a') (h2 : b = b') (h3 : c = c') (k : ab_V M d mc ms tt Q kc ks pc ls (a' :: b' :: c' :: st) σ) : ab_V M d mc ms tt Q kc ks pc ls (a :: b :: c :: st) σ := by rw [h, h2, h3]; exact k
theorem ab_stk4 {a a' b b' c c' e e' : Value} (h : a = a') (h2 : b = b') (h3 : c = c') (h4 : e = e') (k : ab_V M d mc ms tt Q kc ks pc ls (a' :: b' :: c' :: e' :: st) σ) : ab_V M d mc ms tt Q kc ks pc ls (a :: b :: c :: e :: st) σ := by rw [h, h2, h3, h4]; exact k
end ABT
def FisUser (p : Int32) : Int32 :=
  if (p) < (nI (4)) then
    (nI (0))
  else
    if (nI (12)) ≤ (p) then
      (nI (0))
    else
      (nI (1))
set_option maxRecDepth 100000 in
set_option maxHeartbeats 4000000 in
theorem c_isUser {tt : Prop} (p : Int32) (m : mD) (hD : True) : ab_Met mX11_isUser 0 0 0 tt [.int (p)] (sM m) (mQi (FisUser p, m)) := by
  refine ab_Met.of rfl (Nat.le_of_ble_eq_true rfl) ?_
  show mV mX11_isUser 0 tt (mQi (FisUser p, m)) 0 [some (.int (p))] [] m
  refine ab_iload_n (pc := 0) dX11_isUser_0 rfl rfl ?_
  refine ab_iconst (pc := 1) (v := nI 4) dX11_isUser_1 (by decide) ?_
  refine ab_icmp_lt (pc := 2) (tgt := 15) dX11_isUser_2 (by decide) (fun c_2 => ?_) (fun c_2 => ?_)
  · refine ab_iconst (pc := 15) (v := nI 0) dX11_isUser_15 (by decide) ?_
    refine mo_ir (pc := 16) dX11_isUser_16 rfl (ab_nb (Or.inl rfl)) ?_
    first | (rw [FisUser]; (try dsimp only); rw [if_pos c_2]; done) | (rw [FisUser]; (try dsimp only); rw [if_pos c_2]; rfl)
  · refine ab_iload_n (pc := 5) dX11_isUser_5 rfl rfl ?_
    refine ab_bipush (pc := 6) (v := nI 12) dX11_isUser_6 (by decide) ?_
    refine ab_icmp_ge (pc := 8) (tgt := 15) dX11_isUser_8 (by decide) (fun c_8 => ?_) (fun c_8 => ?_)
    · refine ab_iconst (pc := 15) (v := nI 0) dX11_isUser_15 (by decide) ?_
      refine mo_ir (pc := 16) dX11_isUser_16 rfl (ab_nb (Or.inl rfl)) ?_
      first | (rw [FisUser]; (try dsimp only); rw [if_neg c_2, if_pos c_8]; done) | (rw [FisUser]; (try dsimp only); rw [if_neg c_2, if_pos c_8]; rfl)
    · refine ab_iconst (pc := 11) (v := nI 1) dX11_isUser_11 (by decide) ?_
      refine ab_goto (pc := 12) (tgt := 16) dX11_isUser_12 (by decide) ?_
      refine mo_ir (pc := 16) dX11_isUser_16 rfl (ab_nb (Or.inr rfl)) ?_
      first | (rw [FisUser]; (try dsimp only); rw [if_neg c_2, if_neg c_8]; done) | (rw [FisUser]; (try dsimp only); rw [if_neg c_2, if_neg c_8]; rfl)
def FisPart (p : Int32) : Int32 :=
  if (p) < 0 then
    (nI (0))
  else
    if (nI (12)) ≤ (p) then
      (nI (0))
    else
      (nI (1))
set_option maxRecDepth 100000 in
set_option maxHeartbeats 4000000 in
theorem c_isPart {tt : Prop} (p : Int32) (m : mD) (hD : True) : ab_Met mX11_isPart 0 0 0 tt [.int (p)] (sM m) (mQi (FisPart p, m)) := by
  refine ab_Met.of rfl (Nat.le_of_ble_eq_true rfl) ?_
  show mV mX11_isPart 0 tt (mQi (FisPart p, m)) 0 [some (.int (p))] [] m
  refine ab_iload_n (pc := 0) dX11_isPart_0 rfl rfl ?_
  refine ab_if_lt (pc := 1) (tgt := 14) dX11_isPart_1 (by decide) (fun c_1 => ?_) (fun c_1 => ?_)
  · refine ab_iconst (pc := 14) (v := nI 0) dX11_isPart_14 (by decide) ?_
    refine mo_ir (pc := 15) dX11_isPart_15 rfl (ab_nb (Or.inl rfl)) ?_
    first | (rw [FisPart]; (try dsimp only); rw [if_pos c_1]; done) | (rw [FisPart]; (try dsimp only); rw [if_pos c_1]; rfl)
  · refine ab_iload_n (pc := 4) dX11_isPart_4 rfl rfl ?_
    refine ab_bipush (pc := 5) (v := nI 12) dX11_isPart_5 (by decide) ?_
    refine ab_icmp_ge (pc := 7) (tgt := 14) dX11_isPart_7 (by decide) (fun c_7 => ?_) (fun c_7 => ?_)
    · refine ab_iconst (pc := 14) (v := nI 0) dX11_isPart_14 (by decide) ?_
      refine mo_ir (pc := 15) dX11_isPart_15 rfl (ab_nb (Or.inl rfl)) ?_
      first | (rw [FisPart]; (try dsimp only); rw [if_neg c_1, if_pos c_7]; done) | (rw [FisPart]; (try dsimp only); rw [if_neg c_1, if_pos c_7]; rfl)
    · refine ab_iconst (pc := 10) (v := nI 1) dX11_isPart_10 (by decide) ?_
      refine ab_goto (pc := 11) (tgt := 15) dX11_isPart_11 (by decide) ?_
      refine mo_ir (pc := 15) dX11_isPart_15 rfl (ab_nb (Or.inr rfl)) ?_
      first | (rw [FisPart]; (try dsimp only); rw [if_neg c_1, if_neg c_7]; done) | (rw [FisPart]; (try dsimp only); rw [if_neg c_1, if_neg c_7]; rfl)
def FisAllowed (a : Int32) (b : Int32) : Int32 :=
  if (a) = 0 then
    if (b) = (nI (1)) then
      (nI (1))
    else
      if (b) = (nI (2)) then
        (nI (1))
      else
        (nI (0))
  else if (a) = 1 then
    if (b) = 0 then
      (nI (1))
    else
      if (b) = (nI (2)) then
        (nI (1))
      else
        (nI (0))
  else if (a) = 2 then
    if (b) = (nI (1)) then
      (nI (1))
    else
      if (b) = (nI (3)) then
        (nI (1))
      else
        if (FisUser (b)) = 0 then
          (nI (0))
        else
          (nI (1))
  else if (a) = 3 then
    if (b) = (nI (2)) then
      (nI (1))
    else
      if (FisUser (b)) = 0 then
        (nI (0))
      else
        (nI (1))
  else
    if (b) = (nI (2)) then
      (nI (1))
    else
      if (b) = (nI (3)) then
        (nI (1))
      else
        (nI (0))
set_option maxRecDepth 100000 in
set_option maxHeartbeats 4000000 in
theorem c_isAllowed {tt : Prop} (a : Int32) (b : Int32) (m : mD) (hD : True) : ab_Met mX11_isAllowed 1 0 0 tt [.int (a), .int (b)] (sM m) (mQi (FisAllowed a b, m)) := by
  refine ab_Met.of rfl (Nat.le_of_ble_eq_true rfl) ?_
  show mV mX11_isAllowed 1 tt (mQi (FisAllowed a b, m)) 0 [some (.int (a)), some (.int (b))] [] m
  refine ab_iload_n (pc := 0) dX11_isAllowed_0 rfl rfl ?_
  refine ab_tsw (pc := 1) [(0, 32), (1, 48), (2, 63), (3, 86)] 104 dX11_isAllowed_1 (by decide +kernel) (ab_c1 (fun c_1 => ?_) (ab_c1 (fun c_1 => ?_) (ab_c1 (fun c_1 => ?_) (ab_c1 (fun c_1 => ?_) (ab_c0))))) (fun c_1 => ?_)
  · refine ab_iload_n (pc := 32) dX11_isAllowed_32 rfl rfl ?_
    refine ab_iconst (pc := 33) (v := nI 1) dX11_isAllowed_33 (by decide) ?_
    refine ab_icmp_eq (pc := 34) (tgt := 42) dX11_isAllowed_34 (by decide) (fun c_34 => ?_) (fun c_34 => ?_)
    · refine ab_iconst (pc := 42) (v := nI 1) dX11_isAllowed_42 (by decide) ?_
      refine ab_goto (pc := 43) (tgt := 47) dX11_isAllowed_43 (by decide) ?_
      refine mo_ir (pc := 47) dX11_isAllowed_47 rfl (ab_nb (Or.inr rfl)) ?_
      first | (rw [FisAllowed]; (try dsimp only); rw [if_pos c_1, if_pos c_34]; done) | (rw [FisAllowed]; (try dsimp only); rw [if_pos c_1, if_pos c_34]; rfl)
    · refine ab_iload_n (pc := 37) dX11_isAllowed_37 rfl rfl ?_
      refine ab_iconst (pc := 38) (v := nI 2) dX11_isAllowed_38 (by decide) ?_
      refine ab_icmp_ne (pc := 39) (tgt := 46) dX11_isAllowed_39 (by decide) (fun c_39 => ?_) (fun c_39 => ?_)
      · refine ab_iconst (pc := 46) (v := nI 0) dX11_isAllowed_46 (by decide) ?_
        refine mo_ir (pc := 47) dX11_isAllowed_47 rfl (ab_nb (Or.inl rfl)) ?_
        first | (rw [FisAllowed]; (try dsimp only); rw [if_pos c_1, if_neg c_34, if_neg c_39]; done) | (rw [FisAllowed]; (try dsimp only); rw [if_pos c_1, if_neg c_34, if_neg c_39]; rfl)
      · refine ab_iconst (pc := 42) (v := nI 1) dX11_isAllowed_42 (by decide) ?_
        refine ab_goto (pc := 43) (tgt := 47) dX11_isAllowed_43 (by decide) ?_
        refine mo_ir (pc := 47) dX11_isAllowed_47 rfl (ab_nb (Or.inr rfl)) ?_
        first | (rw [FisAllowed]; (try dsimp only); rw [if_pos c_1, if_neg c_34, if_pos c_39]; done) | (rw [FisAllowed]; (try dsimp only); rw [if_pos c_1, if_neg c_34, if_pos c_39]; rfl)
  · refine ab_iload_n (pc := 48) dX11_isAllowed_48 rfl rfl ?_
    refine ab_if_eq (pc := 49) (tgt := 57) dX11_isAllowed_49 (by decide) (fun c_49 => ?_) (fun c_49 => ?_)
    · refine ab_iconst (pc := 57) (v := nI 1) dX11_isAllowed_57 (by decide) ?_
      refine ab_goto (pc := 58) (tgt := 62) dX11_isAllowed_58 (by decide) ?_
      refine mo_ir (pc := 62) dX11_isAllowed_62 rfl (ab_nb (Or.inr rfl)) ?_
      first | (rw [FisAllowed]; (try dsimp only); rw [if_neg (fun h => absurd (c_1.symm.trans h) (by decide)), if_pos c_1, if_pos c_49]; done) | (rw [FisAllowed]; (try dsimp only); rw [if_neg (fun h => absurd (c_1.symm.trans h) (by decide)), if_pos c_1, if_pos c_49]; rfl)
    · refine ab_iload_n (pc := 52) dX11_isAllowed_52 rfl rfl ?_
      refine ab_iconst (pc := 53) (v := nI 2) dX11_isAllowed_53 (by decide) ?_
      refine ab_icmp_ne (pc := 54) (tgt := 61) dX11_isAllowed_54 (by decide) (fun c_54 => ?_) (fun c_54 => ?_)
      · refine ab_iconst (pc := 61) (v := nI 0) dX11_isAllowed_61 (by decide) ?_
        refine mo_ir (pc := 62) dX11_isAllowed_62 rfl (ab_nb (Or.inl rfl)) ?_
        first | (rw [FisAllowed]; (try dsimp only); rw [if_neg (fun h => absurd (c_1.symm.trans h) (by decide)), if_pos c_1, if_neg c_49, if_neg c_54]; done) | (rw [FisAllowed]; (try dsimp only); rw [if_neg (fun h => absurd (c_1.symm.trans h) (by decide)), if_pos c_1, if_neg c_49, if_neg c_54]; rfl)
      · refine ab_iconst (pc := 57) (v := nI 1) dX11_isAllowed_57 (by decide) ?_
        refine ab_goto (pc := 58) (tgt := 62) dX11_isAllowed_58 (by decide) ?_
        refine mo_ir (pc := 62) dX11_isAllowed_62 rfl (ab_nb (Or.inr rfl)) ?_
        first | (rw [FisAllowed]; (try dsimp only); rw [if_neg (fun h => absurd (c_1.symm.trans h) (by decide)), if_pos c_1, if_neg c_49, if_pos c_54]; done) | (rw [FisAllowed]; (try dsimp only); rw [if_neg (fun h => absurd (c_1.symm.trans h) (by decide)), if_pos c_1, if_neg c_49, if_pos c_54]; rfl)
  · refine ab_iload_n (pc := 63) dX11_isAllowed_63 rfl rfl ?_
    refine ab_iconst (pc := 64) (v := nI 1) dX11_isAllowed_64 (by decide) ?_
    refine ab_icmp_eq (pc := 65) (tgt := 80) dX11_isAllowed_65 (by decide) (fun c_65 => ?_) (fun c_65 => ?_)
    · refine ab_iconst (pc := 80) (v := nI 1) dX11_isAllowed_80 (by decide) ?_
      refine ab_goto (pc := 81) (tgt := 85) dX11_isAllowed_81 (by decide) ?_
      refine mo_ir (pc := 85) dX11_isAllowed_85 rfl (ab_nb (Or.inr rfl)) ?_
      first | (rw [FisAllowed]; (try dsimp only); rw [if_neg (fun h => absurd (c_1.symm.trans h) (by decide)), if_neg (fun h => absurd (c_1.symm.trans h) (by decide)), if_pos c_1, if_pos c_65]; done) | (rw [FisAllowed]; (try dsimp only); rw [if_neg (fun h => absurd (c_1.symm.trans h) (by decide)), if_neg (fun h => absurd (c_1.symm.trans h) (by decide)), if_pos c_1, if_pos c_65]; rfl)
    · refine ab_iload_n (pc := 68) dX11_isAllowed_68 rfl rfl ?_
      refine ab_iconst (pc := 69) (v := nI 3) dX11_isAllowed_69 (by decide) ?_
      refine ab_icmp_eq (pc := 70) (tgt := 80) dX11_isAllowed_70 (by decide) (fun c_70 => ?_) (fun c_70 => ?_)
      · refine ab_iconst (pc := 80) (v := nI 1) dX11_isAllowed_80 (by decide) ?_
        refine ab_goto (pc := 81) (tgt := 85) dX11_isAllowed_81 (by decide) ?_
        refine mo_ir (pc := 85) dX11_isAllowed_85 rfl (ab_nb (Or.inr rfl)) ?_
        first | (rw [FisAllowed]; (try dsimp only); rw [if_neg (fun h => absurd (c_1.symm.trans h) (by decide)), if_neg (fun h => absurd (c_1.symm.trans h) (by decide)), if_pos c_1, if_neg c_65, if_pos c_70]; done) | (rw [FisAllowed]; (try dsimp only); rw [if_neg (fun h => absurd (c_1.symm.trans h) (by decide)), if_neg (fun h => absurd (c_1.symm.trans h) (by decide)), if_pos c_1, if_neg c_65, if_pos c_70]; rfl)
      · refine ab_iload_n (pc := 73) dX11_isAllowed_73 rfl rfl ?_
        refine mo_invs (N := mX11_isUser) (pc := 74) (d' := 0) (av := [_]) dX11_isAllowed_74 ml_X11_11 fs_X11_isUser (Nat.le_of_ble_eq_true rfl) (by decide) (c_isUser _ _ trivial) ?_
        refine ab_if_eq (pc := 77) (tgt := 84) dX11_isAllowed_77 (by decide) (fun c_77 => ?_) (fun c_77 => ?_)
        · refine ab_iconst (pc := 84) (v := nI 0) dX11_isAllowed_84 (by decide) ?_
          refine mo_ir (pc := 85) dX11_isAllowed_85 rfl (ab_nb (Or.inl rfl)) ?_
          first | (rw [FisAllowed]; (try dsimp only); rw [if_neg (fun h => absurd (c_1.symm.trans h) (by decide)), if_neg (fun h => absurd (c_1.symm.trans h) (by decide)), if_pos c_1, if_neg c_65, if_neg c_70, if_pos c_77]; done) | (rw [FisAllowed]; (try dsimp only); rw [if_neg (fun h => absurd (c_1.symm.trans h) (by decide)), if_neg (fun h => absurd (c_1.symm.trans h) (by decide)), if_pos c_1, if_neg c_65, if_neg c_70, if_pos c_77]; rfl)
        · refine ab_iconst (pc := 80) (v := nI 1) dX11_isAllowed_80 (by decide) ?_
          refine ab_goto (pc := 81) (tgt := 85) dX11_isAllowed_81 (by decide) ?_
          refine mo_ir (pc := 85) dX11_isAllowed_85 rfl (ab_nb (Or.inr rfl)) ?_
          first | (rw [FisAllowed]; (try dsimp only); rw [if_neg (fun h => absurd (c_1.symm.trans h) (by decide)), if_neg (fun h => absurd (c_1.symm.trans h) (by decide)), if_pos c_1, if_neg c_65, if_neg c_70, if_neg c_77]; done) | (rw [FisAllowed]; (try dsimp only); rw [if_neg (fun h => absurd (c_1.symm.trans h) (by decide)), if_neg (fun h => absurd (c_1.symm.trans h) (by decide)), if_pos c_1, if_neg c_65, if_neg c_70, if_neg c_77]; rfl)
  · refine ab_iload_n (pc := 86) dX11_isAllowed_86 rfl rfl ?_
    refine ab_iconst (pc := 87) (v := nI 2) dX11_isAllowed_87 (by decide) ?_
    refine ab_icmp_eq (pc := 88) (tgt := 98) dX11_isAllowed_88 (by decide) (fun c_88 => ?_) (fun c_88 => ?_)
    · refine ab_iconst (pc := 98) (v := nI 1) dX11_isAllowed_98 (by decide) ?_
      refine ab_goto (pc := 99) (tgt := 103) dX11_isAllowed_99 (by decide) ?_
      refine mo_ir (pc := 103) dX11_isAllowed_103 rfl (ab_nb (Or.inr rfl)) ?_
      first | (rw [FisAllowed]; (try dsimp only); rw [if_neg (fun h => absurd (c_1.symm.trans h) (by decide)), if_neg (fun h => absurd (c_1.symm.trans h) (by decide)), if_neg (fun h => absurd (c_1.symm.trans h) (by decide)), if_pos c_1, if_pos c_88]; done) | (rw [FisAllowed]; (try dsimp only); rw [if_neg (fun h => absurd (c_1.symm.trans h) (by decide)), if_neg (fun h => absurd (c_1.symm.trans h) (by decide)), if_neg (fun h => absurd (c_1.symm.trans h) (by decide)), if_pos c_1, if_pos c_88]; rfl)
    · refine ab_iload_n (pc := 91) dX11_isAllowed_91 rfl rfl ?_
      refine mo_invs (N := mX11_isUser) (pc := 92) (d' := 0) (av := [_]) dX11_isAllowed_92 ml_X11_11 fs_X11_isUser (Nat.le_of_ble_eq_true rfl) (by decide) (c_isUser _ _ trivial) ?_
      refine ab_if_eq (pc := 95) (tgt := 102) dX11_isAllowed_95 (by decide) (fun c_95 => ?_) (fun c_95 => ?_)
      · refine ab_iconst (pc := 102) (v := nI 0) dX11_isAllowed_102 (by decide) ?_
        refine mo_ir (pc := 103) dX11_isAllowed_103 rfl (ab_nb (Or.inl rfl)) ?_
        first | (rw [FisAllowed]; (try dsimp only); rw [if_neg (fun h => absurd (c_1.symm.trans h) (by decide)), if_neg (fun h => absurd (c_1.symm.trans h) (by decide)), if_neg (fun h => absurd (c_1.symm.trans h) (by decide)), if_pos c_1, if_neg c_88, if_pos c_95]; done) | (rw [FisAllowed]; (try dsimp only); rw [if_neg (fun h => absurd (c_1.symm.trans h) (by decide)), if_neg (fun h => absurd (c_1.symm.trans h) (by decide)), if_neg (fun h => absurd (c_1.symm.trans h) (by decide)), if_pos c_1, if_neg c_88, if_pos c_95]; rfl)
      · refine ab_iconst (pc := 98) (v := nI 1) dX11_isAllowed_98 (by decide) ?_
        refine ab_goto (pc := 99) (tgt := 103) dX11_isAllowed_99 (by decide) ?_
        refine mo_ir (pc := 103) dX11_isAllowed_103 rfl (ab_nb (Or.inr rfl)) ?_
        first | (rw [FisAllowed]; (try dsimp only); rw [if_neg (fun h => absurd (c_1.symm.trans h) (by decide)), if_neg (fun h => absurd (c_1.symm.trans h) (by decide)), if_neg (fun h => absurd (c_1.symm.trans h) (by decide)), if_pos c_1, if_neg c_88, if_neg c_95]; done) | (rw [FisAllowed]; (try dsimp only); rw [if_neg (fun h => absurd (c_1.symm.trans h) (by decide)), if_neg (fun h => absurd (c_1.symm.trans h) (by decide)), if_neg (fun h => absurd (c_1.symm.trans h) (by decide)), if_pos c_1, if_neg c_88, if_neg c_95]; rfl)
  · refine ab_iload_n (pc := 104) dX11_isAllowed_104 rfl rfl ?_
    refine ab_iconst (pc := 105) (v := nI 2) dX11_isAllowed_105 (by decide) ?_
    refine ab_icmp_eq (pc := 106) (tgt := 114) dX11_isAllowed_106 (by decide) (fun c_106 => ?_) (fun c_106 => ?_)
    · refine ab_iconst (pc := 114) (v := nI 1) dX11_isAllowed_114 (by decide) ?_
      refine ab_goto (pc := 115) (tgt := 119) dX11_isAllowed_115 (by decide) ?_
      refine mo_ir (pc := 119) dX11_isAllowed_119 rfl (ab_nb (Or.inr rfl)) ?_
      first | (rw [FisAllowed]; (try dsimp only); rw [if_neg (c_1 _ (List.mem_of_getElem? (i := 0) rfl)), if_neg (c_1 _ (List.mem_of_getElem? (i := 1) rfl)), if_neg (c_1 _ (List.mem_of_getElem? (i := 2) rfl)), if_neg (c_1 _ (List.mem_of_getElem? (i := 3) rfl)), if_pos c_106]; done) | (rw [FisAllowed]; (try dsimp only); rw [if_neg (c_1 _ (List.mem_of_getElem? (i := 0) rfl)), if_neg (c_1 _ (List.mem_of_getElem? (i := 1) rfl)), if_neg (c_1 _ (List.mem_of_getElem? (i := 2) rfl)), if_neg (c_1 _ (List.mem_of_getElem? (i := 3) rfl)), if_pos c_106]; rfl)
    · refine ab_iload_n (pc := 109) dX11_isAllowed_109 rfl rfl ?_
      refine ab_iconst (pc := 110) (v := nI 3) dX11_isAllowed_110 (by decide) ?_
      refine ab_icmp_ne (pc := 111) (tgt := 118) dX11_isAllowed_111 (by decide) (fun c_111 => ?_) (fun c_111 => ?_)
      · refine ab_iconst (pc := 118) (v := nI 0) dX11_isAllowed_118 (by decide) ?_
        refine mo_ir (pc := 119) dX11_isAllowed_119 rfl (ab_nb (Or.inl rfl)) ?_
        first | (rw [FisAllowed]; (try dsimp only); rw [if_neg (c_1 _ (List.mem_of_getElem? (i := 0) rfl)), if_neg (c_1 _ (List.mem_of_getElem? (i := 1) rfl)), if_neg (c_1 _ (List.mem_of_getElem? (i := 2) rfl)), if_neg (c_1 _ (List.mem_of_getElem? (i := 3) rfl)), if_neg c_106, if_neg c_111]; done) | (rw [FisAllowed]; (try dsimp only); rw [if_neg (c_1 _ (List.mem_of_getElem? (i := 0) rfl)), if_neg (c_1 _ (List.mem_of_getElem? (i := 1) rfl)), if_neg (c_1 _ (List.mem_of_getElem? (i := 2) rfl)), if_neg (c_1 _ (List.mem_of_getElem? (i := 3) rfl)), if_neg c_106, if_neg c_111]; rfl)
      · refine ab_iconst (pc := 114) (v := nI 1) dX11_isAllowed_114 (by decide) ?_
        refine ab_goto (pc := 115) (tgt := 119) dX11_isAllowed_115 (by decide) ?_
        refine mo_ir (pc := 119) dX11_isAllowed_119 rfl (ab_nb (Or.inr rfl)) ?_
        first | (rw [FisAllowed]; (try dsimp only); rw [if_neg (c_1 _ (List.mem_of_getElem? (i := 0) rfl)), if_neg (c_1 _ (List.mem_of_getElem? (i := 1) rfl)), if_neg (c_1 _ (List.mem_of_getElem? (i := 2) rfl)), if_neg (c_1 _ (List.mem_of_getElem? (i := 3) rfl)), if_neg c_106, if_pos c_111]; done) | (rw [FisAllowed]; (try dsimp only); rw [if_neg (c_1 _ (List.mem_of_getElem? (i := 0) rfl)), if_neg (c_1 _ (List.mem_of_getElem? (i := 1) rfl)), if_neg (c_1 _ (List.mem_of_getElem? (i := 2) rfl)), if_neg (c_1 _ (List.mem_of_getElem? (i := 3) rfl)), if_neg c_106, if_pos c_111]; rfl)
def Fthrown  (m : mD) : Int32 :=
  (m 0 0)
set_option maxRecDepth 100000 in
set_option maxHeartbeats 4000000 in
theorem c_thrown {tt : Prop}  (m : mD) (hD : True) : ab_Met mX11_thrown 0 0 0 tt [.ref (0)] (sM m) (mQi (Fthrown  m, m)) := by
  refine ab_Met.of rfl (Nat.le_of_ble_eq_true rfl) ?_
  show mV mX11_thrown 0 tt (mQi (Fthrown  m, m)) 0 [some (.ref (0))] [] m
  refine ab_aload_n (pc := 0) dX11_thrown_0 rfl rfl ?_
  refine mo_gi (pc := 1) dX11_thrown_1 fl_X11_1 rfl ?_
  refine mo_ir (pc := 4) dX11_thrown_4 rfl rfl ?_
  first | rfl | (rw [Fthrown]; done) | (rw [Fthrown]; rfl)
def FcrashesNow  (m : mD) : mD :=
  let m1 := ab_up m 0 23 (nI (0))
  let m2 := ab_up m1 0 24 (nI (0))
  let m3 := ab_up m2 0 27 (nI (0))
  let m4 := ab_up m3 2 1 (nI (0))
  let m5 := ab_up m4 0 26 (nI (0))
  let m6 := ab_up m5 5 1 (-1)
  let m7 := ab_up m6 0 32 (nI (0))
  let m8 := ab_up m7 0 30 ((m7 0 30) + (nI (1)))
  m8
set_option maxRecDepth 100000 in
set_option maxHeartbeats 4000000 in
theorem c_crashesNow {tt : Prop}  (m : mD) (hD : True) : ab_Met mX11_crashesNow 0 0 0 tt [.ref (0)] (sM m) (mQv (FcrashesNow  m)) := by
  refine ab_Met.of rfl (Nat.le_of_ble_eq_true rfl) ?_
  show mV mX11_crashesNow 0 tt (mQv (FcrashesNow  m)) 0 [some (.ref (0))] [] m
  refine ab_aload_n (pc := 0) dX11_crashesNow_0 rfl rfl ?_
  refine ab_iconst (pc := 1) (v := nI 0) dX11_crashesNow_1 (by decide) ?_
  refine mo_pi (pc := 2) dX11_crashesNow_2 fl_X11_15 rfl rfl (ab_ok_b (Or.inl rfl)) ?_
  refine ab_aload_n (pc := 5) dX11_crashesNow_5 rfl rfl ?_
  refine ab_iconst (pc := 6) (v := nI 0) dX11_crashesNow_6 (by decide) ?_
  refine mo_pi (pc := 7) dX11_crashesNow_7 fl_X11_119 rfl rfl (ab_ok_b (Or.inl rfl)) ?_
  refine ab_aload_n (pc := 10) dX11_crashesNow_10 rfl rfl ?_
  refine ab_iconst (pc := 11) (v := nI 0) dX11_crashesNow_11 (by decide) ?_
  refine mo_pi (pc := 12) dX11_crashesNow_12 fl_X11_122 rfl rfl (ab_ok_i _) ?_
  refine ab_aload_n (pc := 15) dX11_crashesNow_15 rfl rfl ?_
  refine mo_gr (pc := 16) dX11_crashesNow_16 fl_X11_38 rfl rfl ?_
  refine ab_iconst (pc := 19) (v := nI 1) dX11_crashesNow_19 (by decide) ?_
  refine ab_iconst (pc := 20) (v := nI 0) dX11_crashesNow_20 (by decide) ?_
  refine mo_ist (pc := 21) dX11_crashesNow_21 (by decide) rfl (by decide) (by decide) ?_
  refine ab_aload_n (pc := 22) dX11_crashesNow_22 rfl rfl ?_
  refine ab_iconst (pc := 23) (v := nI 0) dX11_crashesNow_23 (by decide) ?_
  refine mo_pi (pc := 24) dX11_crashesNow_24 fl_X11_125 rfl rfl (ab_ok_i _) ?_
  refine ab_aload_n (pc := 27) dX11_crashesNow_27 rfl rfl ?_
  refine mo_gr (pc := 28) dX11_crashesNow_28 fl_X11_54 rfl rfl ?_
  refine ab_iconst (pc := 31) (v := nI 1) dX11_crashesNow_31 (by decide) ?_
  refine ab_iconst (pc := 32) (v := -1) dX11_crashesNow_32 (by decide) ?_
  refine mo_ist (pc := 33) dX11_crashesNow_33 (by decide) rfl (by decide) (by decide) ?_
  refine ab_aload_n (pc := 34) dX11_crashesNow_34 rfl rfl ?_
  refine ab_iconst (pc := 35) (v := nI 0) dX11_crashesNow_35 (by decide) ?_
  refine mo_pi (pc := 36) dX11_crashesNow_36 fl_X11_128 rfl rfl (ab_ok_i _) ?_
  refine ab_aload_n (pc := 39) dX11_crashesNow_39 rfl rfl ?_
  refine ab_dup (pc := 40) dX11_crashesNow_40 rfl ?_
  refine mo_gi (pc := 41) dX11_crashesNow_41 fl_X11_131 rfl ?_
  refine ab_iconst (pc := 44) (v := nI 1) dX11_crashesNow_44 (by decide) ?_
  refine ab_iadd (pc := 45) dX11_crashesNow_45 ?_
  refine mo_pi (pc := 46) dX11_crashesNow_46 fl_X11_131 rfl rfl (ab_ok_i _) ?_
  refine mo_vr (pc := 49) dX11_crashesNow_49 rfl ?_
  first | rfl | (rw [FcrashesNow]; done) | (rw [FcrashesNow]; rfl)
def Fholds (a : Int32) (b : Int32) (c : Int32) (m : mD) : mD :=
  let m1 := ab_up m 0 43 (nI (1))
  let m2 := ab_up m1 0 44 (a)
  let m3 := ab_up m2 0 45 (b)
  let m4 := ab_up m3 0 46 (c)
  m4
set_option maxRecDepth 100000 in
set_option maxHeartbeats 4000000 in
theorem c_holds {tt : Prop} (a : Int32) (b : Int32) (c : Int32) (m : mD) (hD : True) : ab_Met mX11_holds 0 0 0 tt [.ref (0), .int (a), .int (b), .int (c)] (sM m) (mQv (Fholds a b c m)) := by
  refine ab_Met.of rfl (Nat.le_of_ble_eq_true rfl) ?_
  show mV mX11_holds 0 tt (mQv (Fholds a b c m)) 0 [some (.ref (0)), some (.int (a)), some (.int (b)), some (.int (c))] [] m
  refine ab_aload_n (pc := 0) dX11_holds_0 rfl rfl ?_
  refine ab_iconst (pc := 1) (v := nI 1) dX11_holds_1 (by decide) ?_
  refine mo_pi (pc := 2) dX11_holds_2 fl_X11_225 rfl rfl (ab_ok_b (Or.inr rfl)) ?_
  refine ab_aload_n (pc := 5) dX11_holds_5 rfl rfl ?_
  refine ab_iload_n (pc := 6) dX11_holds_6 rfl rfl ?_
  refine mo_pi (pc := 7) dX11_holds_7 fl_X11_248 rfl rfl (ab_ok_i _) ?_
  refine ab_aload_n (pc := 10) dX11_holds_10 rfl rfl ?_
  refine ab_iload_n (pc := 11) dX11_holds_11 rfl rfl ?_
  refine mo_pi (pc := 12) dX11_holds_12 fl_X11_251 rfl rfl (ab_ok_i _) ?_
  refine ab_aload_n (pc := 15) dX11_holds_15 rfl rfl ?_
  refine ab_iload_n (pc := 16) dX11_holds_16 rfl rfl ?_
  refine mo_pi (pc := 17) dX11_holds_17 fl_X11_254 rfl rfl (ab_ok_i _) ?_
  refine mo_vr (pc := 20) dX11_holds_20 rfl ?_
  first | rfl | (rw [Fholds]; done) | (rw [Fholds]; rfl)
def Fdrafts_3 : Nat → Int32 → Int32 → Int32 → Nat → mD → mD
  | 0, _, _, _, _, m => m
  | n + 1, a, b, c, a4, m =>
    if 13 ≤ a4 then
      let m2 := ab_up m 3 1 (a)
      let m3 := ab_up m2 3 2 (b)
      let m4 := ab_up m3 3 3 (c)
      m4
    else
      let m6 := ab_up m 3 a4 (nI (0))
      Fdrafts_3 n a b c (a4 + 1) m6
def Ddrafts_3 : Nat → Int32 → Int32 → Int32 → Nat → mD → Prop
  | 0, _, _, _, _, _ => False
  | n + 1, a, b, c, a4, m =>
    (a4 < 2147483648) ∧
    ((13 ≤ a4) →
      True) ∧
    (¬ (13 ≤ a4) →
      (a4 < 13) ∧
      let m6 := ab_up m 3 a4 (nI (0))
      Ddrafts_3 n a b c (a4 + 1) m6)
set_option maxRecDepth 100000 in
set_option maxHeartbeats 4000000 in
theorem w_drafts_3 {tt : Prop} : ∀ (n : Nat) (a : Int32) (b : Int32) (c : Int32) (a4 : Nat) (m : mD) (hD : Ddrafts_3 n a b c a4 m), mV mX11_drafts 0 tt (mQv (Fdrafts_3 n a b c a4 m)) 3 [some (.ref (0)), some (.int (a)), some (.int (b)), some (.int (c)), some (.int (nI (a4)))] [] m := by
  intro n
  induction n with
  | zero => intros; rename_i hD; exact hD.elim
  | succ n ih =>
    intro a b c a4 m hD
    refine ab_iload (pc := 3) dX11_drafts_3 rfl ?_
    refine ab_bipush (pc := 5) (v := nI 13) dX11_drafts_5 (by decide) ?_
    obtain ⟨o1, hD⟩ := hD
    refine ab_icmp_geN (pc := 7) (tgt := 24) dX11_drafts_7 (by decide) o1 (by decide) (fun c_7 => ?_) (fun c_7 => ?_)
    · refine ab_aload_n (pc := 24) dX11_drafts_24 rfl rfl ?_
      refine mo_gr (pc := 25) dX11_drafts_25 fl_X11_7 rfl rfl ?_
      refine ab_iconst (pc := 28) (v := nI 1) dX11_drafts_28 (by decide) ?_
      refine ab_iload_n (pc := 29) dX11_drafts_29 rfl rfl ?_
      refine mo_ist (pc := 30) dX11_drafts_30 (by decide) rfl (by decide) (by decide) ?_
      refine ab_aload_n (pc := 31) dX11_drafts_31 rfl rfl ?_
      refine mo_gr (pc := 32) dX11_drafts_32 fl_X11_7 rfl rfl ?_
      refine ab_iconst (pc := 35) (v := nI 2) dX11_drafts_35 (by decide) ?_
      refine ab_iload_n (pc := 36) dX11_drafts_36 rfl rfl ?_
      refine mo_ist (pc := 37) dX11_drafts_37 (by decide) rfl (by decide) (by decide) ?_
      refine ab_aload_n (pc := 38) dX11_drafts_38 rfl rfl ?_
      refine mo_gr (pc := 39) dX11_drafts_39 fl_X11_7 rfl rfl ?_
      refine ab_iconst (pc := 42) (v := nI 3) dX11_drafts_42 (by decide) ?_
      refine ab_iload_n (pc := 43) dX11_drafts_43 rfl rfl ?_
      refine mo_ist (pc := 44) dX11_drafts_44 (by decide) rfl (by decide) (by decide) ?_
      refine mo_vr (pc := 45) dX11_drafts_45 rfl ?_
      first | (rw [Fdrafts_3]; (try dsimp only); rw [if_pos c_7]; done) | (rw [Fdrafts_3]; (try dsimp only); rw [if_pos c_7]; rfl)
    · replace hD := hD.2 c_7
      refine ab_aload_n (pc := 10) dX11_drafts_10 rfl rfl ?_
      refine mo_gr (pc := 11) dX11_drafts_11 fl_X11_7 rfl rfl ?_
      refine ab_iload (pc := 14) dX11_drafts_14 rfl ?_
      refine ab_iconst (pc := 16) (v := nI 0) dX11_drafts_16 (by decide) ?_
      obtain ⟨o5, hD⟩ := hD
      refine mo_ist (pc := 17) dX11_drafts_17 (by decide) rfl o5 (by decide) ?_
      refine ab_iinc (pc := 18) dX11_drafts_18 rfl (ab_inc _) (Nat.le_of_ble_eq_true rfl) rfl ?_
      refine ab_goto (pc := 21) (tgt := 3) dX11_drafts_21 (by decide) ?_
      refine mo_eqv ?_ (ih _ _ _ _ _ hD)
      first | (rw [Fdrafts_3]; (try dsimp only); rw [if_neg c_7]; done) | (rw [Fdrafts_3]; (try dsimp only); rw [if_neg c_7]; rfl)
def Fdrafts (a : Int32) (b : Int32) (c : Int32) (m : mD) : mD :=
  Fdrafts_3 14 a b c 0 m
def Ddrafts (a : Int32) (b : Int32) (c : Int32) (m : mD) : Prop :=
  Ddrafts_3 14 a b c 0 m
set_option maxRecDepth 100000 in
set_option maxHeartbeats 4000000 in
theorem c_drafts {tt : Prop} (a : Int32) (b : Int32) (c : Int32) (m : mD) (hD : Ddrafts a b c m) : ab_Met mX11_drafts 0 0 0 tt [.ref (0), .int (a), .int (b), .int (c)] (sM m) (mQv (Fdrafts a b c m)) := by
  refine ab_Met.of rfl (Nat.le_of_ble_eq_true rfl) ?_
  show mV mX11_drafts 0 tt (mQv (Fdrafts a b c m)) 0 [some (.ref (0)), some (.int (a)), some (.int (b)), some (.int (c)), none] [] m
  refine ab_iconst (pc := 0) (v := nI 0) dX11_drafts_0 (by decide) ?_
  refine ab_istore (pc := 1) dX11_drafts_1 (Nat.le_of_ble_eq_true rfl) rfl ?_
  refine mo_eqv ?_ (w_drafts_3 14 _ _ _ _ _ hD)
  first | rfl | (rw [Fdrafts]; done) | (rw [Fdrafts]; rfl)
def Flives (p : Nat) (m : mD) : Int32 :=
  if p = 1 then
    (m 0 23)
  else
    if (FisUser (nI (p))) = 0 then
      (nI (1))
    else
      if (m 7 p) = (nI (1)) then
        (nI (1))
      else
        (nI (0))
def Dlives (p : Nat) (m : mD) : Prop :=
  (p < 2147483648) ∧
  ((p = 1) →
    ((m 0 23) = 0 ∨ (m 0 23) = 1) ∧
    True) ∧
  (¬ (p = 1) →
    (((FisUser (nI (p))) = 0) →
      True) ∧
    (¬ ((FisUser (nI (p))) = 0) →
      (p < 12) ∧
      True))
set_option maxRecDepth 100000 in
set_option maxHeartbeats 4000000 in
theorem c_lives {tt : Prop} (p : Nat) (m : mD) (hD : Dlives p m) : ab_Met mX11_lives 1 0 0 tt [.ref (0), .int (nI (p))] (sM m) (mQi (Flives p m, m)) := by
  refine ab_Met.of rfl (Nat.le_of_ble_eq_true rfl) ?_
  show mV mX11_lives 1 tt (mQi (Flives p m, m)) 0 [some (.ref (0)), some (.int (nI (p)))] [] m
  refine ab_iload_n (pc := 0) dX11_lives_0 rfl rfl ?_
  refine ab_iconst (pc := 1) (v := nI 1) dX11_lives_1 (by decide) ?_
  obtain ⟨o1, hD⟩ := hD
  refine ab_icmp_neN (pc := 2) (tgt := 12) dX11_lives_2 (by decide) o1 (by decide) (fun c_2 => ?_) (fun c_2 => ?_)
  · replace hD := hD.2 c_2
    refine ab_iload_n (pc := 12) dX11_lives_12 rfl rfl ?_
    refine mo_invs (N := mX11_isUser) (pc := 13) (d' := 0) (av := [_]) dX11_lives_13 ml_X11_11 fs_X11_isUser (Nat.le_of_ble_eq_true rfl) (by decide) (c_isUser _ _ trivial) ?_
    refine ab_if_eq (pc := 16) (tgt := 29) dX11_lives_16 (by decide) (fun c_16 => ?_) (fun c_16 => ?_)
    · refine ab_iconst (pc := 29) (v := nI 1) dX11_lives_29 (by decide) ?_
      refine ab_goto (pc := 30) (tgt := 34) dX11_lives_30 (by decide) ?_
      refine mo_ir (pc := 34) dX11_lives_34 rfl (ab_nb (Or.inr rfl)) ?_
      first | (rw [Flives]; (try dsimp only); rw [if_neg c_2, if_pos c_16]; done) | (rw [Flives]; (try dsimp only); rw [if_neg c_2, if_pos c_16]; rfl)
    · replace hD := hD.2 c_16
      refine ab_aload_n (pc := 19) dX11_lives_19 rfl rfl ?_
      refine mo_gr (pc := 20) dX11_lives_20 fl_X11_19 rfl rfl ?_
      refine ab_iload_n (pc := 23) dX11_lives_23 rfl rfl ?_
      obtain ⟨o2, hD⟩ := hD
      refine mo_ild (pc := 24) dX11_lives_24 (by decide) rfl o2 (by decide) ?_
      refine ab_iconst (pc := 25) (v := nI 1) dX11_lives_25 (by decide) ?_
      refine ab_icmp_ne (pc := 26) (tgt := 33) dX11_lives_26 (by decide) (fun c_26 => ?_) (fun c_26 => ?_)
      · refine ab_iconst (pc := 33) (v := nI 0) dX11_lives_33 (by decide) ?_
        refine mo_ir (pc := 34) dX11_lives_34 rfl (ab_nb (Or.inl rfl)) ?_
        first | (rw [Flives]; (try dsimp only); rw [if_neg c_2, if_neg c_16, if_neg c_26]; done) | (rw [Flives]; (try dsimp only); rw [if_neg c_2, if_neg c_16, if_neg c_26]; rfl)
      · refine ab_iconst (pc := 29) (v := nI 1) dX11_lives_29 (by decide) ?_
        refine ab_goto (pc := 30) (tgt := 34) dX11_lives_30 (by decide) ?_
        refine mo_ir (pc := 34) dX11_lives_34 rfl (ab_nb (Or.inr rfl)) ?_
        first | (rw [Flives]; (try dsimp only); rw [if_neg c_2, if_neg c_16, if_pos c_26]; done) | (rw [Flives]; (try dsimp only); rw [if_neg c_2, if_neg c_16, if_pos c_26]; rfl)
  · replace hD := hD.1 c_2
    refine ab_aload_n (pc := 5) dX11_lives_5 rfl rfl ?_
    refine mo_gi (pc := 6) dX11_lives_6 fl_X11_15 rfl ?_
    refine ab_goto (pc := 9) (tgt := 34) dX11_lives_9 (by decide) ?_
    obtain ⟨o3, hD⟩ := hD
    refine mo_ir (pc := 34) dX11_lives_34 rfl (ab_nb o3) ?_
    first | (rw [Flives]; (try dsimp only); rw [if_pos c_2]; done) | (rw [Flives]; (try dsimp only); rw [if_pos c_2]; rfl)
def Fsend_94 : Nat → Nat → Nat → Int32 → Nat → Nat → mD → Int32 × mD
  | 0, _, _, _, _, _, m => (0, m)
  | n + 1, f, t, b, a4, a5, m =>
    if 13 ≤ a5 then
      let m15 := ab_up m 2 t (nI (((m 2 t).toNatClampNeg) + 1))
      let m16 := ab_up m15 0 7 ((m15 0 7) + (nI (1)))
      ((nI (0)), m16)
    else
      let m19 := ab_up m 1 (a4 + a5) (m 3 a5)
      Fsend_94 n f t b a4 (a5 + 1) m19
def Dsend_94 : Nat → Nat → Nat → Int32 → Nat → Nat → mD → Prop
  | 0, _, _, _, _, _, _ => False
  | n + 1, f, t, b, a4, a5, m =>
    (a5 < 2147483648) ∧
    ((13 ≤ a5) →
      (t < 12) ∧
      (¬ (m 2 t) < 0) ∧
      (t < 12) ∧
      let m15 := ab_up m 2 t (nI (((m 2 t).toNatClampNeg) + 1))
      let m16 := ab_up m15 0 7 ((m15 0 7) + (nI (1)))
      True) ∧
    (¬ (13 ≤ a5) →
      (a5 < 13) ∧
      ((a4 + a5) < 1872) ∧
      let m19 := ab_up m 1 (a4 + a5) (m 3 a5)
      Dsend_94 n f t b a4 (a5 + 1) m19)
set_option maxRecDepth 100000 in
set_option maxHeartbeats 4000000 in
theorem w_send_94 {tt : Prop} : ∀ (n : Nat) (f : Nat) (t : Nat) (b : Int32) (a4 : Nat) (a5 : Nat) (m : mD) (hD : Dsend_94 n f t b a4 a5 m), mV mX11_send 2 tt (mQi (Fsend_94 n f t b a4 a5 m)) 94 [some (.ref (0)), none, some (.int (nI (t))), none, some (.int (nI (a4))), some (.int (nI (a5)))] [] m := by
  intro n
  induction n with
  | zero => intros; rename_i hD; exact hD.elim
  | succ n ih =>
    intro f t b a4 a5 m hD
    refine ab_iload (pc := 94) dX11_send_94 rfl ?_
    refine ab_bipush (pc := 96) (v := nI 13) dX11_send_96 (by decide) ?_
    obtain ⟨o11, hD⟩ := hD
    refine ab_icmp_geN (pc := 98) (tgt := 124) dX11_send_98 (by decide) o11 (by decide) (fun c_98 => ?_) (fun c_98 => ?_)
    · replace hD := hD.1 c_98
      refine ab_aload_n (pc := 124) dX11_send_124 rfl rfl ?_
      refine mo_gr (pc := 125) dX11_send_125 fl_X11_38 rfl rfl ?_
      refine ab_iload_n (pc := 128) dX11_send_128 rfl rfl ?_
      refine ab_dup2 (pc := 129) dX11_send_129 rfl rfl ?_
      obtain ⟨o12, hD⟩ := hD
      refine mo_ild (pc := 130) dX11_send_130 (by decide) rfl o12 (by decide) ?_
      obtain ⟨o13, hD⟩ := hD
      refine ab_nat1 (ab_nat o13) ?_
      refine ab_iconst (pc := 131) (v := nI 1) dX11_send_131 (by decide) ?_
      refine ab_iaddN (pc := 132) dX11_send_132 ?_
      obtain ⟨o14, hD⟩ := hD
      refine mo_ist (pc := 133) dX11_send_133 (by decide) rfl o14 (by decide) ?_
      refine ab_aload_n (pc := 134) dX11_send_134 rfl rfl ?_
      refine ab_dup (pc := 135) dX11_send_135 rfl ?_
      refine mo_gi (pc := 136) dX11_send_136 fl_X11_44 rfl ?_
      refine ab_iconst (pc := 139) (v := nI 1) dX11_send_139 (by decide) ?_
      refine ab_iadd (pc := 140) dX11_send_140 ?_
      refine mo_pi (pc := 141) dX11_send_141 fl_X11_44 rfl rfl (ab_ok_i _) ?_
      refine ab_iconst (pc := 144) (v := nI 0) dX11_send_144 (by decide) ?_
      refine mo_ir (pc := 145) dX11_send_145 rfl rfl ?_
      first | (rw [Fsend_94]; (try dsimp only); rw [if_pos c_98]; done) | (rw [Fsend_94]; (try dsimp only); rw [if_pos c_98]; rfl)
    · replace hD := hD.2 c_98
      refine ab_aload_n (pc := 101) dX11_send_101 rfl rfl ?_
      refine mo_gr (pc := 102) dX11_send_102 fl_X11_41 rfl rfl ?_
      refine ab_iload (pc := 105) dX11_send_105 rfl ?_
      refine ab_iload (pc := 107) dX11_send_107 rfl ?_
      refine ab_iaddN (pc := 109) dX11_send_109 ?_
      refine ab_aload_n (pc := 110) dX11_send_110 rfl rfl ?_
      refine mo_gr (pc := 111) dX11_send_111 fl_X11_7 rfl rfl ?_
      refine ab_iload (pc := 114) dX11_send_114 rfl ?_
      obtain ⟨o17, hD⟩ := hD
      refine mo_ild (pc := 116) dX11_send_116 (by decide) rfl o17 (by decide) ?_
      obtain ⟨o18, hD⟩ := hD
      refine mo_ist (pc := 117) dX11_send_117 (by decide) rfl o18 (by decide) ?_
      refine ab_iinc (pc := 118) dX11_send_118 rfl (ab_inc _) (Nat.le_of_ble_eq_true rfl) rfl ?_
      refine ab_goto (pc := 121) (tgt := 94) dX11_send_121 (by decide) ?_
      refine ab_wk (ls2 := [some _, none, some _, none, some _, some _]) (And.intro rfl (And.intro rfl (And.intro rfl (And.intro rfl trivial)))) ?_
      refine mo_eqi ?_ (ih _ _ _ _ _ _ hD)
      first | (rw [Fsend_94]; (try dsimp only); rw [if_neg c_98]; done) | (rw [Fsend_94]; (try dsimp only); rw [if_neg c_98]; rfl)
def Fsend_55 (f : Nat) (t : Nat) (b : Int32) (m : mD) : Int32 × mD :=
  if ((m 2 t).toNatClampNeg) = 12 then
    ((nI (3)), m)
  else
    let m10 := ab_up m 3 0 (nI (f))
    Fsend_94 14 f t b (13 * ((12 * t) + ((m 2 t).toNatClampNeg))) 0 m10
def Dsend_55 (f : Nat) (t : Nat) (b : Int32) (m : mD) : Prop :=
  (t < 12) ∧
  (¬ (m 2 t) < 0) ∧
  (((m 2 t).toNatClampNeg) < 2147483648) ∧
  ((((m 2 t).toNatClampNeg) = 12) →
    True) ∧
  (¬ (((m 2 t).toNatClampNeg) = 12) →
    (t < 12) ∧
    (¬ (m 2 t) < 0) ∧
    let m10 := ab_up m 3 0 (nI (f))
    Dsend_94 14 f t b (13 * ((12 * t) + ((m 2 t).toNatClampNeg))) 0 m10)
set_option maxRecDepth 100000 in
set_option maxHeartbeats 4000000 in
theorem w_send_55 {tt : Prop} (f : Nat) (t : Nat) (b : Int32) (m : mD) (hD : Dsend_55 f t b m) : mV mX11_send 2 tt (mQi (Fsend_55 f t b m)) 55 [some (.ref (0)), some (.int (nI (f))), some (.int (nI (t))), none, none, none] [] m := by
  refine ab_aload_n (pc := 55) dX11_send_55 rfl rfl ?_
  refine mo_gr (pc := 56) dX11_send_56 fl_X11_38 rfl rfl ?_
  refine ab_iload_n (pc := 59) dX11_send_59 rfl rfl ?_
  obtain ⟨o5, hD⟩ := hD
  refine mo_ild (pc := 60) dX11_send_60 (by decide) rfl o5 (by decide) ?_
  obtain ⟨o6, hD⟩ := hD
  refine ab_nat1 (ab_nat o6) ?_
  refine ab_bipush (pc := 61) (v := nI 12) dX11_send_61 (by decide) ?_
  obtain ⟨o7, hD⟩ := hD
  refine ab_icmp_neN (pc := 63) (tgt := 68) dX11_send_63 (by decide) o7 (by decide) (fun c_63 => ?_) (fun c_63 => ?_)
  · replace hD := hD.2 c_63
    refine ab_bipush (pc := 68) (v := nI 13) dX11_send_68 (by decide) ?_
    refine ab_bipush (pc := 70) (v := nI 12) dX11_send_70 (by decide) ?_
    refine ab_iload_n (pc := 72) dX11_send_72 rfl rfl ?_
    refine ab_imulN (pc := 73) dX11_send_73 ?_
    refine ab_aload_n (pc := 74) dX11_send_74 rfl rfl ?_
    refine mo_gr (pc := 75) dX11_send_75 fl_X11_38 rfl rfl ?_
    refine ab_iload_n (pc := 78) dX11_send_78 rfl rfl ?_
    obtain ⟨o8, hD⟩ := hD
    refine mo_ild (pc := 79) dX11_send_79 (by decide) rfl o8 (by decide) ?_
    obtain ⟨o9, hD⟩ := hD
    refine ab_nat1 (ab_nat o9) ?_
    refine ab_iaddN (pc := 80) dX11_send_80 ?_
    refine ab_imulN (pc := 81) dX11_send_81 ?_
    refine ab_istore (pc := 82) dX11_send_82 (Nat.le_of_ble_eq_true rfl) rfl ?_
    refine ab_aload_n (pc := 84) dX11_send_84 rfl rfl ?_
    refine mo_gr (pc := 85) dX11_send_85 fl_X11_7 rfl rfl ?_
    refine ab_iconst (pc := 88) (v := nI 0) dX11_send_88 (by decide) ?_
    refine ab_iload_n (pc := 89) dX11_send_89 rfl rfl ?_
    refine mo_ist (pc := 90) dX11_send_90 (by decide) rfl (by decide) (by decide) ?_
    refine ab_iconst (pc := 91) (v := nI 0) dX11_send_91 (by decide) ?_
    refine ab_istore (pc := 92) dX11_send_92 (Nat.le_of_ble_eq_true rfl) rfl ?_
    refine ab_wk (ls2 := [some _, none, some _, none, some _, some _]) (And.intro rfl (And.intro rfl (And.intro rfl (And.intro rfl trivial)))) ?_
    refine mo_eqi ?_ (w_send_94 14 _ _ _ _ _ _ hD)
    first | (rw [Fsend_55]; (try dsimp only); rw [if_neg c_63]; done) | (rw [Fsend_55]; (try dsimp only); rw [if_neg c_63]; rfl)
  · refine ab_iconst (pc := 66) (v := nI 3) dX11_send_66 (by decide) ?_
    refine mo_ir (pc := 67) dX11_send_67 rfl rfl ?_
    first | (rw [Fsend_55]; (try dsimp only); rw [if_pos c_63]; done) | (rw [Fsend_55]; (try dsimp only); rw [if_pos c_63]; rfl)
def Fsend (f : Nat) (t : Nat) (b : Int32) (m : mD) : Int32 × mD :=
  if (FisAllowed (nI (f)) (nI (t))) = 0 then
    let m4 := ab_up m 0 6 ((m 0 6) + (nI (1)))
    ((nI (1)), m4)
  else
    if (Flives t m) = 0 then
      ((nI (2)), m)
    else
      if (b) = 0 then
        Fsend_55 f t b m
      else
        if f = 2 then
          if t = 1 then
            if (m 0 34) = (m 0 25) then
              Fsend_55 f t b m
            else
              ((nI (2)), m)
          else
            Fsend_55 f t b m
        else
          Fsend_55 f t b m
def Dsend (f : Nat) (t : Nat) (b : Int32) (m : mD) : Prop :=
  (((FisAllowed (nI (f)) (nI (t))) = 0) →
    True) ∧
  (¬ ((FisAllowed (nI (f)) (nI (t))) = 0) →
    (Dlives t m) ∧
    (((Flives t m) = 0) →
      True) ∧
    (¬ ((Flives t m) = 0) →
      (((b) = 0) →
        Dsend_55 f t b m) ∧
      (¬ ((b) = 0) →
        (f < 2147483648) ∧
        ((f = 2) →
          (t < 2147483648) ∧
          ((t = 1) →
            (((m 0 34) = (m 0 25)) →
              Dsend_55 f t b m) ∧
            (¬ ((m 0 34) = (m 0 25)) →
              True)) ∧
          (¬ (t = 1) →
            Dsend_55 f t b m)) ∧
        (¬ (f = 2) →
          Dsend_55 f t b m))))
set_option maxRecDepth 100000 in
set_option maxHeartbeats 4000000 in
theorem c_send {tt : Prop} (f : Nat) (t : Nat) (b : Int32) (m : mD) (hD : Dsend f t b m) : ab_Met mX11_send 2 0 0 tt [.ref (0), .int (nI (f)), .int (nI (t)), .int (b)] (sM m) (mQi (Fsend f t b m)) := by
  refine ab_Met.of rfl (Nat.le_of_ble_eq_true rfl) ?_
  show mV mX11_send 2 tt (mQi (Fsend f t b m)) 0 [some (.ref (0)), some (.int (nI (f))), some (.int (nI (t))), some (.int (b)), none, none] [] m
  refine ab_iload_n (pc := 0) dX11_send_0 rfl rfl ?_
  refine ab_iload_n (pc := 1) dX11_send_1 rfl rfl ?_
  refine mo_invs (N := mX11_isAllowed) (pc := 2) (d' := 1) (av := [_, _]) dX11_send_2 ml_X11_22 fs_X11_isAllowed (Nat.le_of_ble_eq_true rfl) (by decide) (c_isAllowed _ _ _ trivial) ?_
  refine ab_if_ne (pc := 5) (tgt := 20) dX11_send_5 (by decide) (fun c_5 => ?_) (fun c_5 => ?_)
  · replace hD := hD.2 c_5
    refine ab_aload_n (pc := 20) dX11_send_20 rfl rfl ?_
    refine ab_iload_n (pc := 21) dX11_send_21 rfl rfl ?_
    obtain ⟨o1, hD⟩ := hD
    refine mo_invr (N := mX11_lives) (pc := 22) (d' := 1) (av := [_]) dX11_send_22 ml_X11_29 fv_X11_lives (Nat.le_of_ble_eq_true rfl) (by decide) (c_lives _ _ o1) ?_
    refine ab_if_eq (pc := 25) (tgt := 53) dX11_send_25 (by decide) (fun c_25 => ?_) (fun c_25 => ?_)
    · refine ab_iconst (pc := 53) (v := nI 2) dX11_send_53 (by decide) ?_
      refine mo_ir (pc := 54) dX11_send_54 rfl rfl ?_
      first | (rw [Fsend]; (try dsimp only); rw [if_neg c_5, if_pos c_25]; done) | (rw [Fsend]; (try dsimp only); rw [if_neg c_5, if_pos c_25]; rfl)
    · replace hD := hD.2 c_25
      refine ab_iload_n (pc := 28) dX11_send_28 rfl rfl ?_
      refine ab_if_eq (pc := 29) (tgt := 55) dX11_send_29 (by decide) (fun c_29 => ?_) (fun c_29 => ?_)
      · replace hD := hD.1 c_29
        refine ab_wk (ls2 := [some _, some _, some _, none, none, none]) (And.intro rfl (And.intro rfl (And.intro rfl trivial))) ?_
        refine mo_eqi ?_ (w_send_55 _ _ _ _ hD)
        first | (rw [Fsend]; (try dsimp only); rw [if_neg c_5, if_neg c_25, if_pos c_29]; done) | (rw [Fsend]; (try dsimp only); rw [if_neg c_5, if_neg c_25, if_pos c_29]; rfl)
      · replace hD := hD.2 c_29
        refine ab_iload_n (pc := 32) dX11_send_32 rfl rfl ?_
        refine ab_iconst (pc := 33) (v := nI 2) dX11_send_33 (by decide) ?_
        obtain ⟨o2, hD⟩ := hD
        refine ab_icmp_neN (pc := 34) (tgt := 55) dX11_send_34 (by decide) o2 (by decide) (fun c_34 => ?_) (fun c_34 => ?_)
        · replace hD := hD.2 c_34
          refine ab_wk (ls2 := [some _, some _, some _, none, none, none]) (And.intro rfl (And.intro rfl (And.intro rfl trivial))) ?_
          refine mo_eqi ?_ (w_send_55 _ _ _ _ hD)
          first | (rw [Fsend]; (try dsimp only); rw [if_neg c_5, if_neg c_25, if_neg c_29, if_neg c_34]; done) | (rw [Fsend]; (try dsimp only); rw [if_neg c_5, if_neg c_25, if_neg c_29, if_neg c_34]; rfl)
        · replace hD := hD.1 c_34
          refine ab_iload_n (pc := 37) dX11_send_37 rfl rfl ?_
          refine ab_iconst (pc := 38) (v := nI 1) dX11_send_38 (by decide) ?_
          obtain ⟨o3, hD⟩ := hD
          refine ab_icmp_neN (pc := 39) (tgt := 55) dX11_send_39 (by decide) o3 (by decide) (fun c_39 => ?_) (fun c_39 => ?_)
          · replace hD := hD.2 c_39
            refine ab_wk (ls2 := [some _, some _, some _, none, none, none]) (And.intro rfl (And.intro rfl (And.intro rfl trivial))) ?_
            refine mo_eqi ?_ (w_send_55 _ _ _ _ hD)
            first | (rw [Fsend]; (try dsimp only); rw [if_neg c_5, if_neg c_25, if_neg c_29, if_pos c_34, if_neg c_39]; done) | (rw [Fsend]; (try dsimp only); rw [if_neg c_5, if_neg c_25, if_neg c_29, if_pos c_34, if_neg c_39]; rfl)
          · replace hD := hD.1 c_39
            refine ab_aload_n (pc := 42) dX11_send_42 rfl rfl ?_
            refine mo_gi (pc := 43) dX11_send_43 fl_X11_32 rfl ?_
            refine ab_aload_n (pc := 46) dX11_send_46 rfl rfl ?_
            refine mo_gi (pc := 47) dX11_send_47 fl_X11_35 rfl ?_
            refine ab_icmp_eq (pc := 50) (tgt := 55) dX11_send_50 (by decide) (fun c_50 => ?_) (fun c_50 => ?_)
            · replace hD := hD.1 c_50
              refine ab_wk (ls2 := [some _, some _, some _, none, none, none]) (And.intro rfl (And.intro rfl (And.intro rfl trivial))) ?_
              refine mo_eqi ?_ (w_send_55 _ _ _ _ hD)
              first | (rw [Fsend]; (try dsimp only); rw [if_neg c_5, if_neg c_25, if_neg c_29, if_pos c_34, if_pos c_39, if_pos c_50]; done) | (rw [Fsend]; (try dsimp only); rw [if_neg c_5, if_neg c_25, if_neg c_29, if_pos c_34, if_pos c_39, if_pos c_50]; rfl)
            · refine ab_iconst (pc := 53) (v := nI 2) dX11_send_53 (by decide) ?_
              refine mo_ir (pc := 54) dX11_send_54 rfl rfl ?_
              first | (rw [Fsend]; (try dsimp only); rw [if_neg c_5, if_neg c_25, if_neg c_29, if_pos c_34, if_pos c_39, if_neg c_50]; done) | (rw [Fsend]; (try dsimp only); rw [if_neg c_5, if_neg c_25, if_neg c_29, if_pos c_34, if_pos c_39, if_neg c_50]; rfl)
  · refine ab_aload_n (pc := 8) dX11_send_8 rfl rfl ?_
    refine ab_dup (pc := 9) dX11_send_9 rfl ?_
    refine mo_gi (pc := 10) dX11_send_10 fl_X11_26 rfl ?_
    refine ab_iconst (pc := 13) (v := nI 1) dX11_send_13 (by decide) ?_
    refine ab_iadd (pc := 14) dX11_send_14 ?_
    refine mo_pi (pc := 15) dX11_send_15 fl_X11_26 rfl rfl (ab_ok_i _) ?_
    refine ab_iconst (pc := 18) (v := nI 1) dX11_send_18 (by decide) ?_
    refine mo_ir (pc := 19) dX11_send_19 rfl rfl ?_
    first | (rw [Fsend]; (try dsimp only); rw [if_pos c_5]; done) | (rw [Fsend]; (try dsimp only); rw [if_pos c_5]; rfl)
def Fsends_13 : Nat → Nat → Nat → Nat → mD → mD
  | 0, _, _, _, m => m
  | n + 1, f, t, a3, m =>
    if 13 ≤ a3 then
      let m5 := ab_up m 5 f (nI (t))
      m5
    else
      let m8 := ab_up m 4 ((13 * f) + a3) (m 3 a3)
      Fsends_13 n f t (a3 + 1) m8
def Dsends_13 : Nat → Nat → Nat → Nat → mD → Prop
  | 0, _, _, _, _ => False
  | n + 1, f, t, a3, m =>
    (a3 < 2147483648) ∧
    ((13 ≤ a3) →
      (f < 12) ∧
      let m5 := ab_up m 5 f (nI (t))
      True) ∧
    (¬ (13 ≤ a3) →
      (a3 < 13) ∧
      (((13 * f) + a3) < 156) ∧
      let m8 := ab_up m 4 ((13 * f) + a3) (m 3 a3)
      Dsends_13 n f t (a3 + 1) m8)
set_option maxRecDepth 100000 in
set_option maxHeartbeats 4000000 in
theorem w_sends_13 {tt : Prop} : ∀ (n : Nat) (f : Nat) (t : Nat) (a3 : Nat) (m : mD) (hD : Dsends_13 n f t a3 m), mV mX11_sends 3 tt (mQv (Fsends_13 n f t a3 m)) 13 [some (.ref (0)), some (.int (nI (f))), some (.int (nI (t))), some (.int (nI (a3)))] [] m := by
  intro n
  induction n with
  | zero => intros; rename_i hD; exact hD.elim
  | succ n ih =>
    intro f t a3 m hD
    refine ab_iload_n (pc := 13) dX11_sends_13 rfl rfl ?_
    refine ab_bipush (pc := 14) (v := nI 13) dX11_sends_14 (by decide) ?_
    obtain ⟨o3, hD⟩ := hD
    refine ab_icmp_geN (pc := 16) (tgt := 42) dX11_sends_16 (by decide) o3 (by decide) (fun c_16 => ?_) (fun c_16 => ?_)
    · replace hD := hD.1 c_16
      refine ab_aload_n (pc := 42) dX11_sends_42 rfl rfl ?_
      refine mo_gr (pc := 43) dX11_sends_43 fl_X11_54 rfl rfl ?_
      refine ab_iload_n (pc := 46) dX11_sends_46 rfl rfl ?_
      refine ab_iload_n (pc := 47) dX11_sends_47 rfl rfl ?_
      obtain ⟨o4, hD⟩ := hD
      refine mo_ist (pc := 48) dX11_sends_48 (by decide) rfl o4 (by decide) ?_
      refine mo_vr (pc := 49) dX11_sends_49 rfl ?_
      first | (rw [Fsends_13]; (try dsimp only); rw [if_pos c_16]; done) | (rw [Fsends_13]; (try dsimp only); rw [if_pos c_16]; rfl)
    · replace hD := hD.2 c_16
      refine ab_aload_n (pc := 19) dX11_sends_19 rfl rfl ?_
      refine mo_gr (pc := 20) dX11_sends_20 fl_X11_51 rfl rfl ?_
      refine ab_bipush (pc := 23) (v := nI 13) dX11_sends_23 (by decide) ?_
      refine ab_iload_n (pc := 25) dX11_sends_25 rfl rfl ?_
      refine ab_imulN (pc := 26) dX11_sends_26 ?_
      refine ab_iload_n (pc := 27) dX11_sends_27 rfl rfl ?_
      refine ab_iaddN (pc := 28) dX11_sends_28 ?_
      refine ab_aload_n (pc := 29) dX11_sends_29 rfl rfl ?_
      refine mo_gr (pc := 30) dX11_sends_30 fl_X11_7 rfl rfl ?_
      refine ab_iload_n (pc := 33) dX11_sends_33 rfl rfl ?_
      obtain ⟨o6, hD⟩ := hD
      refine mo_ild (pc := 34) dX11_sends_34 (by decide) rfl o6 (by decide) ?_
      obtain ⟨o7, hD⟩ := hD
      refine mo_ist (pc := 35) dX11_sends_35 (by decide) rfl o7 (by decide) ?_
      refine ab_iinc (pc := 36) dX11_sends_36 rfl (ab_inc _) (Nat.le_of_ble_eq_true rfl) rfl ?_
      refine ab_goto (pc := 39) (tgt := 13) dX11_sends_39 (by decide) ?_
      refine mo_eqv ?_ (ih _ _ _ _ hD)
      first | (rw [Fsends_13]; (try dsimp only); rw [if_neg c_16]; done) | (rw [Fsends_13]; (try dsimp only); rw [if_neg c_16]; rfl)
def Fsends (f : Nat) (t : Nat) (m : mD) : mD :=
  let z2 := Fsend f t (nI (1)) m
  if (z2.1) = (nI (3)) then
    Fsends_13 14 f t 0 z2.2
  else
    z2.2
def Dsends (f : Nat) (t : Nat) (m : mD) : Prop :=
  (Dsend f t (nI (1)) m) ∧
  let z2 := Fsend f t (nI (1)) m
  (((z2.1) = (nI (3))) →
    Dsends_13 14 f t 0 z2.2) ∧
  (¬ ((z2.1) = (nI (3))) →
    True)
set_option maxRecDepth 100000 in
set_option maxHeartbeats 4000000 in
theorem c_sends {tt : Prop} (f : Nat) (t : Nat) (m : mD) (hD : Dsends f t m) : ab_Met mX11_sends 3 0 0 tt [.ref (0), .int (nI (f)), .int (nI (t))] (sM m) (mQv (Fsends f t m)) := by
  refine ab_Met.of rfl (Nat.le_of_ble_eq_true rfl) ?_
  show mV mX11_sends 3 tt (mQv (Fsends f t m)) 0 [some (.ref (0)), some (.int (nI (f))), some (.int (nI (t))), none] [] m
  refine ab_aload_n (pc := 0) dX11_sends_0 rfl rfl ?_
  refine ab_iload_n (pc := 1) dX11_sends_1 rfl rfl ?_
  refine ab_iload_n (pc := 2) dX11_sends_2 rfl rfl ?_
  refine ab_iconst (pc := 3) (v := nI 1) dX11_sends_3 (by decide) ?_
  obtain ⟨o1, hD⟩ := hD
  refine mo_invi (N := mX11_send) (pc := 4) (d' := 2) (av := [_, _, _]) dX11_sends_4 ml_X11_47 fv_X11_send (Nat.le_of_ble_eq_true rfl) (by decide) (c_send _ _ _ _ o1) ?_
  refine ab_iconst (pc := 7) (v := nI 3) dX11_sends_7 (by decide) ?_
  refine ab_icmp_ne (pc := 8) (tgt := 49) dX11_sends_8 (by decide) (fun c_8 => ?_) (fun c_8 => ?_)
  · refine mo_vr (pc := 49) dX11_sends_49 rfl ?_
    first | (rw [Fsends]; (try dsimp only); rw [if_neg c_8]; done) | (rw [Fsends]; (try dsimp only); rw [if_neg c_8]; rfl)
  · replace hD := hD.1 c_8
    refine ab_iconst (pc := 11) (v := nI 0) dX11_sends_11 (by decide) ?_
    refine ab_istore_n (pc := 12) dX11_sends_12 rfl (Nat.le_of_ble_eq_true rfl) rfl ?_
    refine mo_eqv ?_ (w_sends_13 14 _ _ _ _ hD)
    first | (rw [Fsends]; (try dsimp only); rw [if_pos c_8]; done) | (rw [Fsends]; (try dsimp only); rw [if_pos c_8]; rfl)
def FsendsAgain_13 : Nat → Nat → Nat → mD → Int32 × mD
  | 0, _, _, m => (0, m)
  | n + 1, f, a2, m =>
    if 13 ≤ a2 then
      let m5 := ab_up m 5 f (-1)
      let z8 := Fsends f ((m 5 f).toNatClampNeg) m5
      ((nI (1)), z8)
    else
      let m11 := ab_up m 3 a2 (m 4 ((13 * f) + a2))
      FsendsAgain_13 n f (a2 + 1) m11
def DsendsAgain_13 : Nat → Nat → Nat → mD → Prop
  | 0, _, _, _ => False
  | n + 1, f, a2, m =>
    (a2 < 2147483648) ∧
    ((13 ≤ a2) →
      (f < 12) ∧
      (f < 12) ∧
      let m5 := ab_up m 5 f (-1)
      (¬ (m 5 f) < 0) ∧
      (Dsends f ((m 5 f).toNatClampNeg) m5) ∧
      let z8 := Fsends f ((m 5 f).toNatClampNeg) m5
      True) ∧
    (¬ (13 ≤ a2) →
      (((13 * f) + a2) < 156) ∧
      (a2 < 13) ∧
      let m11 := ab_up m 3 a2 (m 4 ((13 * f) + a2))
      DsendsAgain_13 n f (a2 + 1) m11)
set_option maxRecDepth 100000 in
set_option maxHeartbeats 4000000 in
theorem w_sendsAgain_13 {tt : Prop} : ∀ (n : Nat) (f : Nat) (a2 : Nat) (m : mD) (hD : DsendsAgain_13 n f a2 m), mV mX11_sendsAgain 4 tt (mQi (FsendsAgain_13 n f a2 m)) 13 [some (.ref (0)), some (.int (nI (f))), some (.int (nI (a2)))] [] m := by
  intro n
  induction n with
  | zero => intros; rename_i hD; exact hD.elim
  | succ n ih =>
    intro f a2 m hD
    refine ab_iload_n (pc := 13) dX11_sendsAgain_13 rfl rfl ?_
    refine ab_bipush (pc := 14) (v := nI 13) dX11_sendsAgain_14 (by decide) ?_
    obtain ⟨o2, hD⟩ := hD
    refine ab_icmp_geN (pc := 16) (tgt := 42) dX11_sendsAgain_16 (by decide) o2 (by decide) (fun c_16 => ?_) (fun c_16 => ?_)
    · replace hD := hD.1 c_16
      refine ab_aload_n (pc := 42) dX11_sendsAgain_42 rfl rfl ?_
      refine mo_gr (pc := 43) dX11_sendsAgain_43 fl_X11_54 rfl rfl ?_
      refine ab_iload_n (pc := 46) dX11_sendsAgain_46 rfl rfl ?_
      obtain ⟨o3, hD⟩ := hD
      refine mo_ild (pc := 47) dX11_sendsAgain_47 (by decide) rfl o3 (by decide) ?_
      refine ab_istore_n (pc := 48) dX11_sendsAgain_48 rfl (Nat.le_of_ble_eq_true rfl) rfl ?_
      refine ab_aload_n (pc := 49) dX11_sendsAgain_49 rfl rfl ?_
      refine mo_gr (pc := 50) dX11_sendsAgain_50 fl_X11_54 rfl rfl ?_
      refine ab_iload_n (pc := 53) dX11_sendsAgain_53 rfl rfl ?_
      refine ab_iconst (pc := 54) (v := -1) dX11_sendsAgain_54 (by decide) ?_
      obtain ⟨o4, hD⟩ := hD
      refine mo_ist (pc := 55) dX11_sendsAgain_55 (by decide) rfl o4 (by decide) ?_
      refine ab_aload_n (pc := 56) dX11_sendsAgain_56 rfl rfl ?_
      refine ab_iload_n (pc := 57) dX11_sendsAgain_57 rfl rfl ?_
      refine ab_iload_n (pc := 58) dX11_sendsAgain_58 rfl rfl ?_
      obtain ⟨o6, hD⟩ := hD
      refine ab_stk2 (congrArg Value.int (ab_nat o6)) rfl ?_
      obtain ⟨o7, hD⟩ := hD
      refine mo_invv (N := mX11_sends) (pc := 59) (d' := 3) (av := [_, _]) dX11_sendsAgain_59 ml_X11_57 fv_X11_sends (Nat.le_of_ble_eq_true rfl) (by decide) (c_sends _ _ _ o7) ?_
      refine ab_iconst (pc := 62) (v := nI 1) dX11_sendsAgain_62 (by decide) ?_
      refine mo_ir (pc := 63) dX11_sendsAgain_63 rfl (ab_nb (Or.inr rfl)) ?_
      first | (rw [FsendsAgain_13]; (try dsimp only); rw [if_pos c_16]; done) | (rw [FsendsAgain_13]; (try dsimp only); rw [if_pos c_16]; rfl)
    · replace hD := hD.2 c_16
      refine ab_aload_n (pc := 19) dX11_sendsAgain_19 rfl rfl ?_
      refine mo_gr (pc := 20) dX11_sendsAgain_20 fl_X11_7 rfl rfl ?_
      refine ab_iload_n (pc := 23) dX11_sendsAgain_23 rfl rfl ?_
      refine ab_aload_n (pc := 24) dX11_sendsAgain_24 rfl rfl ?_
      refine mo_gr (pc := 25) dX11_sendsAgain_25 fl_X11_51 rfl rfl ?_
      refine ab_bipush (pc := 28) (v := nI 13) dX11_sendsAgain_28 (by decide) ?_
      refine ab_iload_n (pc := 30) dX11_sendsAgain_30 rfl rfl ?_
      refine ab_imulN (pc := 31) dX11_sendsAgain_31 ?_
      refine ab_iload_n (pc := 32) dX11_sendsAgain_32 rfl rfl ?_
      refine ab_iaddN (pc := 33) dX11_sendsAgain_33 ?_
      obtain ⟨o9, hD⟩ := hD
      refine mo_ild (pc := 34) dX11_sendsAgain_34 (by decide) rfl o9 (by decide) ?_
      obtain ⟨o10, hD⟩ := hD
      refine mo_ist (pc := 35) dX11_sendsAgain_35 (by decide) rfl o10 (by decide) ?_
      refine ab_iinc (pc := 36) dX11_sendsAgain_36 rfl (ab_inc _) (Nat.le_of_ble_eq_true rfl) rfl ?_
      refine ab_goto (pc := 39) (tgt := 13) dX11_sendsAgain_39 (by decide) ?_
      refine mo_eqi ?_ (ih _ _ _ hD)
      first | (rw [FsendsAgain_13]; (try dsimp only); rw [if_neg c_16]; done) | (rw [FsendsAgain_13]; (try dsimp only); rw [if_neg c_16]; rfl)
def FsendsAgain (f : Nat) (m : mD) : Int32 × mD :=
  if 0 ≤ (m 5 f) then
    FsendsAgain_13 14 f 0 m
  else
    ((nI (0)), m)
def DsendsAgain (f : Nat) (m : mD) : Prop :=
  (f < 12) ∧
  ((0 ≤ (m 5 f)) →
    DsendsAgain_13 14 f 0 m) ∧
  (¬ (0 ≤ (m 5 f)) →
    True)
set_option maxRecDepth 100000 in
set_option maxHeartbeats 4000000 in
theorem c_sendsAgain {tt : Prop} (f : Nat) (m : mD) (hD : DsendsAgain f m) : ab_Met mX11_sendsAgain 4 0 0 tt [.ref (0), .int (nI (f))] (sM m) (mQi (FsendsAgain f m)) := by
  refine ab_Met.of rfl (Nat.le_of_ble_eq_true rfl) ?_
  show mV mX11_sendsAgain 4 tt (mQi (FsendsAgain f m)) 0 [some (.ref (0)), some (.int (nI (f))), none] [] m
  refine ab_aload_n (pc := 0) dX11_sendsAgain_0 rfl rfl ?_
  refine mo_gr (pc := 1) dX11_sendsAgain_1 fl_X11_54 rfl rfl ?_
  refine ab_iload_n (pc := 4) dX11_sendsAgain_4 rfl rfl ?_
  obtain ⟨o1, hD⟩ := hD
  refine mo_ild (pc := 5) dX11_sendsAgain_5 (by decide) rfl o1 (by decide) ?_
  refine ab_if_ge (pc := 6) (tgt := 11) dX11_sendsAgain_6 (by decide) (fun c_6 => ?_) (fun c_6 => ?_)
  · replace hD := hD.1 c_6
    refine ab_iconst (pc := 11) (v := nI 0) dX11_sendsAgain_11 (by decide) ?_
    refine ab_istore_n (pc := 12) dX11_sendsAgain_12 rfl (Nat.le_of_ble_eq_true rfl) rfl ?_
    refine mo_eqi ?_ (w_sendsAgain_13 14 _ _ _ hD)
    first | (rw [FsendsAgain]; (try dsimp only); rw [if_pos c_6]; done) | (rw [FsendsAgain]; (try dsimp only); rw [if_pos c_6]; rfl)
  · refine ab_iconst (pc := 9) (v := nI 0) dX11_sendsAgain_9 (by decide) ?_
    refine mo_ir (pc := 10) dX11_sendsAgain_10 rfl (ab_nb (Or.inl rfl)) ?_
    first | (rw [FsendsAgain]; (try dsimp only); rw [if_neg c_6]; done) | (rw [FsendsAgain]; (try dsimp only); rw [if_neg c_6]; rfl)
def Fdrop_20 : Nat → Nat → Nat → Nat → mD → mD
  | 0, _, _, _, m => m
  | n + 1, p, k, a3, m =>
    if (13 * ((12 * p) + ((m 2 p).toNatClampNeg))) ≤ a3 then
      m
    else
      let m11 := ab_up m 1 a3 (m 1 (a3 + 13))
      Fdrop_20 n p k (a3 + 1) m11
def Ddrop_20 : Nat → Nat → Nat → Nat → mD → Prop
  | 0, _, _, _, _ => False
  | n + 1, p, k, a3, m =>
    (p < 12) ∧
    (¬ (m 2 p) < 0) ∧
    (a3 < 2147483648) ∧
    ((13 * ((12 * p) + ((m 2 p).toNatClampNeg))) < 2147483648) ∧
    (((13 * ((12 * p) + ((m 2 p).toNatClampNeg))) ≤ a3) →
      True) ∧
    (¬ ((13 * ((12 * p) + ((m 2 p).toNatClampNeg))) ≤ a3) →
      ((a3 + 13) < 1872) ∧
      (a3 < 1872) ∧
      let m11 := ab_up m 1 a3 (m 1 (a3 + 13))
      Ddrop_20 n p k (a3 + 1) m11)
set_option maxRecDepth 100000 in
set_option maxHeartbeats 4000000 in
theorem w_drop_20 {tt : Prop} : ∀ (n : Nat) (p : Nat) (k : Nat) (a3 : Nat) (m : mD) (hD : Ddrop_20 n p k a3 m), mV mX11_drop 0 tt (mQv (Fdrop_20 n p k a3 m)) 20 [some (.ref (0)), some (.int (nI (p))), none, some (.int (nI (a3)))] [] m := by
  intro n
  induction n with
  | zero => intros; rename_i hD; exact hD.elim
  | succ n ih =>
    intro p k a3 m hD
    refine ab_iload_n (pc := 20) dX11_drop_20 rfl rfl ?_
    refine ab_bipush (pc := 21) (v := nI 13) dX11_drop_21 (by decide) ?_
    refine ab_bipush (pc := 23) (v := nI 12) dX11_drop_23 (by decide) ?_
    refine ab_iload_n (pc := 25) dX11_drop_25 rfl rfl ?_
    refine ab_imulN (pc := 26) dX11_drop_26 ?_
    refine ab_aload_n (pc := 27) dX11_drop_27 rfl rfl ?_
    refine mo_gr (pc := 28) dX11_drop_28 fl_X11_38 rfl rfl ?_
    refine ab_iload_n (pc := 31) dX11_drop_31 rfl rfl ?_
    obtain ⟨o5, hD⟩ := hD
    refine mo_ild (pc := 32) dX11_drop_32 (by decide) rfl o5 (by decide) ?_
    obtain ⟨o6, hD⟩ := hD
    refine ab_nat1 (ab_nat o6) ?_
    refine ab_iaddN (pc := 33) dX11_drop_33 ?_
    refine ab_imulN (pc := 34) dX11_drop_34 ?_
    obtain ⟨o7, hD⟩ := hD
    obtain ⟨o8, hD⟩ := hD
    refine ab_icmp_geN (pc := 35) (tgt := 59) dX11_drop_35 (by decide) o7 o8 (fun c_35 => ?_) (fun c_35 => ?_)
    · refine mo_vr (pc := 59) dX11_drop_59 rfl ?_
      first | (rw [Fdrop_20]; (try dsimp only); rw [if_pos c_35]; done) | (rw [Fdrop_20]; (try dsimp only); rw [if_pos c_35]; rfl)
    · replace hD := hD.2 c_35
      refine ab_aload_n (pc := 38) dX11_drop_38 rfl rfl ?_
      refine mo_gr (pc := 39) dX11_drop_39 fl_X11_41 rfl rfl ?_
      refine ab_iload_n (pc := 42) dX11_drop_42 rfl rfl ?_
      refine ab_aload_n (pc := 43) dX11_drop_43 rfl rfl ?_
      refine mo_gr (pc := 44) dX11_drop_44 fl_X11_41 rfl rfl ?_
      refine ab_iload_n (pc := 47) dX11_drop_47 rfl rfl ?_
      refine ab_bipush (pc := 48) (v := nI 13) dX11_drop_48 (by decide) ?_
      refine ab_iaddN (pc := 50) dX11_drop_50 ?_
      obtain ⟨o9, hD⟩ := hD
      refine mo_ild (pc := 51) dX11_drop_51 (by decide) rfl o9 (by decide) ?_
      obtain ⟨o10, hD⟩ := hD
      refine mo_ist (pc := 52) dX11_drop_52 (by decide) rfl o10 (by decide) ?_
      refine ab_iinc (pc := 53) dX11_drop_53 rfl (ab_inc _) (Nat.le_of_ble_eq_true rfl) rfl ?_
      refine ab_goto (pc := 56) (tgt := 20) dX11_drop_56 (by decide) ?_
      refine ab_wk (ls2 := [some _, some _, none, some _]) (And.intro rfl (And.intro rfl (And.intro rfl trivial))) ?_
      refine mo_eqv ?_ (ih _ _ _ _ hD)
      first | (rw [Fdrop_20]; (try dsimp only); rw [if_neg c_35]; done) | (rw [Fdrop_20]; (try dsimp only); rw [if_neg c_35]; rfl)
def Fdrop (p : Nat) (k : Nat) (m : mD) : mD :=
  let m4 := ab_up m 2 p ((nI ((m 2 p).toNatClampNeg)) - (nI (1)))
  Fdrop_20 157 p k (13 * ((12 * p) + k)) m4
def Ddrop (p : Nat) (k : Nat) (m : mD) : Prop :=
  (p < 12) ∧
  (¬ (m 2 p) < 0) ∧
  (p < 12) ∧
  let m4 := ab_up m 2 p ((nI ((m 2 p).toNatClampNeg)) - (nI (1)))
  Ddrop_20 157 p k (13 * ((12 * p) + k)) m4
set_option maxRecDepth 100000 in
set_option maxHeartbeats 4000000 in
theorem c_drop {tt : Prop} (p : Nat) (k : Nat) (m : mD) (hD : Ddrop p k m) : ab_Met mX11_drop 0 0 0 tt [.ref (0), .int (nI (p)), .int (nI (k))] (sM m) (mQv (Fdrop p k m)) := by
  refine ab_Met.of rfl (Nat.le_of_ble_eq_true rfl) ?_
  show mV mX11_drop 0 tt (mQv (Fdrop p k m)) 0 [some (.ref (0)), some (.int (nI (p))), some (.int (nI (k))), none] [] m
  refine ab_aload_n (pc := 0) dX11_drop_0 rfl rfl ?_
  refine mo_gr (pc := 1) dX11_drop_1 fl_X11_38 rfl rfl ?_
  refine ab_iload_n (pc := 4) dX11_drop_4 rfl rfl ?_
  refine ab_dup2 (pc := 5) dX11_drop_5 rfl rfl ?_
  obtain ⟨o1, hD⟩ := hD
  refine mo_ild (pc := 6) dX11_drop_6 (by decide) rfl o1 (by decide) ?_
  obtain ⟨o2, hD⟩ := hD
  refine ab_nat1 (ab_nat o2) ?_
  refine ab_iconst (pc := 7) (v := nI 1) dX11_drop_7 (by decide) ?_
  refine ab_isub (pc := 8) dX11_drop_8 ?_
  obtain ⟨o3, hD⟩ := hD
  refine mo_ist (pc := 9) dX11_drop_9 (by decide) rfl o3 (by decide) ?_
  refine ab_bipush (pc := 10) (v := nI 13) dX11_drop_10 (by decide) ?_
  refine ab_bipush (pc := 12) (v := nI 12) dX11_drop_12 (by decide) ?_
  refine ab_iload_n (pc := 14) dX11_drop_14 rfl rfl ?_
  refine ab_imulN (pc := 15) dX11_drop_15 ?_
  refine ab_iload_n (pc := 16) dX11_drop_16 rfl rfl ?_
  refine ab_iaddN (pc := 17) dX11_drop_17 ?_
  refine ab_imulN (pc := 18) dX11_drop_18 ?_
  refine ab_istore_n (pc := 19) dX11_drop_19 rfl (Nat.le_of_ble_eq_true rfl) rfl ?_
  refine ab_wk (ls2 := [some _, some _, none, some _]) (And.intro rfl (And.intro rfl (And.intro rfl trivial))) ?_
  refine mo_eqv ?_ (w_drop_20 157 _ _ _ _ hD)
  first | rfl | (rw [Fdrop]; done) | (rw [Fdrop]; rfl)
def FtakeOut_13 : Nat → Nat → Nat → Nat → Nat → mD → mD
  | 0, _, _, _, _, m => m
  | n + 1, p, k, a3, a4, m =>
    if 13 ≤ a4 then
      let z3 := Fdrop p k m
      z3
    else
      let m6 := ab_up m 6 a4 (m 1 (a3 + a4))
      FtakeOut_13 n p k a3 (a4 + 1) m6
def DtakeOut_13 : Nat → Nat → Nat → Nat → Nat → mD → Prop
  | 0, _, _, _, _, _ => False
  | n + 1, p, k, a3, a4, m =>
    (a4 < 2147483648) ∧
    ((13 ≤ a4) →
      (Ddrop p k m) ∧
      let z3 := Fdrop p k m
      True) ∧
    (¬ (13 ≤ a4) →
      ((a3 + a4) < 1872) ∧
      (a4 < 13) ∧
      let m6 := ab_up m 6 a4 (m 1 (a3 + a4))
      DtakeOut_13 n p k a3 (a4 + 1) m6)
set_option maxRecDepth 100000 in
set_option maxHeartbeats 4000000 in
theorem w_takeOut_13 {tt : Prop} : ∀ (n : Nat) (p : Nat) (k : Nat) (a3 : Nat) (a4 : Nat) (m : mD) (hD : DtakeOut_13 n p k a3 a4 m), mV mX11_takeOut 1 tt (mQv (FtakeOut_13 n p k a3 a4 m)) 13 [some (.ref (0)), some (.int (nI (p))), some (.int (nI (k))), some (.int (nI (a3))), some (.int (nI (a4)))] [] m := by
  intro n
  induction n with
  | zero => intros; rename_i hD; exact hD.elim
  | succ n ih =>
    intro p k a3 a4 m hD
    refine ab_iload (pc := 13) dX11_takeOut_13 rfl ?_
    refine ab_bipush (pc := 15) (v := nI 13) dX11_takeOut_15 (by decide) ?_
    obtain ⟨o1, hD⟩ := hD
    refine ab_icmp_geN (pc := 17) (tgt := 42) dX11_takeOut_17 (by decide) o1 (by decide) (fun c_17 => ?_) (fun c_17 => ?_)
    · replace hD := hD.1 c_17
      refine ab_aload_n (pc := 42) dX11_takeOut_42 rfl rfl ?_
      refine ab_iload_n (pc := 43) dX11_takeOut_43 rfl rfl ?_
      refine ab_iload_n (pc := 44) dX11_takeOut_44 rfl rfl ?_
      obtain ⟨o2, hD⟩ := hD
      refine mo_invv (N := mX11_drop) (pc := 45) (d' := 0) (av := [_, _]) dX11_takeOut_45 ml_X11_64 fv_X11_drop (Nat.le_of_ble_eq_true rfl) (by decide) (c_drop _ _ _ o2) ?_
      refine mo_vr (pc := 48) dX11_takeOut_48 rfl ?_
      first | (rw [FtakeOut_13]; (try dsimp only); rw [if_pos c_17]; done) | (rw [FtakeOut_13]; (try dsimp only); rw [if_pos c_17]; rfl)
    · replace hD := hD.2 c_17
      refine ab_aload_n (pc := 20) dX11_takeOut_20 rfl rfl ?_
      refine mo_gr (pc := 21) dX11_takeOut_21 fl_X11_61 rfl rfl ?_
      refine ab_iload (pc := 24) dX11_takeOut_24 rfl ?_
      refine ab_aload_n (pc := 26) dX11_takeOut_26 rfl rfl ?_
      refine mo_gr (pc := 27) dX11_takeOut_27 fl_X11_41 rfl rfl ?_
      refine ab_iload_n (pc := 30) dX11_takeOut_30 rfl rfl ?_
      refine ab_iload (pc := 31) dX11_takeOut_31 rfl ?_
      refine ab_iaddN (pc := 33) dX11_takeOut_33 ?_
      obtain ⟨o4, hD⟩ := hD
      refine mo_ild (pc := 34) dX11_takeOut_34 (by decide) rfl o4 (by decide) ?_
      obtain ⟨o5, hD⟩ := hD
      refine mo_ist (pc := 35) dX11_takeOut_35 (by decide) rfl o5 (by decide) ?_
      refine ab_iinc (pc := 36) dX11_takeOut_36 rfl (ab_inc _) (Nat.le_of_ble_eq_true rfl) rfl ?_
      refine ab_goto (pc := 39) (tgt := 13) dX11_takeOut_39 (by decide) ?_
      refine mo_eqv ?_ (ih _ _ _ _ _ hD)
      first | (rw [FtakeOut_13]; (try dsimp only); rw [if_neg c_17]; done) | (rw [FtakeOut_13]; (try dsimp only); rw [if_neg c_17]; rfl)
def FtakeOut (p : Nat) (k : Nat) (m : mD) : mD :=
  FtakeOut_13 14 p k (13 * ((12 * p) + k)) 0 m
def DtakeOut (p : Nat) (k : Nat) (m : mD) : Prop :=
  DtakeOut_13 14 p k (13 * ((12 * p) + k)) 0 m
set_option maxRecDepth 100000 in
set_option maxHeartbeats 4000000 in
theorem c_takeOut {tt : Prop} (p : Nat) (k : Nat) (m : mD) (hD : DtakeOut p k m) : ab_Met mX11_takeOut 1 0 0 tt [.ref (0), .int (nI (p)), .int (nI (k))] (sM m) (mQv (FtakeOut p k m)) := by
  refine ab_Met.of rfl (Nat.le_of_ble_eq_true rfl) ?_
  show mV mX11_takeOut 1 tt (mQv (FtakeOut p k m)) 0 [some (.ref (0)), some (.int (nI (p))), some (.int (nI (k))), none, none] [] m
  refine ab_bipush (pc := 0) (v := nI 13) dX11_takeOut_0 (by decide) ?_
  refine ab_bipush (pc := 2) (v := nI 12) dX11_takeOut_2 (by decide) ?_
  refine ab_iload_n (pc := 4) dX11_takeOut_4 rfl rfl ?_
  refine ab_imulN (pc := 5) dX11_takeOut_5 ?_
  refine ab_iload_n (pc := 6) dX11_takeOut_6 rfl rfl ?_
  refine ab_iaddN (pc := 7) dX11_takeOut_7 ?_
  refine ab_imulN (pc := 8) dX11_takeOut_8 ?_
  refine ab_istore_n (pc := 9) dX11_takeOut_9 rfl (Nat.le_of_ble_eq_true rfl) rfl ?_
  refine ab_iconst (pc := 10) (v := nI 0) dX11_takeOut_10 (by decide) ?_
  refine ab_istore (pc := 11) dX11_takeOut_11 (Nat.le_of_ble_eq_true rfl) rfl ?_
  refine mo_eqv ?_ (w_takeOut_13 14 _ _ _ _ _ hD)
  first | rfl | (rw [FtakeOut]; done) | (rw [FtakeOut]; rfl)
def Ffield (p : Nat) (k : Nat) (w : Nat) (m : mD) : Int32 :=
  (m 1 ((13 * ((12 * p) + k)) + w))
def Dfield (p : Nat) (k : Nat) (w : Nat) (m : mD) : Prop :=
  (((13 * ((12 * p) + k)) + w) < 1872) ∧
  True
set_option maxRecDepth 100000 in
set_option maxHeartbeats 4000000 in
theorem c_field {tt : Prop} (p : Nat) (k : Nat) (w : Nat) (m : mD) (hD : Dfield p k w m) : ab_Met mX11_field 0 0 0 tt [.ref (0), .int (nI (p)), .int (nI (k)), .int (nI (w))] (sM m) (mQi (Ffield p k w m, m)) := by
  refine ab_Met.of rfl (Nat.le_of_ble_eq_true rfl) ?_
  show mV mX11_field 0 tt (mQi (Ffield p k w m, m)) 0 [some (.ref (0)), some (.int (nI (p))), some (.int (nI (k))), some (.int (nI (w)))] [] m
  refine ab_aload_n (pc := 0) dX11_field_0 rfl rfl ?_
  refine mo_gr (pc := 1) dX11_field_1 fl_X11_41 rfl rfl ?_
  refine ab_bipush (pc := 4) (v := nI 13) dX11_field_4 (by decide) ?_
  refine ab_bipush (pc := 6) (v := nI 12) dX11_field_6 (by decide) ?_
  refine ab_iload_n (pc := 8) dX11_field_8 rfl rfl ?_
  refine ab_imulN (pc := 9) dX11_field_9 ?_
  refine ab_iload_n (pc := 10) dX11_field_10 rfl rfl ?_
  refine ab_iaddN (pc := 11) dX11_field_11 ?_
  refine ab_imulN (pc := 12) dX11_field_12 ?_
  refine ab_iload_n (pc := 13) dX11_field_13 rfl rfl ?_
  refine ab_iaddN (pc := 14) dX11_field_14 ?_
  obtain ⟨o1, hD⟩ := hD
  refine mo_ild (pc := 15) dX11_field_15 (by decide) rfl o1 (by decide) ?_
  refine mo_ir (pc := 16) dX11_field_16 rfl rfl ?_
  first | rfl | (rw [Ffield]; done) | (rw [Ffield]; rfl)
def Ffreed (u : Nat) (m : mD) : Int32 × mD :=
  let m2 := ab_up m 7 u (nI (0))
  let m4 := ab_up m2 11 u (-1)
  (((nI (256 * u)) + (m4 12 u)), m4)
def Dfreed (u : Nat) (m : mD) : Prop :=
  (u < 12) ∧
  let m2 := ab_up m 7 u (nI (0))
  (u < 12) ∧
  let m4 := ab_up m2 11 u (-1)
  (u < 12) ∧
  True
set_option maxRecDepth 100000 in
set_option maxHeartbeats 4000000 in
theorem c_freed {tt : Prop} (u : Nat) (m : mD) (hD : Dfreed u m) : ab_Met mX11_freed 0 0 0 tt [.ref (0), .int (nI (u))] (sM m) (mQi (Ffreed u m)) := by
  refine ab_Met.of rfl (Nat.le_of_ble_eq_true rfl) ?_
  show mV mX11_freed 0 tt (mQi (Ffreed u m)) 0 [some (.ref (0)), some (.int (nI (u)))] [] m
  refine ab_aload_n (pc := 0) dX11_freed_0 rfl rfl ?_
  refine mo_gr (pc := 1) dX11_freed_1 fl_X11_19 rfl rfl ?_
  refine ab_iload_n (pc := 4) dX11_freed_4 rfl rfl ?_
  refine ab_iconst (pc := 5) (v := nI 0) dX11_freed_5 (by decide) ?_
  obtain ⟨o1, hD⟩ := hD
  refine mo_ist (pc := 6) dX11_freed_6 (by decide) rfl o1 (by decide) ?_
  refine ab_aload_n (pc := 7) dX11_freed_7 rfl rfl ?_
  refine mo_gr (pc := 8) dX11_freed_8 fl_X11_83 rfl rfl ?_
  refine ab_iload_n (pc := 11) dX11_freed_11 rfl rfl ?_
  refine ab_iconst (pc := 12) (v := -1) dX11_freed_12 (by decide) ?_
  obtain ⟨o3, hD⟩ := hD
  refine mo_ist (pc := 13) dX11_freed_13 (by decide) rfl o3 (by decide) ?_
  refine ab_sipush (pc := 14) (v := nI 256) dX11_freed_14 (by decide) ?_
  refine ab_iload_n (pc := 17) dX11_freed_17 rfl rfl ?_
  refine ab_imulN (pc := 18) dX11_freed_18 ?_
  refine ab_aload_n (pc := 19) dX11_freed_19 rfl rfl ?_
  refine mo_gr (pc := 20) dX11_freed_20 fl_X11_86 rfl rfl ?_
  refine ab_iload_n (pc := 23) dX11_freed_23 rfl rfl ?_
  obtain ⟨o5, hD⟩ := hD
  refine mo_ild (pc := 24) dX11_freed_24 (by decide) rfl o5 (by decide) ?_
  refine ab_iadd (pc := 25) dX11_freed_25 ?_
  refine mo_ir (pc := 26) dX11_freed_26 rfl rfl ?_
  first | rfl | (rw [Ffreed]; done) | (rw [Ffreed]; rfl)
def FfilesThere_4 : Nat → Int32 → Nat → mD → Int32
  | 0, _, _, _ => 0
  | n + 1, a1, a2, m =>
    if 16 ≤ a2 then
      (a1)
    else
      if (m 16 a2) = 0 then
        FfilesThere_4 n ((a1) + (nI (0))) (a2 + 1) m
      else
        FfilesThere_4 n ((a1) + (nI (1))) (a2 + 1) m
def DfilesThere_4 : Nat → Int32 → Nat → mD → Prop
  | 0, _, _, _ => False
  | n + 1, a1, a2, m =>
    (a2 < 2147483648) ∧
    ((16 ≤ a2) →
      True) ∧
    (¬ (16 ≤ a2) →
      (a2 < 16) ∧
      (((m 16 a2) = 0) →
        DfilesThere_4 n ((a1) + (nI (0))) (a2 + 1) m) ∧
      (¬ ((m 16 a2) = 0) →
        DfilesThere_4 n ((a1) + (nI (1))) (a2 + 1) m))
set_option maxRecDepth 100000 in
set_option maxHeartbeats 4000000 in
theorem w_filesThere_4 {tt : Prop} : ∀ (n : Nat) (a1 : Int32) (a2 : Nat) (m : mD) (hD : DfilesThere_4 n a1 a2 m), mV mX11_filesThere 0 tt (mQi (FfilesThere_4 n a1 a2 m, m)) 4 [some (.ref (0)), some (.int (a1)), some (.int (nI (a2)))] [] m := by
  intro n
  induction n with
  | zero => intros; rename_i hD; exact hD.elim
  | succ n ih =>
    intro a1 a2 m hD
    refine ab_iload_n (pc := 4) dX11_filesThere_4 rfl rfl ?_
    refine ab_bipush (pc := 5) (v := nI 16) dX11_filesThere_5 (by decide) ?_
    obtain ⟨o1, hD⟩ := hD
    refine ab_icmp_geN (pc := 7) (tgt := 33) dX11_filesThere_7 (by decide) o1 (by decide) (fun c_7 => ?_) (fun c_7 => ?_)
    · refine ab_iload_n (pc := 33) dX11_filesThere_33 rfl rfl ?_
      refine mo_ir (pc := 34) dX11_filesThere_34 rfl rfl ?_
      first | (rw [FfilesThere_4]; (try dsimp only); rw [if_pos c_7]; done) | (rw [FfilesThere_4]; (try dsimp only); rw [if_pos c_7]; rfl)
    · replace hD := hD.2 c_7
      refine ab_iload_n (pc := 10) dX11_filesThere_10 rfl rfl ?_
      refine ab_aload_n (pc := 11) dX11_filesThere_11 rfl rfl ?_
      refine mo_gr (pc := 12) dX11_filesThere_12 fl_X11_98 rfl rfl ?_
      refine ab_iload_n (pc := 15) dX11_filesThere_15 rfl rfl ?_
      obtain ⟨o2, hD⟩ := hD
      refine mo_zld (pc := 16) dX11_filesThere_16 (by decide) rfl o2 (by decide) ?_
      refine ab_if_eq (pc := 17) (tgt := 24) dX11_filesThere_17 (by decide) (fun c_17 => ?_) (fun c_17 => ?_)
      · replace hD := hD.1 c_17
        refine ab_iconst (pc := 24) (v := nI 0) dX11_filesThere_24 (by decide) ?_
        refine ab_iadd (pc := 25) dX11_filesThere_25 ?_
        refine ab_istore_n (pc := 26) dX11_filesThere_26 rfl (Nat.le_of_ble_eq_true rfl) rfl ?_
        refine ab_iinc (pc := 27) dX11_filesThere_27 rfl (ab_inc _) (Nat.le_of_ble_eq_true rfl) rfl ?_
        refine ab_goto (pc := 30) (tgt := 4) dX11_filesThere_30 (by decide) ?_
        refine mo_eqr ?_ (ih _ _ _ hD)
        first | (rw [FfilesThere_4]; (try dsimp only); rw [if_neg c_7, if_pos c_17]; done) | (rw [FfilesThere_4]; (try dsimp only); rw [if_neg c_7, if_pos c_17]; rfl)
      · replace hD := hD.2 c_17
        refine ab_iconst (pc := 20) (v := nI 1) dX11_filesThere_20 (by decide) ?_
        refine ab_goto (pc := 21) (tgt := 25) dX11_filesThere_21 (by decide) ?_
        refine ab_iadd (pc := 25) dX11_filesThere_25 ?_
        refine ab_istore_n (pc := 26) dX11_filesThere_26 rfl (Nat.le_of_ble_eq_true rfl) rfl ?_
        refine ab_iinc (pc := 27) dX11_filesThere_27 rfl (ab_inc _) (Nat.le_of_ble_eq_true rfl) rfl ?_
        refine ab_goto (pc := 30) (tgt := 4) dX11_filesThere_30 (by decide) ?_
        refine mo_eqr ?_ (ih _ _ _ hD)
        first | (rw [FfilesThere_4]; (try dsimp only); rw [if_neg c_7, if_neg c_17]; done) | (rw [FfilesThere_4]; (try dsimp only); rw [if_neg c_7, if_neg c_17]; rfl)
def FfilesThere  (m : mD) : Int32 :=
  FfilesThere_4 17 (nI (0)) 0 m
def DfilesThere  (m : mD) : Prop :=
  DfilesThere_4 17 (nI (0)) 0 m
set_option maxRecDepth 100000 in
set_option maxHeartbeats 4000000 in
theorem c_filesThere {tt : Prop}  (m : mD) (hD : DfilesThere  m) : ab_Met mX11_filesThere 0 0 0 tt [.ref (0)] (sM m) (mQi (FfilesThere  m, m)) := by
  refine ab_Met.of rfl (Nat.le_of_ble_eq_true rfl) ?_
  show mV mX11_filesThere 0 tt (mQi (FfilesThere  m, m)) 0 [some (.ref (0)), none, none] [] m
  refine ab_iconst (pc := 0) (v := nI 0) dX11_filesThere_0 (by decide) ?_
  refine ab_istore_n (pc := 1) dX11_filesThere_1 rfl (Nat.le_of_ble_eq_true rfl) rfl ?_
  refine ab_iconst (pc := 2) (v := nI 0) dX11_filesThere_2 (by decide) ?_
  refine ab_istore_n (pc := 3) dX11_filesThere_3 rfl (Nat.le_of_ble_eq_true rfl) rfl ?_
  refine mo_eqr ?_ (w_filesThere_4 17 _ _ _ hD)
  first | rfl | (rw [FfilesThere]; done) | (rw [FfilesThere]; rfl)
def Ftells (f : Nat) (u : Nat) (v : Int32) (m : mD) : mD :=
  let z2 := Fdrafts (nI (50)) (v) (nI (0)) m
  let z4 := Fsends f u z2
  z4
def Dtells (f : Nat) (u : Nat) (v : Int32) (m : mD) : Prop :=
  (Ddrafts (nI (50)) (v) (nI (0)) m) ∧
  let z2 := Fdrafts (nI (50)) (v) (nI (0)) m
  (Dsends f u z2) ∧
  let z4 := Fsends f u z2
  True
set_option maxRecDepth 100000 in
set_option maxHeartbeats 4000000 in
theorem c_tells {tt : Prop} (f : Nat) (u : Nat) (v : Int32) (m : mD) (hD : Dtells f u v m) : ab_Met mX11_tells 4 0 0 tt [.ref (0), .int (nI (f)), .int (nI (u)), .int (v)] (sM m) (mQv (Ftells f u v m)) := by
  refine ab_Met.of rfl (Nat.le_of_ble_eq_true rfl) ?_
  show mV mX11_tells 4 tt (mQv (Ftells f u v m)) 0 [some (.ref (0)), some (.int (nI (f))), some (.int (nI (u))), some (.int (v))] [] m
  refine ab_aload_n (pc := 0) dX11_tells_0 rfl rfl ?_
  refine ab_bipush (pc := 1) (v := nI 50) dX11_tells_1 (by decide) ?_
  refine ab_iload_n (pc := 3) dX11_tells_3 rfl rfl ?_
  refine ab_iconst (pc := 4) (v := nI 0) dX11_tells_4 (by decide) ?_
  obtain ⟨o1, hD⟩ := hD
  refine mo_invv (N := mX11_drafts) (pc := 5) (d' := 0) (av := [_, _, _]) dX11_tells_5 ml_X11_152 fv_X11_drafts (Nat.le_of_ble_eq_true rfl) (by decide) (c_drafts _ _ _ _ o1) ?_
  refine ab_aload_n (pc := 8) dX11_tells_8 rfl rfl ?_
  refine ab_iload_n (pc := 9) dX11_tells_9 rfl rfl ?_
  refine ab_iload_n (pc := 10) dX11_tells_10 rfl rfl ?_
  obtain ⟨o3, hD⟩ := hD
  refine mo_invv (N := mX11_sends) (pc := 11) (d' := 3) (av := [_, _]) dX11_tells_11 ml_X11_57 fv_X11_sends (Nat.le_of_ble_eq_true rfl) (by decide) (c_sends _ _ _ o3) ?_
  refine mo_vr (pc := 14) dX11_tells_14 rfl ?_
  first | rfl | (rw [Ftells]; done) | (rw [Ftells]; rfl)
def Fstarts  (m : mD) : mD :=
  let m1 := ab_up m 0 23 (nI (1))
  let m2 := ab_up m1 0 24 (nI (0))
  let m3 := ab_up m2 0 25 ((m2 0 25) + (nI (1)))
  let m4 := ab_up m3 0 26 (nI (0))
  let m5 := ab_up m4 0 27 (nI (0))
  let m6 := ab_up m5 2 1 (nI (0))
  let m7 := ab_up m6 0 33 (nI (0))
  let z9 := Fdrafts (nI (42)) (m7 0 25) (nI (0)) m7
  let z11 := Fsends 0 2 z9
  z11
def Dstarts  (m : mD) : Prop :=
  let m1 := ab_up m 0 23 (nI (1))
  let m2 := ab_up m1 0 24 (nI (0))
  let m3 := ab_up m2 0 25 ((m2 0 25) + (nI (1)))
  let m4 := ab_up m3 0 26 (nI (0))
  let m5 := ab_up m4 0 27 (nI (0))
  let m6 := ab_up m5 2 1 (nI (0))
  let m7 := ab_up m6 0 33 (nI (0))
  (Ddrafts (nI (42)) (m7 0 25) (nI (0)) m7) ∧
  let z9 := Fdrafts (nI (42)) (m7 0 25) (nI (0)) m7
  (Dsends 0 2 z9) ∧
  let z11 := Fsends 0 2 z9
  True
set_option maxRecDepth 100000 in
set_option maxHeartbeats 4000000 in
theorem c_starts {tt : Prop}  (m : mD) (hD : Dstarts  m) : ab_Met mX11_starts 4 0 0 tt [.ref (0)] (sM m) (mQv (Fstarts  m)) := by
  refine ab_Met.of rfl (Nat.le_of_ble_eq_true rfl) ?_
  show mV mX11_starts 4 tt (mQv (Fstarts  m)) 0 [some (.ref (0))] [] m
  refine ab_aload_n (pc := 0) dX11_starts_0 rfl rfl ?_
  refine ab_iconst (pc := 1) (v := nI 1) dX11_starts_1 (by decide) ?_
  refine mo_pi (pc := 2) dX11_starts_2 fl_X11_15 rfl rfl (ab_ok_b (Or.inr rfl)) ?_
  refine ab_aload_n (pc := 5) dX11_starts_5 rfl rfl ?_
  refine ab_iconst (pc := 6) (v := nI 0) dX11_starts_6 (by decide) ?_
  refine mo_pi (pc := 7) dX11_starts_7 fl_X11_119 rfl rfl (ab_ok_b (Or.inl rfl)) ?_
  refine ab_aload_n (pc := 10) dX11_starts_10 rfl rfl ?_
  refine ab_dup (pc := 11) dX11_starts_11 rfl ?_
  refine mo_gi (pc := 12) dX11_starts_12 fl_X11_35 rfl ?_
  refine ab_iconst (pc := 15) (v := nI 1) dX11_starts_15 (by decide) ?_
  refine ab_iadd (pc := 16) dX11_starts_16 ?_
  refine mo_pi (pc := 17) dX11_starts_17 fl_X11_35 rfl rfl (ab_ok_i _) ?_
  refine ab_aload_n (pc := 20) dX11_starts_20 rfl rfl ?_
  refine ab_iconst (pc := 21) (v := nI 0) dX11_starts_21 (by decide) ?_
  refine mo_pi (pc := 22) dX11_starts_22 fl_X11_125 rfl rfl (ab_ok_i _) ?_
  refine ab_aload_n (pc := 25) dX11_starts_25 rfl rfl ?_
  refine ab_iconst (pc := 26) (v := nI 0) dX11_starts_26 (by decide) ?_
  refine mo_pi (pc := 27) dX11_starts_27 fl_X11_122 rfl rfl (ab_ok_i _) ?_
  refine ab_aload_n (pc := 30) dX11_starts_30 rfl rfl ?_
  refine mo_gr (pc := 31) dX11_starts_31 fl_X11_38 rfl rfl ?_
  refine ab_iconst (pc := 34) (v := nI 1) dX11_starts_34 (by decide) ?_
  refine ab_iconst (pc := 35) (v := nI 0) dX11_starts_35 (by decide) ?_
  refine mo_ist (pc := 36) dX11_starts_36 (by decide) rfl (by decide) (by decide) ?_
  refine ab_aload_n (pc := 37) dX11_starts_37 rfl rfl ?_
  refine ab_iconst (pc := 38) (v := nI 0) dX11_starts_38 (by decide) ?_
  refine mo_pi (pc := 39) dX11_starts_39 fl_X11_146 rfl rfl (ab_ok_b (Or.inl rfl)) ?_
  refine ab_aload_n (pc := 42) dX11_starts_42 rfl rfl ?_
  refine ab_bipush (pc := 43) (v := nI 42) dX11_starts_43 (by decide) ?_
  refine ab_aload_n (pc := 45) dX11_starts_45 rfl rfl ?_
  refine mo_gi (pc := 46) dX11_starts_46 fl_X11_35 rfl ?_
  refine ab_iconst (pc := 49) (v := nI 0) dX11_starts_49 (by decide) ?_
  obtain ⟨o8, hD⟩ := hD
  refine mo_invv (N := mX11_drafts) (pc := 50) (d' := 0) (av := [_, _, _]) dX11_starts_50 ml_X11_152 fv_X11_drafts (Nat.le_of_ble_eq_true rfl) (by decide) (c_drafts _ _ _ _ o8) ?_
  refine ab_aload_n (pc := 53) dX11_starts_53 rfl rfl ?_
  refine ab_iconst (pc := 54) (v := nI 0) dX11_starts_54 (by decide) ?_
  refine ab_iconst (pc := 55) (v := nI 2) dX11_starts_55 (by decide) ?_
  obtain ⟨o10, hD⟩ := hD
  refine mo_invv (N := mX11_sends) (pc := 56) (d' := 3) (av := [_, _]) dX11_starts_56 ml_X11_57 fv_X11_sends (Nat.le_of_ble_eq_true rfl) (by decide) (c_sends _ _ _ o10) ?_
  refine mo_vr (pc := 59) dX11_starts_59 rfl ?_
  first | rfl | (rw [Fstarts]; done) | (rw [Fstarts]; rfl)
def Fkeeper  (m : mD) : mD :=
  let m1 := ab_up m 0 31 ((m 0 31) + (nI (1)))
  let z3 := FsendsAgain 0 m1
  if (z3.1) = 0 then
    if (z3.2 0 23) = 0 then
      let m38 := ab_up z3.2 0 32 ((z3.2 0 32) + (nI (1)))
      if (m38 0 32) = (nI (3)) then
        let z40 := Fstarts  m38
        z40
      else
        m38
    else
      if (nI ((z3.2 2 0).toNatClampNeg)) ≤ 0 then
        if ((z3.2 0 31) - (z3.2 0 31) / (nI (10)) * (nI (10))) = 0 then
          if (z3.2 0 33) = 0 then
            let m5 := ab_up z3.2 0 33 (nI (1))
            let z7 := Fdrafts (nI (40)) (nI (0)) (nI (0)) m5
            let z9 := Fsends 0 1 z7
            z9
          else
            let z10 := FcrashesNow  z3.2
            let m11 := ab_up z10 0 33 (nI (0))
            m11
        else
          z3.2
      else
        let z13 := FtakeOut 0 0 z3.2
        if (z13 6 1) = 0 then
          z13
        else
          if (z13 0 33) = 0 then
            let m14 := ab_up z13 0 33 (nI (0))
            if ((m14 0 31) - (m14 0 31) / (nI (10)) * (nI (10))) = 0 then
              if (m14 0 33) = 0 then
                let m15 := ab_up m14 0 33 (nI (1))
                let z17 := Fdrafts (nI (40)) (nI (0)) (nI (0)) m15
                let z19 := Fsends 0 1 z17
                z19
              else
                let z20 := FcrashesNow  m14
                let m21 := ab_up z20 0 33 (nI (0))
                m21
            else
              m14
          else
            if (z13 6 1) = (nI (41)) then
              let m22 := ab_up z13 0 33 (nI (0))
              if ((m22 0 31) - (m22 0 31) / (nI (10)) * (nI (10))) = 0 then
                if (m22 0 33) = 0 then
                  let m23 := ab_up m22 0 33 (nI (1))
                  let z25 := Fdrafts (nI (40)) (nI (0)) (nI (0)) m23
                  let z27 := Fsends 0 1 z25
                  z27
                else
                  let z28 := FcrashesNow  m22
                  let m29 := ab_up z28 0 33 (nI (0))
                  m29
              else
                m22
            else
              let m30 := ab_up z13 0 33 (nI (1))
              if ((m30 0 31) - (m30 0 31) / (nI (10)) * (nI (10))) = 0 then
                if (m30 0 33) = 0 then
                  let m31 := ab_up m30 0 33 (nI (1))
                  let z33 := Fdrafts (nI (40)) (nI (0)) (nI (0)) m31
                  let z35 := Fsends 0 1 z33
                  z35
                else
                  let z36 := FcrashesNow  m30
                  let m37 := ab_up z36 0 33 (nI (0))
                  m37
              else
                m30
  else
    z3.2
def Dkeeper  (m : mD) : Prop :=
  let m1 := ab_up m 0 31 ((m 0 31) + (nI (1)))
  (DsendsAgain 0 m1) ∧
  let z3 := FsendsAgain 0 m1
  (((z3.1) = 0) →
    (((z3.2 0 23) = 0) →
      let m38 := ab_up z3.2 0 32 ((z3.2 0 32) + (nI (1)))
      (((m38 0 32) = (nI (3))) →
        (Dstarts  m38) ∧
        let z40 := Fstarts  m38
        True) ∧
      (¬ ((m38 0 32) = (nI (3))) →
        True)) ∧
    (¬ ((z3.2 0 23) = 0) →
      (¬ (z3.2 2 0) < 0) ∧
      (((nI ((z3.2 2 0).toNatClampNeg)) ≤ 0) →
        ((((z3.2 0 31) - (z3.2 0 31) / (nI (10)) * (nI (10))) = 0) →
          (((z3.2 0 33) = 0) →
            let m5 := ab_up z3.2 0 33 (nI (1))
            (Ddrafts (nI (40)) (nI (0)) (nI (0)) m5) ∧
            let z7 := Fdrafts (nI (40)) (nI (0)) (nI (0)) m5
            (Dsends 0 1 z7) ∧
            let z9 := Fsends 0 1 z7
            True) ∧
          (¬ ((z3.2 0 33) = 0) →
            True)) ∧
        (¬ (((z3.2 0 31) - (z3.2 0 31) / (nI (10)) * (nI (10))) = 0) →
          True)) ∧
      (¬ ((nI ((z3.2 2 0).toNatClampNeg)) ≤ 0) →
        (DtakeOut 0 0 z3.2) ∧
        let z13 := FtakeOut 0 0 z3.2
        (((z13 6 1) = 0) →
          True) ∧
        (¬ ((z13 6 1) = 0) →
          (((z13 0 33) = 0) →
            let m14 := ab_up z13 0 33 (nI (0))
            ((((m14 0 31) - (m14 0 31) / (nI (10)) * (nI (10))) = 0) →
              (((m14 0 33) = 0) →
                let m15 := ab_up m14 0 33 (nI (1))
                (Ddrafts (nI (40)) (nI (0)) (nI (0)) m15) ∧
                let z17 := Fdrafts (nI (40)) (nI (0)) (nI (0)) m15
                (Dsends 0 1 z17) ∧
                let z19 := Fsends 0 1 z17
                True) ∧
              (¬ ((m14 0 33) = 0) →
                True)) ∧
            (¬ (((m14 0 31) - (m14 0 31) / (nI (10)) * (nI (10))) = 0) →
              True)) ∧
          (¬ ((z13 0 33) = 0) →
            (((z13 6 1) = (nI (41))) →
              let m22 := ab_up z13 0 33 (nI (0))
              ((((m22 0 31) - (m22 0 31) / (nI (10)) * (nI (10))) = 0) →
                (((m22 0 33) = 0) →
                  let m23 := ab_up m22 0 33 (nI (1))
                  (Ddrafts (nI (40)) (nI (0)) (nI (0)) m23) ∧
                  let z25 := Fdrafts (nI (40)) (nI (0)) (nI (0)) m23
                  (Dsends 0 1 z25) ∧
                  let z27 := Fsends 0 1 z25
                  True) ∧
                (¬ ((m22 0 33) = 0) →
                  True)) ∧
              (¬ (((m22 0 31) - (m22 0 31) / (nI (10)) * (nI (10))) = 0) →
                True)) ∧
            (¬ ((z13 6 1) = (nI (41))) →
              let m30 := ab_up z13 0 33 (nI (1))
              ((((m30 0 31) - (m30 0 31) / (nI (10)) * (nI (10))) = 0) →
                (((m30 0 33) = 0) →
                  let m31 := ab_up m30 0 33 (nI (1))
                  (Ddrafts (nI (40)) (nI (0)) (nI (0)) m31) ∧
                  let z33 := Fdrafts (nI (40)) (nI (0)) (nI (0)) m31
                  (Dsends 0 1 z33) ∧
                  let z35 := Fsends 0 1 z33
                  True) ∧
                (¬ ((m30 0 33) = 0) →
                  True)) ∧
              (¬ (((m30 0 31) - (m30 0 31) / (nI (10)) * (nI (10))) = 0) →
                True))))))) ∧
  (¬ ((z3.1) = 0) →
    True)
set_option maxRecDepth 100000 in
set_option maxHeartbeats 4000000 in
theorem c_keeper {tt : Prop}  (m : mD) (hD : Dkeeper  m) : ab_Met mX11_keeper 5 0 0 tt [.ref (0)] (sM m) (mQv (Fkeeper  m)) := by
  refine ab_Met.of rfl (Nat.le_of_ble_eq_true rfl) ?_
  show mV mX11_keeper 5 tt (mQv (Fkeeper  m)) 0 [some (.ref (0))] [] m
  refine ab_aload_n (pc := 0) dX11_keeper_0 rfl rfl ?_
  refine ab_dup (pc := 1) dX11_keeper_1 rfl ?_
  refine mo_gi (pc := 2) dX11_keeper_2 fl_X11_134 rfl ?_
  refine ab_iconst (pc := 5) (v := nI 1) dX11_keeper_5 (by decide) ?_
  refine ab_iadd (pc := 6) dX11_keeper_6 ?_
  refine mo_pi (pc := 7) dX11_keeper_7 fl_X11_134 rfl rfl (ab_ok_i _) ?_
  refine ab_aload_n (pc := 10) dX11_keeper_10 rfl rfl ?_
  refine ab_iconst (pc := 11) (v := nI 0) dX11_keeper_11 (by decide) ?_
  obtain ⟨o2, hD⟩ := hD
  refine mo_invi (N := mX11_sendsAgain) (pc := 12) (d' := 4) (av := [_]) dX11_keeper_12 ml_X11_137 fv_X11_sendsAgain (Nat.le_of_ble_eq_true rfl) (by decide) (c_sendsAgain _ _ o2) ?_
  refine ab_if_eq (pc := 15) (tgt := 19) dX11_keeper_15 (by decide) (fun c_15 => ?_) (fun c_15 => ?_)
  · replace hD := hD.1 c_15
    refine ab_aload_n (pc := 19) dX11_keeper_19 rfl rfl ?_
    refine mo_gi (pc := 20) dX11_keeper_20 fl_X11_15 rfl ?_
    refine ab_if_ne (pc := 23) (tgt := 49) dX11_keeper_23 (by decide) (fun c_23 => ?_) (fun c_23 => ?_)
    · replace hD := hD.2 c_23
      refine ab_aload_n (pc := 49) dX11_keeper_49 rfl rfl ?_
      refine mo_gr (pc := 50) dX11_keeper_50 fl_X11_38 rfl rfl ?_
      refine ab_iconst (pc := 53) (v := nI 0) dX11_keeper_53 (by decide) ?_
      refine mo_ild (pc := 54) dX11_keeper_54 (by decide) rfl (by decide) (by decide) ?_
      obtain ⟨o4, hD⟩ := hD
      refine ab_nat1 (ab_nat o4) ?_
      refine ab_if_le (pc := 55) (tgt := 101) dX11_keeper_55 (by decide) (fun c_55 => ?_) (fun c_55 => ?_)
      · replace hD := hD.1 c_55
        refine ab_aload_n (pc := 101) dX11_keeper_101 rfl rfl ?_
        refine mo_gi (pc := 102) dX11_keeper_102 fl_X11_134 rfl ?_
        refine ab_bipush (pc := 105) (v := nI 10) dX11_keeper_105 (by decide) ?_
        refine ab_irem (pc := 107) dX11_keeper_107 (by decide) ?_
        refine ab_if_eq (pc := 108) (tgt := 112) dX11_keeper_108 (by decide) (fun c_108 => ?_) (fun c_108 => ?_)
        · replace hD := hD.1 c_108
          refine ab_aload_n (pc := 112) dX11_keeper_112 rfl rfl ?_
          refine mo_gi (pc := 113) dX11_keeper_113 fl_X11_146 rfl ?_
          refine ab_if_eq (pc := 116) (tgt := 131) dX11_keeper_116 (by decide) (fun c_116 => ?_) (fun c_116 => ?_)
          · replace hD := hD.1 c_116
            refine ab_aload_n (pc := 131) dX11_keeper_131 rfl rfl ?_
            refine ab_iconst (pc := 132) (v := nI 1) dX11_keeper_132 (by decide) ?_
            refine mo_pi (pc := 133) dX11_keeper_133 fl_X11_146 rfl rfl (ab_ok_b (Or.inr rfl)) ?_
            refine ab_aload_n (pc := 136) dX11_keeper_136 rfl rfl ?_
            refine ab_bipush (pc := 137) (v := nI 40) dX11_keeper_137 (by decide) ?_
            refine ab_iconst (pc := 139) (v := nI 0) dX11_keeper_139 (by decide) ?_
            refine ab_iconst (pc := 140) (v := nI 0) dX11_keeper_140 (by decide) ?_
            obtain ⟨o6, hD⟩ := hD
            refine mo_invv (N := mX11_drafts) (pc := 141) (d' := 0) (av := [_, _, _]) dX11_keeper_141 ml_X11_152 fv_X11_drafts (Nat.le_of_ble_eq_true rfl) (by decide) (c_drafts _ _ _ _ o6) ?_
            refine ab_aload_n (pc := 144) dX11_keeper_144 rfl rfl ?_
            refine ab_iconst (pc := 145) (v := nI 0) dX11_keeper_145 (by decide) ?_
            refine ab_iconst (pc := 146) (v := nI 1) dX11_keeper_146 (by decide) ?_
            obtain ⟨o8, hD⟩ := hD
            refine mo_invv (N := mX11_sends) (pc := 147) (d' := 3) (av := [_, _]) dX11_keeper_147 ml_X11_57 fv_X11_sends (Nat.le_of_ble_eq_true rfl) (by decide) (c_sends _ _ _ o8) ?_
            refine mo_vr (pc := 150) dX11_keeper_150 rfl ?_
            first | (rw [Fkeeper]; (try dsimp only); rw [if_pos c_15, if_neg c_23, if_pos c_55, if_pos c_108, if_pos c_116]; done) | (rw [Fkeeper]; (try dsimp only); rw [if_pos c_15, if_neg c_23, if_pos c_55, if_pos c_108, if_pos c_116]; rfl)
          · refine ab_aload_n (pc := 119) dX11_keeper_119 rfl rfl ?_
            refine mo_invv (N := mX11_crashesNow) (pc := 120) (d' := 0) (av := []) dX11_keeper_120 ml_X11_149 fv_X11_crashesNow (Nat.le_of_ble_eq_true rfl) (by decide) (c_crashesNow  _ trivial) ?_
            refine ab_aload_n (pc := 123) dX11_keeper_123 rfl rfl ?_
            refine ab_iconst (pc := 124) (v := nI 0) dX11_keeper_124 (by decide) ?_
            refine mo_pi (pc := 125) dX11_keeper_125 fl_X11_146 rfl rfl (ab_ok_b (Or.inl rfl)) ?_
            refine ab_goto (pc := 128) (tgt := 150) dX11_keeper_128 (by decide) ?_
            refine mo_vr (pc := 150) dX11_keeper_150 rfl ?_
            first | (rw [Fkeeper]; (try dsimp only); rw [if_pos c_15, if_neg c_23, if_pos c_55, if_pos c_108, if_neg c_116]; done) | (rw [Fkeeper]; (try dsimp only); rw [if_pos c_15, if_neg c_23, if_pos c_55, if_pos c_108, if_neg c_116]; rfl)
        · refine mo_vr (pc := 111) dX11_keeper_111 rfl ?_
          first | (rw [Fkeeper]; (try dsimp only); rw [if_pos c_15, if_neg c_23, if_pos c_55, if_neg c_108]; done) | (rw [Fkeeper]; (try dsimp only); rw [if_pos c_15, if_neg c_23, if_pos c_55, if_neg c_108]; rfl)
      · replace hD := hD.2 c_55
        refine ab_aload_n (pc := 58) dX11_keeper_58 rfl rfl ?_
        refine ab_iconst (pc := 59) (v := nI 0) dX11_keeper_59 (by decide) ?_
        refine ab_iconst (pc := 60) (v := nI 0) dX11_keeper_60 (by decide) ?_
        obtain ⟨o12, hD⟩ := hD
        refine mo_invv (N := mX11_takeOut) (pc := 61) (d' := 1) (av := [_, _]) dX11_keeper_61 ml_X11_143 fv_X11_takeOut (Nat.le_of_ble_eq_true rfl) (by decide) (c_takeOut _ _ _ o12) ?_
        refine ab_aload_n (pc := 64) dX11_keeper_64 rfl rfl ?_
        refine mo_gr (pc := 65) dX11_keeper_65 fl_X11_61 rfl rfl ?_
        refine ab_iconst (pc := 68) (v := nI 1) dX11_keeper_68 (by decide) ?_
        refine mo_ild (pc := 69) dX11_keeper_69 (by decide) rfl (by decide) (by decide) ?_
        refine ab_if_ne (pc := 70) (tgt := 74) dX11_keeper_70 (by decide) (fun c_70 => ?_) (fun c_70 => ?_)
        · replace hD := hD.2 c_70
          refine ab_aload_n (pc := 74) dX11_keeper_74 rfl rfl ?_
          refine ab_aload_n (pc := 75) dX11_keeper_75 rfl rfl ?_
          refine mo_gi (pc := 76) dX11_keeper_76 fl_X11_146 rfl ?_
          refine ab_if_eq (pc := 79) (tgt := 97) dX11_keeper_79 (by decide) (fun c_79 => ?_) (fun c_79 => ?_)
          · replace hD := hD.1 c_79
            refine ab_iconst (pc := 97) (v := nI 0) dX11_keeper_97 (by decide) ?_
            refine mo_pi (pc := 98) dX11_keeper_98 fl_X11_146 rfl rfl (ab_ok_b (Or.inl rfl)) ?_
            refine ab_aload_n (pc := 101) dX11_keeper_101 rfl rfl ?_
            refine mo_gi (pc := 102) dX11_keeper_102 fl_X11_134 rfl ?_
            refine ab_bipush (pc := 105) (v := nI 10) dX11_keeper_105 (by decide) ?_
            refine ab_irem (pc := 107) dX11_keeper_107 (by decide) ?_
            refine ab_if_eq (pc := 108) (tgt := 112) dX11_keeper_108 (by decide) (fun c_108 => ?_) (fun c_108 => ?_)
            · replace hD := hD.1 c_108
              refine ab_aload_n (pc := 112) dX11_keeper_112 rfl rfl ?_
              refine mo_gi (pc := 113) dX11_keeper_113 fl_X11_146 rfl ?_
              refine ab_if_eq (pc := 116) (tgt := 131) dX11_keeper_116 (by decide) (fun c_116 => ?_) (fun c_116 => ?_)
              · replace hD := hD.1 c_116
                refine ab_aload_n (pc := 131) dX11_keeper_131 rfl rfl ?_
                refine ab_iconst (pc := 132) (v := nI 1) dX11_keeper_132 (by decide) ?_
                refine mo_pi (pc := 133) dX11_keeper_133 fl_X11_146 rfl rfl (ab_ok_b (Or.inr rfl)) ?_
                refine ab_aload_n (pc := 136) dX11_keeper_136 rfl rfl ?_
                refine ab_bipush (pc := 137) (v := nI 40) dX11_keeper_137 (by decide) ?_
                refine ab_iconst (pc := 139) (v := nI 0) dX11_keeper_139 (by decide) ?_
                refine ab_iconst (pc := 140) (v := nI 0) dX11_keeper_140 (by decide) ?_
                obtain ⟨o16, hD⟩ := hD
                refine mo_invv (N := mX11_drafts) (pc := 141) (d' := 0) (av := [_, _, _]) dX11_keeper_141 ml_X11_152 fv_X11_drafts (Nat.le_of_ble_eq_true rfl) (by decide) (c_drafts _ _ _ _ o16) ?_
                refine ab_aload_n (pc := 144) dX11_keeper_144 rfl rfl ?_
                refine ab_iconst (pc := 145) (v := nI 0) dX11_keeper_145 (by decide) ?_
                refine ab_iconst (pc := 146) (v := nI 1) dX11_keeper_146 (by decide) ?_
                obtain ⟨o18, hD⟩ := hD
                refine mo_invv (N := mX11_sends) (pc := 147) (d' := 3) (av := [_, _]) dX11_keeper_147 ml_X11_57 fv_X11_sends (Nat.le_of_ble_eq_true rfl) (by decide) (c_sends _ _ _ o18) ?_
                refine mo_vr (pc := 150) dX11_keeper_150 rfl ?_
                first | (rw [Fkeeper]; (try dsimp only); rw [if_pos c_15, if_neg c_23, if_neg c_55, if_neg c_70, if_pos c_79, if_pos c_108, if_pos c_116]; done) | (rw [Fkeeper]; (try dsimp only); rw [if_pos c_15, if_neg c_23, if_neg c_55, if_neg c_70, if_pos c_79, if_pos c_108, if_pos c_116]; rfl)
              · refine ab_aload_n (pc := 119) dX11_keeper_119 rfl rfl ?_
                refine mo_invv (N := mX11_crashesNow) (pc := 120) (d' := 0) (av := []) dX11_keeper_120 ml_X11_149 fv_X11_crashesNow (Nat.le_of_ble_eq_true rfl) (by decide) (c_crashesNow  _ trivial) ?_
                refine ab_aload_n (pc := 123) dX11_keeper_123 rfl rfl ?_
                refine ab_iconst (pc := 124) (v := nI 0) dX11_keeper_124 (by decide) ?_
                refine mo_pi (pc := 125) dX11_keeper_125 fl_X11_146 rfl rfl (ab_ok_b (Or.inl rfl)) ?_
                refine ab_goto (pc := 128) (tgt := 150) dX11_keeper_128 (by decide) ?_
                refine mo_vr (pc := 150) dX11_keeper_150 rfl ?_
                first | (rw [Fkeeper]; (try dsimp only); rw [if_pos c_15, if_neg c_23, if_neg c_55, if_neg c_70, if_pos c_79, if_pos c_108, if_neg c_116]; done) | (rw [Fkeeper]; (try dsimp only); rw [if_pos c_15, if_neg c_23, if_neg c_55, if_neg c_70, if_pos c_79, if_pos c_108, if_neg c_116]; rfl)
            · refine mo_vr (pc := 111) dX11_keeper_111 rfl ?_
              first | (rw [Fkeeper]; (try dsimp only); rw [if_pos c_15, if_neg c_23, if_neg c_55, if_neg c_70, if_pos c_79, if_neg c_108]; done) | (rw [Fkeeper]; (try dsimp only); rw [if_pos c_15, if_neg c_23, if_neg c_55, if_neg c_70, if_pos c_79, if_neg c_108]; rfl)
          · replace hD := hD.2 c_79
            refine ab_aload_n (pc := 82) dX11_keeper_82 rfl rfl ?_
            refine mo_gr (pc := 83) dX11_keeper_83 fl_X11_61 rfl rfl ?_
            refine ab_iconst (pc := 86) (v := nI 1) dX11_keeper_86 (by decide) ?_
            refine mo_ild (pc := 87) dX11_keeper_87 (by decide) rfl (by decide) (by decide) ?_
            refine ab_bipush (pc := 88) (v := nI 41) dX11_keeper_88 (by decide) ?_
            refine ab_icmp_eq (pc := 90) (tgt := 97) dX11_keeper_90 (by decide) (fun c_90 => ?_) (fun c_90 => ?_)
            · replace hD := hD.1 c_90
              refine ab_iconst (pc := 97) (v := nI 0) dX11_keeper_97 (by decide) ?_
              refine mo_pi (pc := 98) dX11_keeper_98 fl_X11_146 rfl rfl (ab_ok_b (Or.inl rfl)) ?_
              refine ab_aload_n (pc := 101) dX11_keeper_101 rfl rfl ?_
              refine mo_gi (pc := 102) dX11_keeper_102 fl_X11_134 rfl ?_
              refine ab_bipush (pc := 105) (v := nI 10) dX11_keeper_105 (by decide) ?_
              refine ab_irem (pc := 107) dX11_keeper_107 (by decide) ?_
              refine ab_if_eq (pc := 108) (tgt := 112) dX11_keeper_108 (by decide) (fun c_108 => ?_) (fun c_108 => ?_)
              · replace hD := hD.1 c_108
                refine ab_aload_n (pc := 112) dX11_keeper_112 rfl rfl ?_
                refine mo_gi (pc := 113) dX11_keeper_113 fl_X11_146 rfl ?_
                refine ab_if_eq (pc := 116) (tgt := 131) dX11_keeper_116 (by decide) (fun c_116 => ?_) (fun c_116 => ?_)
                · replace hD := hD.1 c_116
                  refine ab_aload_n (pc := 131) dX11_keeper_131 rfl rfl ?_
                  refine ab_iconst (pc := 132) (v := nI 1) dX11_keeper_132 (by decide) ?_
                  refine mo_pi (pc := 133) dX11_keeper_133 fl_X11_146 rfl rfl (ab_ok_b (Or.inr rfl)) ?_
                  refine ab_aload_n (pc := 136) dX11_keeper_136 rfl rfl ?_
                  refine ab_bipush (pc := 137) (v := nI 40) dX11_keeper_137 (by decide) ?_
                  refine ab_iconst (pc := 139) (v := nI 0) dX11_keeper_139 (by decide) ?_
                  refine ab_iconst (pc := 140) (v := nI 0) dX11_keeper_140 (by decide) ?_
                  obtain ⟨o24, hD⟩ := hD
                  refine mo_invv (N := mX11_drafts) (pc := 141) (d' := 0) (av := [_, _, _]) dX11_keeper_141 ml_X11_152 fv_X11_drafts (Nat.le_of_ble_eq_true rfl) (by decide) (c_drafts _ _ _ _ o24) ?_
                  refine ab_aload_n (pc := 144) dX11_keeper_144 rfl rfl ?_
                  refine ab_iconst (pc := 145) (v := nI 0) dX11_keeper_145 (by decide) ?_
                  refine ab_iconst (pc := 146) (v := nI 1) dX11_keeper_146 (by decide) ?_
                  obtain ⟨o26, hD⟩ := hD
                  refine mo_invv (N := mX11_sends) (pc := 147) (d' := 3) (av := [_, _]) dX11_keeper_147 ml_X11_57 fv_X11_sends (Nat.le_of_ble_eq_true rfl) (by decide) (c_sends _ _ _ o26) ?_
                  refine mo_vr (pc := 150) dX11_keeper_150 rfl ?_
                  first | (rw [Fkeeper]; (try dsimp only); rw [if_pos c_15, if_neg c_23, if_neg c_55, if_neg c_70, if_neg c_79, if_pos c_90, if_pos c_108, if_pos c_116]; done) | (rw [Fkeeper]; (try dsimp only); rw [if_pos c_15, if_neg c_23, if_neg c_55, if_neg c_70, if_neg c_79, if_pos c_90, if_pos c_108, if_pos c_116]; rfl)
                · refine ab_aload_n (pc := 119) dX11_keeper_119 rfl rfl ?_
                  refine mo_invv (N := mX11_crashesNow) (pc := 120) (d' := 0) (av := []) dX11_keeper_120 ml_X11_149 fv_X11_crashesNow (Nat.le_of_ble_eq_true rfl) (by decide) (c_crashesNow  _ trivial) ?_
                  refine ab_aload_n (pc := 123) dX11_keeper_123 rfl rfl ?_
                  refine ab_iconst (pc := 124) (v := nI 0) dX11_keeper_124 (by decide) ?_
                  refine mo_pi (pc := 125) dX11_keeper_125 fl_X11_146 rfl rfl (ab_ok_b (Or.inl rfl)) ?_
                  refine ab_goto (pc := 128) (tgt := 150) dX11_keeper_128 (by decide) ?_
                  refine mo_vr (pc := 150) dX11_keeper_150 rfl ?_
                  first | (rw [Fkeeper]; (try dsimp only); rw [if_pos c_15, if_neg c_23, if_neg c_55, if_neg c_70, if_neg c_79, if_pos c_90, if_pos c_108, if_neg c_116]; done) | (rw [Fkeeper]; (try dsimp only); rw [if_pos c_15, if_neg c_23, if_neg c_55, if_neg c_70, if_neg c_79, if_pos c_90, if_pos c_108, if_neg c_116]; rfl)
              · refine mo_vr (pc := 111) dX11_keeper_111 rfl ?_
                first | (rw [Fkeeper]; (try dsimp only); rw [if_pos c_15, if_neg c_23, if_neg c_55, if_neg c_70, if_neg c_79, if_pos c_90, if_neg c_108]; done) | (rw [Fkeeper]; (try dsimp only); rw [if_pos c_15, if_neg c_23, if_neg c_55, if_neg c_70, if_neg c_79, if_pos c_90, if_neg c_108]; rfl)
            · replace hD := hD.2 c_90
              refine ab_iconst (pc := 93) (v := nI 1) dX11_keeper_93 (by decide) ?_
              refine ab_goto (pc := 94) (tgt := 98) dX11_keeper_94 (by decide) ?_
              refine mo_pi (pc := 98) dX11_keeper_98 fl_X11_146 rfl rfl (ab_ok_b (Or.inr rfl)) ?_
              refine ab_aload_n (pc := 101) dX11_keeper_101 rfl rfl ?_
              refine mo_gi (pc := 102) dX11_keeper_102 fl_X11_134 rfl ?_
              refine ab_bipush (pc := 105) (v := nI 10) dX11_keeper_105 (by decide) ?_
              refine ab_irem (pc := 107) dX11_keeper_107 (by decide) ?_
              refine ab_if_eq (pc := 108) (tgt := 112) dX11_keeper_108 (by decide) (fun c_108 => ?_) (fun c_108 => ?_)
              · replace hD := hD.1 c_108
                refine ab_aload_n (pc := 112) dX11_keeper_112 rfl rfl ?_
                refine mo_gi (pc := 113) dX11_keeper_113 fl_X11_146 rfl ?_
                refine ab_if_eq (pc := 116) (tgt := 131) dX11_keeper_116 (by decide) (fun c_116 => ?_) (fun c_116 => ?_)
                · replace hD := hD.1 c_116
                  refine ab_aload_n (pc := 131) dX11_keeper_131 rfl rfl ?_
                  refine ab_iconst (pc := 132) (v := nI 1) dX11_keeper_132 (by decide) ?_
                  refine mo_pi (pc := 133) dX11_keeper_133 fl_X11_146 rfl rfl (ab_ok_b (Or.inr rfl)) ?_
                  refine ab_aload_n (pc := 136) dX11_keeper_136 rfl rfl ?_
                  refine ab_bipush (pc := 137) (v := nI 40) dX11_keeper_137 (by decide) ?_
                  refine ab_iconst (pc := 139) (v := nI 0) dX11_keeper_139 (by decide) ?_
                  refine ab_iconst (pc := 140) (v := nI 0) dX11_keeper_140 (by decide) ?_
                  obtain ⟨o32, hD⟩ := hD
                  refine mo_invv (N := mX11_drafts) (pc := 141) (d' := 0) (av := [_, _, _]) dX11_keeper_141 ml_X11_152 fv_X11_drafts (Nat.le_of_ble_eq_true rfl) (by decide) (c_drafts _ _ _ _ o32) ?_
                  refine ab_aload_n (pc := 144) dX11_keeper_144 rfl rfl ?_
                  refine ab_iconst (pc := 145) (v := nI 0) dX11_keeper_145 (by decide) ?_
                  refine ab_iconst (pc := 146) (v := nI 1) dX11_keeper_146 (by decide) ?_
                  obtain ⟨o34, hD⟩ := hD
                  refine mo_invv (N := mX11_sends) (pc := 147) (d' := 3) (av := [_, _]) dX11_keeper_147 ml_X11_57 fv_X11_sends (Nat.le_of_ble_eq_true rfl) (by decide) (c_sends _ _ _ o34) ?_
                  refine mo_vr (pc := 150) dX11_keeper_150 rfl ?_
                  first | (rw [Fkeeper]; (try dsimp only); rw [if_pos c_15, if_neg c_23, if_neg c_55, if_neg c_70, if_neg c_79, if_neg c_90, if_pos c_108, if_pos c_116]; done) | (rw [Fkeeper]; (try dsimp only); rw [if_pos c_15, if_neg c_23, if_neg c_55, if_neg c_70, if_neg c_79, if_neg c_90, if_pos c_108, if_pos c_116]; rfl)
                · refine ab_aload_n (pc := 119) dX11_keeper_119 rfl rfl ?_
                  refine mo_invv (N := mX11_crashesNow) (pc := 120) (d' := 0) (av := []) dX11_keeper_120 ml_X11_149 fv_X11_crashesNow (Nat.le_of_ble_eq_true rfl) (by decide) (c_crashesNow  _ trivial) ?_
                  refine ab_aload_n (pc := 123) dX11_keeper_123 rfl rfl ?_
                  refine ab_iconst (pc := 124) (v := nI 0) dX11_keeper_124 (by decide) ?_
                  refine mo_pi (pc := 125) dX11_keeper_125 fl_X11_146 rfl rfl (ab_ok_b (Or.inl rfl)) ?_
                  refine ab_goto (pc := 128) (tgt := 150) dX11_keeper_128 (by decide) ?_
                  refine mo_vr (pc := 150) dX11_keeper_150 rfl ?_
                  first | (rw [Fkeeper]; (try dsimp only); rw [if_pos c_15, if_neg c_23, if_neg c_55, if_neg c_70, if_neg c_79, if_neg c_90, if_pos c_108, if_neg c_116]; done) | (rw [Fkeeper]; (try dsimp only); rw [if_pos c_15, if_neg c_23, if_neg c_55, if_neg c_70, if_neg c_79, if_neg c_90, if_pos c_108, if_neg c_116]; rfl)
              · refine mo_vr (pc := 111) dX11_keeper_111 rfl ?_
                first | (rw [Fkeeper]; (try dsimp only); rw [if_pos c_15, if_neg c_23, if_neg c_55, if_neg c_70, if_neg c_79, if_neg c_90, if_neg c_108]; done) | (rw [Fkeeper]; (try dsimp only); rw [if_pos c_15, if_neg c_23, if_neg c_55, if_neg c_70, if_neg c_79, if_neg c_90, if_neg c_108]; rfl)
        · refine mo_vr (pc := 73) dX11_keeper_73 rfl ?_
          first | (rw [Fkeeper]; (try dsimp only); rw [if_pos c_15, if_neg c_23, if_neg c_55, if_pos c_70]; done) | (rw [Fkeeper]; (try dsimp only); rw [if_pos c_15, if_neg c_23, if_neg c_55, if_pos c_70]; rfl)
    · replace hD := hD.1 c_23
      refine ab_aload_n (pc := 26) dX11_keeper_26 rfl rfl ?_
      refine ab_dup (pc := 27) dX11_keeper_27 rfl ?_
      refine mo_gi (pc := 28) dX11_keeper_28 fl_X11_128 rfl ?_
      refine ab_iconst (pc := 31) (v := nI 1) dX11_keeper_31 (by decide) ?_
      refine ab_iadd (pc := 32) dX11_keeper_32 ?_
      refine mo_pi (pc := 33) dX11_keeper_33 fl_X11_128 rfl rfl (ab_ok_i _) ?_
      refine ab_aload_n (pc := 36) dX11_keeper_36 rfl rfl ?_
      refine mo_gi (pc := 37) dX11_keeper_37 fl_X11_128 rfl ?_
      refine ab_iconst (pc := 40) (v := nI 3) dX11_keeper_40 (by decide) ?_
      refine ab_icmp_ne (pc := 41) (tgt := 48) dX11_keeper_41 (by decide) (fun c_41 => ?_) (fun c_41 => ?_)
      · refine mo_vr (pc := 48) dX11_keeper_48 rfl ?_
        first | (rw [Fkeeper]; (try dsimp only); rw [if_pos c_15, if_pos c_23, if_neg c_41]; done) | (rw [Fkeeper]; (try dsimp only); rw [if_pos c_15, if_pos c_23, if_neg c_41]; rfl)
      · replace hD := hD.1 c_41
        refine ab_aload_n (pc := 44) dX11_keeper_44 rfl rfl ?_
        obtain ⟨o39, hD⟩ := hD
        refine mo_invv (N := mX11_starts) (pc := 45) (d' := 4) (av := []) dX11_keeper_45 ml_X11_140 fv_X11_starts (Nat.le_of_ble_eq_true rfl) (by decide) (c_starts  _ o39) ?_
        refine mo_vr (pc := 48) dX11_keeper_48 rfl ?_
        first | (rw [Fkeeper]; (try dsimp only); rw [if_pos c_15, if_pos c_23, if_pos c_41]; done) | (rw [Fkeeper]; (try dsimp only); rw [if_pos c_15, if_pos c_23, if_pos c_41]; rfl)
  · refine mo_vr (pc := 18) dX11_keeper_18 rfl ?_
    first | (rw [Fkeeper]; (try dsimp only); rw [if_neg c_15]; done) | (rw [Fkeeper]; (try dsimp only); rw [if_neg c_15]; rfl)
def Fworks_47 : Nat → Nat → mD → mD
  | 0, _, m => m
  | n + 1, a1, m =>
    if 8 ≤ a1 then
      let m8 := ab_up m 0 27 (nI (0))
      let z10 := Fsends 1 2 m8
      z10
    else
      if (m 0 27) = (nI (20)) then
        let m18 := ab_up m 3 (5 + a1) (m 20 ((8 * ((m 0 28).toNatClampNeg)) + a1))
        Fworks_47 n (a1 + 1) m18
      else
        let m14 := ab_up m 20 ((8 * ((m 0 28).toNatClampNeg)) + a1) (m 21 a1)
        Fworks_47 n (a1 + 1) m14
def Dworks_47 : Nat → Nat → mD → Prop
  | 0, _, _ => False
  | n + 1, a1, m =>
    (a1 < 2147483648) ∧
    ((8 ≤ a1) →
      let m8 := ab_up m 0 27 (nI (0))
      (Dsends 1 2 m8) ∧
      let z10 := Fsends 1 2 m8
      True) ∧
    (¬ (8 ≤ a1) →
      (((m 0 27) = (nI (20))) →
        (¬ (m 0 28) < 0) ∧
        (((8 * ((m 0 28).toNatClampNeg)) + a1) < 192) ∧
        ((5 + a1) < 13) ∧
        let m18 := ab_up m 3 (5 + a1) (m 20 ((8 * ((m 0 28).toNatClampNeg)) + a1))
        Dworks_47 n (a1 + 1) m18) ∧
      (¬ ((m 0 27) = (nI (20))) →
        (¬ (m 0 28) < 0) ∧
        (a1 < 8) ∧
        (((8 * ((m 0 28).toNatClampNeg)) + a1) < 192) ∧
        let m14 := ab_up m 20 ((8 * ((m 0 28).toNatClampNeg)) + a1) (m 21 a1)
        Dworks_47 n (a1 + 1) m14))
set_option maxRecDepth 100000 in
set_option maxHeartbeats 4000000 in
theorem w_works_47 {tt : Prop} : ∀ (n : Nat) (a1 : Nat) (m : mD) (hD : Dworks_47 n a1 m), mV mX11_works 4 tt (mQv (Fworks_47 n a1 m)) 47 [some (.ref (0)), some (.int (nI (a1)))] [] m := by
  intro n
  induction n with
  | zero => intros; rename_i hD; exact hD.elim
  | succ n ih =>
    intro a1 m hD
    refine ab_iload_n (pc := 47) dX11_works_47 rfl rfl ?_
    refine ab_bipush (pc := 48) (v := nI 8) dX11_works_48 (by decide) ?_
    obtain ⟨o7, hD⟩ := hD
    refine ab_icmp_geN (pc := 50) (tgt := 113) dX11_works_50 (by decide) o7 (by decide) (fun c_50 => ?_) (fun c_50 => ?_)
    · replace hD := hD.1 c_50
      refine ab_aload_n (pc := 113) dX11_works_113 rfl rfl ?_
      refine ab_iconst (pc := 114) (v := nI 0) dX11_works_114 (by decide) ?_
      refine mo_pi (pc := 115) dX11_works_115 fl_X11_122 rfl rfl (ab_ok_i _) ?_
      refine ab_aload_n (pc := 118) dX11_works_118 rfl rfl ?_
      refine ab_iconst (pc := 119) (v := nI 1) dX11_works_119 (by decide) ?_
      refine ab_iconst (pc := 120) (v := nI 2) dX11_works_120 (by decide) ?_
      obtain ⟨o9, hD⟩ := hD
      refine mo_invv (N := mX11_sends) (pc := 121) (d' := 3) (av := [_, _]) dX11_works_121 ml_X11_57 fv_X11_sends (Nat.le_of_ble_eq_true rfl) (by decide) (c_sends _ _ _ o9) ?_
      refine mo_vr (pc := 124) dX11_works_124 rfl ?_
      first | (rw [Fworks_47]; (try dsimp only); rw [if_pos c_50]; done) | (rw [Fworks_47]; (try dsimp only); rw [if_pos c_50]; rfl)
    · replace hD := hD.2 c_50
      refine ab_aload_n (pc := 53) dX11_works_53 rfl rfl ?_
      refine mo_gi (pc := 54) dX11_works_54 fl_X11_122 rfl ?_
      refine ab_bipush (pc := 57) (v := nI 20) dX11_works_57 (by decide) ?_
      refine ab_icmp_ne (pc := 59) (tgt := 87) dX11_works_59 (by decide) (fun c_59 => ?_) (fun c_59 => ?_)
      · replace hD := hD.2 c_59
        refine ab_aload_n (pc := 87) dX11_works_87 rfl rfl ?_
        refine mo_gr (pc := 88) dX11_works_88 fl_X11_110 rfl rfl ?_
        refine ab_bipush (pc := 91) (v := nI 8) dX11_works_91 (by decide) ?_
        refine ab_aload_n (pc := 93) dX11_works_93 rfl rfl ?_
        refine mo_gi (pc := 94) dX11_works_94 fl_X11_163 rfl ?_
        obtain ⟨o11, hD⟩ := hD
        refine ab_nat1 (ab_nat o11) ?_
        refine ab_imulN (pc := 97) dX11_works_97 ?_
        refine ab_iload_n (pc := 98) dX11_works_98 rfl rfl ?_
        refine ab_iaddN (pc := 99) dX11_works_99 ?_
        refine ab_aload_n (pc := 100) dX11_works_100 rfl rfl ?_
        refine mo_gr (pc := 101) dX11_works_101 fl_X11_113 rfl rfl ?_
        refine ab_iload_n (pc := 104) dX11_works_104 rfl rfl ?_
        obtain ⟨o12, hD⟩ := hD
        refine mo_ild (pc := 105) dX11_works_105 (by decide) rfl o12 (by decide) ?_
        obtain ⟨o13, hD⟩ := hD
        refine mo_ist (pc := 106) dX11_works_106 (by decide) rfl o13 (by decide) ?_
        refine ab_iinc (pc := 107) dX11_works_107 rfl (ab_inc _) (Nat.le_of_ble_eq_true rfl) rfl ?_
        refine ab_goto (pc := 110) (tgt := 47) dX11_works_110 (by decide) ?_
        refine mo_eqv ?_ (ih _ _ hD)
        first | (rw [Fworks_47]; (try dsimp only); rw [if_neg c_50, if_neg c_59]; done) | (rw [Fworks_47]; (try dsimp only); rw [if_neg c_50, if_neg c_59]; rfl)
      · replace hD := hD.1 c_59
        refine ab_aload_n (pc := 62) dX11_works_62 rfl rfl ?_
        refine mo_gr (pc := 63) dX11_works_63 fl_X11_7 rfl rfl ?_
        refine ab_iconst (pc := 66) (v := nI 5) dX11_works_66 (by decide) ?_
        refine ab_iload_n (pc := 67) dX11_works_67 rfl rfl ?_
        refine ab_iaddN (pc := 68) dX11_works_68 ?_
        refine ab_aload_n (pc := 69) dX11_works_69 rfl rfl ?_
        refine mo_gr (pc := 70) dX11_works_70 fl_X11_110 rfl rfl ?_
        refine ab_bipush (pc := 73) (v := nI 8) dX11_works_73 (by decide) ?_
        refine ab_aload_n (pc := 75) dX11_works_75 rfl rfl ?_
        refine mo_gi (pc := 76) dX11_works_76 fl_X11_163 rfl ?_
        obtain ⟨o15, hD⟩ := hD
        refine ab_nat1 (ab_nat o15) ?_
        refine ab_imulN (pc := 79) dX11_works_79 ?_
        refine ab_iload_n (pc := 80) dX11_works_80 rfl rfl ?_
        refine ab_iaddN (pc := 81) dX11_works_81 ?_
        obtain ⟨o16, hD⟩ := hD
        refine mo_ild (pc := 82) dX11_works_82 (by decide) rfl o16 (by decide) ?_
        obtain ⟨o17, hD⟩ := hD
        refine mo_ist (pc := 83) dX11_works_83 (by decide) rfl o17 (by decide) ?_
        refine ab_goto (pc := 84) (tgt := 107) dX11_works_84 (by decide) ?_
        refine ab_iinc (pc := 107) dX11_works_107 rfl (ab_inc _) (Nat.le_of_ble_eq_true rfl) rfl ?_
        refine ab_goto (pc := 110) (tgt := 47) dX11_works_110 (by decide) ?_
        refine mo_eqv ?_ (ih _ _ hD)
        first | (rw [Fworks_47]; (try dsimp only); rw [if_neg c_50, if_pos c_59]; done) | (rw [Fworks_47]; (try dsimp only); rw [if_neg c_50, if_pos c_59]; rfl)
def Fworks  (m : mD) : mD :=
  if (m 0 26) = (nI ((m 0 28).toNatClampNeg)) then
    let z3 := Fdrafts (nI (22)) (nI (0)) (nI (0)) m
    Fworks_47 9 0 z3
  else
    if (nI ((m 0 28).toNatClampNeg)) ≤ (m 0 26) then
      let m5 := ab_up m 0 26 ((m 0 26) + (-1))
      m5
    else
      let m6 := ab_up m 0 26 ((m 0 26) + (nI (1)))
      m6
def Dworks  (m : mD) : Prop :=
  (¬ (m 0 28) < 0) ∧
  (((m 0 26) = (nI ((m 0 28).toNatClampNeg))) →
    (Ddrafts (nI (22)) (nI (0)) (nI (0)) m) ∧
    let z3 := Fdrafts (nI (22)) (nI (0)) (nI (0)) m
    Dworks_47 9 0 z3) ∧
  (¬ ((m 0 26) = (nI ((m 0 28).toNatClampNeg))) →
    (¬ (m 0 28) < 0) ∧
    True)
set_option maxRecDepth 100000 in
set_option maxHeartbeats 4000000 in
theorem c_works {tt : Prop}  (m : mD) (hD : Dworks  m) : ab_Met mX11_works 4 0 0 tt [.ref (0)] (sM m) (mQv (Fworks  m)) := by
  refine ab_Met.of rfl (Nat.le_of_ble_eq_true rfl) ?_
  show mV mX11_works 4 tt (mQv (Fworks  m)) 0 [some (.ref (0)), none] [] m
  refine ab_aload_n (pc := 0) dX11_works_0 rfl rfl ?_
  refine mo_gi (pc := 1) dX11_works_1 fl_X11_125 rfl ?_
  refine ab_aload_n (pc := 4) dX11_works_4 rfl rfl ?_
  refine mo_gi (pc := 5) dX11_works_5 fl_X11_163 rfl ?_
  obtain ⟨o1, hD⟩ := hD
  refine ab_nat1 (ab_nat o1) ?_
  refine ab_icmp_eq (pc := 8) (tgt := 37) dX11_works_8 (by decide) (fun c_8 => ?_) (fun c_8 => ?_)
  · replace hD := hD.1 c_8
    refine ab_aload_n (pc := 37) dX11_works_37 rfl rfl ?_
    refine ab_bipush (pc := 38) (v := nI 22) dX11_works_38 (by decide) ?_
    refine ab_iconst (pc := 40) (v := nI 0) dX11_works_40 (by decide) ?_
    refine ab_iconst (pc := 41) (v := nI 0) dX11_works_41 (by decide) ?_
    obtain ⟨o2, hD⟩ := hD
    refine mo_invv (N := mX11_drafts) (pc := 42) (d' := 0) (av := [_, _, _]) dX11_works_42 ml_X11_152 fv_X11_drafts (Nat.le_of_ble_eq_true rfl) (by decide) (c_drafts _ _ _ _ o2) ?_
    refine ab_iconst (pc := 45) (v := nI 0) dX11_works_45 (by decide) ?_
    refine ab_istore_n (pc := 46) dX11_works_46 rfl (Nat.le_of_ble_eq_true rfl) rfl ?_
    refine mo_eqv ?_ (w_works_47 9 _ _ hD)
    first | (rw [Fworks]; (try dsimp only); rw [if_pos c_8]; done) | (rw [Fworks]; (try dsimp only); rw [if_pos c_8]; rfl)
  · replace hD := hD.2 c_8
    refine ab_aload_n (pc := 11) dX11_works_11 rfl rfl ?_
    refine ab_dup (pc := 12) dX11_works_12 rfl ?_
    refine mo_gi (pc := 13) dX11_works_13 fl_X11_125 rfl ?_
    refine ab_aload_n (pc := 16) dX11_works_16 rfl rfl ?_
    refine mo_gi (pc := 17) dX11_works_17 fl_X11_125 rfl ?_
    refine ab_aload_n (pc := 20) dX11_works_20 rfl rfl ?_
    refine mo_gi (pc := 21) dX11_works_21 fl_X11_163 rfl ?_
    obtain ⟨o4, hD⟩ := hD
    refine ab_nat1 (ab_nat o4) ?_
    refine ab_icmp_ge (pc := 24) (tgt := 31) dX11_works_24 (by decide) (fun c_24 => ?_) (fun c_24 => ?_)
    · refine ab_iconst (pc := 31) (v := -1) dX11_works_31 (by decide) ?_
      refine ab_iadd (pc := 32) dX11_works_32 ?_
      refine mo_pi (pc := 33) dX11_works_33 fl_X11_125 rfl rfl (ab_ok_i _) ?_
      refine mo_vr (pc := 36) dX11_works_36 rfl ?_
      first | (rw [Fworks]; (try dsimp only); rw [if_neg c_8, if_pos c_24]; done) | (rw [Fworks]; (try dsimp only); rw [if_neg c_8, if_pos c_24]; rfl)
    · refine ab_iconst (pc := 27) (v := nI 1) dX11_works_27 (by decide) ?_
      refine ab_goto (pc := 28) (tgt := 32) dX11_works_28 (by decide) ?_
      refine ab_iadd (pc := 32) dX11_works_32 ?_
      refine mo_pi (pc := 33) dX11_works_33 fl_X11_125 rfl rfl (ab_ok_i _) ?_
      refine mo_vr (pc := 36) dX11_works_36 rfl ?_
      first | (rw [Fworks]; (try dsimp only); rw [if_neg c_8, if_neg c_24]; done) | (rw [Fworks]; (try dsimp only); rw [if_neg c_8, if_neg c_24]; rfl)
def Fdriver_140 : Nat → Nat → mD → mD
  | 0, _, m => m
  | n + 1, a1, m =>
    if 8 ≤ a1 then
      m
    else
      let m25 := ab_up m 21 a1 (m 6 (5 + a1))
      Fdriver_140 n (a1 + 1) m25
def Ddriver_140 : Nat → Nat → mD → Prop
  | 0, _, _ => False
  | n + 1, a1, m =>
    (a1 < 2147483648) ∧
    ((8 ≤ a1) →
      True) ∧
    (¬ (8 ≤ a1) →
      ((5 + a1) < 13) ∧
      (a1 < 8) ∧
      let m25 := ab_up m 21 a1 (m 6 (5 + a1))
      Ddriver_140 n (a1 + 1) m25)
set_option maxRecDepth 100000 in
set_option maxHeartbeats 4000000 in
theorem w_driver_140 {tt : Prop} : ∀ (n : Nat) (a1 : Nat) (m : mD) (hD : Ddriver_140 n a1 m), mV mX11_driver 5 tt (mQv (Fdriver_140 n a1 m)) 140 [some (.ref (0)), some (.int (nI (a1)))] [] m := by
  intro n
  induction n with
  | zero => intros; rename_i hD; exact hD.elim
  | succ n ih =>
    intro a1 m hD
    refine ab_iload_n (pc := 140) dX11_driver_140 rfl rfl ?_
    refine ab_bipush (pc := 141) (v := nI 8) dX11_driver_141 (by decide) ?_
    obtain ⟨o22, hD⟩ := hD
    refine ab_icmp_geN (pc := 143) (tgt := 166) dX11_driver_143 (by decide) o22 (by decide) (fun c_143 => ?_) (fun c_143 => ?_)
    · refine mo_vr (pc := 166) dX11_driver_166 rfl ?_
      first | (rw [Fdriver_140]; (try dsimp only); rw [if_pos c_143]; done) | (rw [Fdriver_140]; (try dsimp only); rw [if_pos c_143]; rfl)
    · replace hD := hD.2 c_143
      refine ab_aload_n (pc := 146) dX11_driver_146 rfl rfl ?_
      refine mo_gr (pc := 147) dX11_driver_147 fl_X11_113 rfl rfl ?_
      refine ab_iload_n (pc := 150) dX11_driver_150 rfl rfl ?_
      refine ab_aload_n (pc := 151) dX11_driver_151 rfl rfl ?_
      refine mo_gr (pc := 152) dX11_driver_152 fl_X11_61 rfl rfl ?_
      refine ab_iconst (pc := 155) (v := nI 5) dX11_driver_155 (by decide) ?_
      refine ab_iload_n (pc := 156) dX11_driver_156 rfl rfl ?_
      refine ab_iaddN (pc := 157) dX11_driver_157 ?_
      obtain ⟨o23, hD⟩ := hD
      refine mo_ild (pc := 158) dX11_driver_158 (by decide) rfl o23 (by decide) ?_
      obtain ⟨o24, hD⟩ := hD
      refine mo_ist (pc := 159) dX11_driver_159 (by decide) rfl o24 (by decide) ?_
      refine ab_iinc (pc := 160) dX11_driver_160 rfl (ab_inc _) (Nat.le_of_ble_eq_true rfl) rfl ?_
      refine ab_goto (pc := 163) (tgt := 140) dX11_driver_163 (by decide) ?_
      refine mo_eqv ?_ (ih _ _ hD)
      first | (rw [Fdriver_140]; (try dsimp only); rw [if_neg c_143]; done) | (rw [Fdriver_140]; (try dsimp only); rw [if_neg c_143]; rfl)
def Fdriver_18 : Nat → Nat → mD → mD
  | 0, _, m => m
  | n + 1, a1, m =>
    if ((m 2 1).toNatClampNeg) ≤ a1 then
      if (m 0 27) ≤ 0 then
        if (nI ((m 2 1).toNatClampNeg)) ≤ 0 then
          m
        else
          let z8 := FtakeOut 1 0 m
          if (z8 6 1) = (nI (20)) then
            let m9 := ab_up z8 0 27 (z8 6 1)
            let m10 := ab_up m9 0 28 (m9 6 2)
            Fdriver_140 13 0 m10
          else
            if (z8 6 1) = (nI (21)) then
              let m11 := ab_up z8 0 27 (z8 6 1)
              let m12 := ab_up m11 0 28 (m11 6 2)
              Fdriver_140 13 0 m12
            else
              z8
      else
        let z14 := Fworks  m
        z14
    else
      if (Ffield 1 a1 1 m) = (nI (40)) then
        let z17 := Fdrop 1 a1 m
        let z19 := Fdrafts (nI (41)) (nI (0)) (nI (0)) z17
        let z21 := Fsends 1 0 z19
        z21
      else
        Fdriver_18 n (a1 + 1) m
def Ddriver_18 : Nat → Nat → mD → Prop
  | 0, _, _ => False
  | n + 1, a1, m =>
    (¬ (m 2 1) < 0) ∧
    (a1 < 2147483648) ∧
    (((m 2 1).toNatClampNeg) < 2147483648) ∧
    ((((m 2 1).toNatClampNeg) ≤ a1) →
      (((m 0 27) ≤ 0) →
        (¬ (m 2 1) < 0) ∧
        (((nI ((m 2 1).toNatClampNeg)) ≤ 0) →
          True) ∧
        (¬ ((nI ((m 2 1).toNatClampNeg)) ≤ 0) →
          (DtakeOut 1 0 m) ∧
          let z8 := FtakeOut 1 0 m
          (((z8 6 1) = (nI (20))) →
            let m9 := ab_up z8 0 27 (z8 6 1)
            let m10 := ab_up m9 0 28 (m9 6 2)
            Ddriver_140 13 0 m10) ∧
          (¬ ((z8 6 1) = (nI (20))) →
            (((z8 6 1) = (nI (21))) →
              let m11 := ab_up z8 0 27 (z8 6 1)
              let m12 := ab_up m11 0 28 (m11 6 2)
              Ddriver_140 13 0 m12) ∧
            (¬ ((z8 6 1) = (nI (21))) →
              True)))) ∧
      (¬ ((m 0 27) ≤ 0) →
        (Dworks  m) ∧
        let z14 := Fworks  m
        True)) ∧
    (¬ (((m 2 1).toNatClampNeg) ≤ a1) →
      (Dfield 1 a1 1 m) ∧
      (((Ffield 1 a1 1 m) = (nI (40))) →
        (Ddrop 1 a1 m) ∧
        let z17 := Fdrop 1 a1 m
        (Ddrafts (nI (41)) (nI (0)) (nI (0)) z17) ∧
        let z19 := Fdrafts (nI (41)) (nI (0)) (nI (0)) z17
        (Dsends 1 0 z19) ∧
        let z21 := Fsends 1 0 z19
        True) ∧
      (¬ ((Ffield 1 a1 1 m) = (nI (40))) →
        Ddriver_18 n (a1 + 1) m))
set_option maxRecDepth 100000 in
set_option maxHeartbeats 4000000 in
theorem w_driver_18 {tt : Prop} : ∀ (n : Nat) (a1 : Nat) (m : mD) (hD : Ddriver_18 n a1 m), mV mX11_driver 5 tt (mQv (Fdriver_18 n a1 m)) 18 [some (.ref (0)), some (.int (nI (a1)))] [] m := by
  intro n
  induction n with
  | zero => intros; rename_i hD; exact hD.elim
  | succ n ih =>
    intro a1 m hD
    refine ab_iload_n (pc := 18) dX11_driver_18 rfl rfl ?_
    refine ab_aload_n (pc := 19) dX11_driver_19 rfl rfl ?_
    refine mo_gr (pc := 20) dX11_driver_20 fl_X11_38 rfl rfl ?_
    refine ab_iconst (pc := 23) (v := nI 1) dX11_driver_23 (by decide) ?_
    refine mo_ild (pc := 24) dX11_driver_24 (by decide) rfl (by decide) (by decide) ?_
    obtain ⟨o3, hD⟩ := hD
    refine ab_nat1 (ab_nat o3) ?_
    obtain ⟨o4, hD⟩ := hD
    obtain ⟨o5, hD⟩ := hD
    refine ab_icmp_geN (pc := 25) (tgt := 67) dX11_driver_25 (by decide) o4 o5 (fun c_25 => ?_) (fun c_25 => ?_)
    · replace hD := hD.1 c_25
      refine ab_aload_n (pc := 67) dX11_driver_67 rfl rfl ?_
      refine mo_gi (pc := 68) dX11_driver_68 fl_X11_122 rfl ?_
      refine ab_if_le (pc := 71) (tgt := 81) dX11_driver_71 (by decide) (fun c_71 => ?_) (fun c_71 => ?_)
      · replace hD := hD.1 c_71
        refine ab_aload_n (pc := 81) dX11_driver_81 rfl rfl ?_
        refine mo_gr (pc := 82) dX11_driver_82 fl_X11_38 rfl rfl ?_
        refine ab_iconst (pc := 85) (v := nI 1) dX11_driver_85 (by decide) ?_
        refine mo_ild (pc := 86) dX11_driver_86 (by decide) rfl (by decide) (by decide) ?_
        obtain ⟨o6, hD⟩ := hD
        refine ab_nat1 (ab_nat o6) ?_
        refine ab_if_le (pc := 87) (tgt := 166) dX11_driver_87 (by decide) (fun c_87 => ?_) (fun c_87 => ?_)
        · refine mo_vr (pc := 166) dX11_driver_166 rfl ?_
          first | (rw [Fdriver_18]; (try dsimp only); rw [if_pos c_25, if_pos c_71, if_pos c_87]; done) | (rw [Fdriver_18]; (try dsimp only); rw [if_pos c_25, if_pos c_71, if_pos c_87]; rfl)
        · replace hD := hD.2 c_87
          refine ab_aload_n (pc := 90) dX11_driver_90 rfl rfl ?_
          refine ab_iconst (pc := 91) (v := nI 1) dX11_driver_91 (by decide) ?_
          refine ab_iconst (pc := 92) (v := nI 0) dX11_driver_92 (by decide) ?_
          obtain ⟨o7, hD⟩ := hD
          refine mo_invv (N := mX11_takeOut) (pc := 93) (d' := 1) (av := [_, _]) dX11_driver_93 ml_X11_143 fv_X11_takeOut (Nat.le_of_ble_eq_true rfl) (by decide) (c_takeOut _ _ _ o7) ?_
          refine ab_aload_n (pc := 96) dX11_driver_96 rfl rfl ?_
          refine mo_gr (pc := 97) dX11_driver_97 fl_X11_61 rfl rfl ?_
          refine ab_iconst (pc := 100) (v := nI 1) dX11_driver_100 (by decide) ?_
          refine mo_ild (pc := 101) dX11_driver_101 (by decide) rfl (by decide) (by decide) ?_
          refine ab_bipush (pc := 102) (v := nI 20) dX11_driver_102 (by decide) ?_
          refine ab_icmp_eq (pc := 104) (tgt := 118) dX11_driver_104 (by decide) (fun c_104 => ?_) (fun c_104 => ?_)
          · replace hD := hD.1 c_104
            refine ab_aload_n (pc := 118) dX11_driver_118 rfl rfl ?_
            refine ab_aload_n (pc := 119) dX11_driver_119 rfl rfl ?_
            refine mo_gr (pc := 120) dX11_driver_120 fl_X11_61 rfl rfl ?_
            refine ab_iconst (pc := 123) (v := nI 1) dX11_driver_123 (by decide) ?_
            refine mo_ild (pc := 124) dX11_driver_124 (by decide) rfl (by decide) (by decide) ?_
            refine mo_pi (pc := 125) dX11_driver_125 fl_X11_122 rfl rfl (ab_ok_i _) ?_
            refine ab_aload_n (pc := 128) dX11_driver_128 rfl rfl ?_
            refine ab_aload_n (pc := 129) dX11_driver_129 rfl rfl ?_
            refine mo_gr (pc := 130) dX11_driver_130 fl_X11_61 rfl rfl ?_
            refine ab_iconst (pc := 133) (v := nI 2) dX11_driver_133 (by decide) ?_
            refine mo_ild (pc := 134) dX11_driver_134 (by decide) rfl (by decide) (by decide) ?_
            refine mo_pi (pc := 135) dX11_driver_135 fl_X11_163 rfl rfl (ab_ok_i _) ?_
            refine ab_iconst (pc := 138) (v := nI 0) dX11_driver_138 (by decide) ?_
            refine ab_istore_n (pc := 139) dX11_driver_139 rfl (Nat.le_of_ble_eq_true rfl) rfl ?_
            refine mo_eqv ?_ (w_driver_140 13 _ _ hD)
            first | (rw [Fdriver_18]; (try dsimp only); rw [if_pos c_25, if_pos c_71, if_neg c_87, if_pos c_104]; done) | (rw [Fdriver_18]; (try dsimp only); rw [if_pos c_25, if_pos c_71, if_neg c_87, if_pos c_104]; rfl)
          · replace hD := hD.2 c_104
            refine ab_aload_n (pc := 107) dX11_driver_107 rfl rfl ?_
            refine mo_gr (pc := 108) dX11_driver_108 fl_X11_61 rfl rfl ?_
            refine ab_iconst (pc := 111) (v := nI 1) dX11_driver_111 (by decide) ?_
            refine mo_ild (pc := 112) dX11_driver_112 (by decide) rfl (by decide) (by decide) ?_
            refine ab_bipush (pc := 113) (v := nI 21) dX11_driver_113 (by decide) ?_
            refine ab_icmp_ne (pc := 115) (tgt := 166) dX11_driver_115 (by decide) (fun c_115 => ?_) (fun c_115 => ?_)
            · refine mo_vr (pc := 166) dX11_driver_166 rfl ?_
              first | (rw [Fdriver_18]; (try dsimp only); rw [if_pos c_25, if_pos c_71, if_neg c_87, if_neg c_104, if_neg c_115]; done) | (rw [Fdriver_18]; (try dsimp only); rw [if_pos c_25, if_pos c_71, if_neg c_87, if_neg c_104, if_neg c_115]; rfl)
            · replace hD := hD.1 c_115
              refine ab_aload_n (pc := 118) dX11_driver_118 rfl rfl ?_
              refine ab_aload_n (pc := 119) dX11_driver_119 rfl rfl ?_
              refine mo_gr (pc := 120) dX11_driver_120 fl_X11_61 rfl rfl ?_
              refine ab_iconst (pc := 123) (v := nI 1) dX11_driver_123 (by decide) ?_
              refine mo_ild (pc := 124) dX11_driver_124 (by decide) rfl (by decide) (by decide) ?_
              refine mo_pi (pc := 125) dX11_driver_125 fl_X11_122 rfl rfl (ab_ok_i _) ?_
              refine ab_aload_n (pc := 128) dX11_driver_128 rfl rfl ?_
              refine ab_aload_n (pc := 129) dX11_driver_129 rfl rfl ?_
              refine mo_gr (pc := 130) dX11_driver_130 fl_X11_61 rfl rfl ?_
              refine ab_iconst (pc := 133) (v := nI 2) dX11_driver_133 (by decide) ?_
              refine mo_ild (pc := 134) dX11_driver_134 (by decide) rfl (by decide) (by decide) ?_
              refine mo_pi (pc := 135) dX11_driver_135 fl_X11_163 rfl rfl (ab_ok_i _) ?_
              refine ab_iconst (pc := 138) (v := nI 0) dX11_driver_138 (by decide) ?_
              refine ab_istore_n (pc := 139) dX11_driver_139 rfl (Nat.le_of_ble_eq_true rfl) rfl ?_
              refine mo_eqv ?_ (w_driver_140 13 _ _ hD)
              first | (rw [Fdriver_18]; (try dsimp only); rw [if_pos c_25, if_pos c_71, if_neg c_87, if_neg c_104, if_pos c_115]; done) | (rw [Fdriver_18]; (try dsimp only); rw [if_pos c_25, if_pos c_71, if_neg c_87, if_neg c_104, if_pos c_115]; rfl)
      · replace hD := hD.2 c_71
        refine ab_aload_n (pc := 74) dX11_driver_74 rfl rfl ?_
        obtain ⟨o13, hD⟩ := hD
        refine mo_invv (N := mX11_works) (pc := 75) (d' := 4) (av := []) dX11_driver_75 ml_X11_160 fv_X11_works (Nat.le_of_ble_eq_true rfl) (by decide) (c_works  _ o13) ?_
        refine ab_goto (pc := 78) (tgt := 166) dX11_driver_78 (by decide) ?_
        refine mo_vr (pc := 166) dX11_driver_166 rfl ?_
        first | (rw [Fdriver_18]; (try dsimp only); rw [if_pos c_25, if_neg c_71]; done) | (rw [Fdriver_18]; (try dsimp only); rw [if_pos c_25, if_neg c_71]; rfl)
    · replace hD := hD.2 c_25
      refine ab_aload_n (pc := 28) dX11_driver_28 rfl rfl ?_
      refine ab_iconst (pc := 29) (v := nI 1) dX11_driver_29 (by decide) ?_
      refine ab_iload_n (pc := 30) dX11_driver_30 rfl rfl ?_
      refine ab_iconst (pc := 31) (v := nI 1) dX11_driver_31 (by decide) ?_
      obtain ⟨o15, hD⟩ := hD
      refine mo_invr (N := mX11_field) (pc := 32) (d' := 0) (av := [_, _, _]) dX11_driver_32 ml_X11_156 fv_X11_field (Nat.le_of_ble_eq_true rfl) (by decide) (c_field _ _ _ _ o15) ?_
      refine ab_bipush (pc := 35) (v := nI 40) dX11_driver_35 (by decide) ?_
      refine ab_icmp_ne (pc := 37) (tgt := 61) dX11_driver_37 (by decide) (fun c_37 => ?_) (fun c_37 => ?_)
      · replace hD := hD.2 c_37
        refine ab_iinc (pc := 61) dX11_driver_61 rfl (ab_inc _) (Nat.le_of_ble_eq_true rfl) rfl ?_
        refine ab_goto (pc := 64) (tgt := 18) dX11_driver_64 (by decide) ?_
        refine mo_eqv ?_ (ih _ _ hD)
        first | (rw [Fdriver_18]; (try dsimp only); rw [if_neg c_25, if_neg c_37]; done) | (rw [Fdriver_18]; (try dsimp only); rw [if_neg c_25, if_neg c_37]; rfl)
      · replace hD := hD.1 c_37
        refine ab_aload_n (pc := 40) dX11_driver_40 rfl rfl ?_
        refine ab_iconst (pc := 41) (v := nI 1) dX11_driver_41 (by decide) ?_
        refine ab_iload_n (pc := 42) dX11_driver_42 rfl rfl ?_
        obtain ⟨o16, hD⟩ := hD
        refine mo_invv (N := mX11_drop) (pc := 43) (d' := 0) (av := [_, _]) dX11_driver_43 ml_X11_64 fv_X11_drop (Nat.le_of_ble_eq_true rfl) (by decide) (c_drop _ _ _ o16) ?_
        refine ab_aload_n (pc := 46) dX11_driver_46 rfl rfl ?_
        refine ab_bipush (pc := 47) (v := nI 41) dX11_driver_47 (by decide) ?_
        refine ab_iconst (pc := 49) (v := nI 0) dX11_driver_49 (by decide) ?_
        refine ab_iconst (pc := 50) (v := nI 0) dX11_driver_50 (by decide) ?_
        obtain ⟨o18, hD⟩ := hD
        refine mo_invv (N := mX11_drafts) (pc := 51) (d' := 0) (av := [_, _, _]) dX11_driver_51 ml_X11_152 fv_X11_drafts (Nat.le_of_ble_eq_true rfl) (by decide) (c_drafts _ _ _ _ o18) ?_
        refine ab_aload_n (pc := 54) dX11_driver_54 rfl rfl ?_
        refine ab_iconst (pc := 55) (v := nI 1) dX11_driver_55 (by decide) ?_
        refine ab_iconst (pc := 56) (v := nI 0) dX11_driver_56 (by decide) ?_
        obtain ⟨o20, hD⟩ := hD
        refine mo_invv (N := mX11_sends) (pc := 57) (d' := 3) (av := [_, _]) dX11_driver_57 ml_X11_57 fv_X11_sends (Nat.le_of_ble_eq_true rfl) (by decide) (c_sends _ _ _ o20) ?_
        refine mo_vr (pc := 60) dX11_driver_60 rfl ?_
        first | (rw [Fdriver_18]; (try dsimp only); rw [if_neg c_25, if_pos c_37]; done) | (rw [Fdriver_18]; (try dsimp only); rw [if_neg c_25, if_pos c_37]; rfl)
def Fdriver  (m : mD) : mD :=
  if (m 0 24) = 0 then
    let z2 := FsendsAgain 1 m
    if (z2.1) = 0 then
      Fdriver_18 13 0 z2.2
    else
      z2.2
  else
    m
def Ddriver  (m : mD) : Prop :=
  (((m 0 24) = 0) →
    (DsendsAgain 1 m) ∧
    let z2 := FsendsAgain 1 m
    (((z2.1) = 0) →
      Ddriver_18 13 0 z2.2) ∧
    (¬ ((z2.1) = 0) →
      True)) ∧
  (¬ ((m 0 24) = 0) →
    True)
set_option maxRecDepth 100000 in
set_option maxHeartbeats 4000000 in
theorem c_driver {tt : Prop}  (m : mD) (hD : Ddriver  m) : ab_Met mX11_driver 5 0 0 tt [.ref (0)] (sM m) (mQv (Fdriver  m)) := by
  refine ab_Met.of rfl (Nat.le_of_ble_eq_true rfl) ?_
  show mV mX11_driver 5 tt (mQv (Fdriver  m)) 0 [some (.ref (0)), none] [] m
  refine ab_aload_n (pc := 0) dX11_driver_0 rfl rfl ?_
  refine mo_gi (pc := 1) dX11_driver_1 fl_X11_119 rfl ?_
  refine ab_if_ne (pc := 4) (tgt := 15) dX11_driver_4 (by decide) (fun c_4 => ?_) (fun c_4 => ?_)
  · refine mo_vr (pc := 15) dX11_driver_15 rfl ?_
    first | (rw [Fdriver]; (try dsimp only); rw [if_neg c_4]; done) | (rw [Fdriver]; (try dsimp only); rw [if_neg c_4]; rfl)
  · replace hD := hD.1 c_4
    refine ab_aload_n (pc := 7) dX11_driver_7 rfl rfl ?_
    refine ab_iconst (pc := 8) (v := nI 1) dX11_driver_8 (by decide) ?_
    obtain ⟨o1, hD⟩ := hD
    refine mo_invi (N := mX11_sendsAgain) (pc := 9) (d' := 4) (av := [_]) dX11_driver_9 ml_X11_137 fv_X11_sendsAgain (Nat.le_of_ble_eq_true rfl) (by decide) (c_sendsAgain _ _ o1) ?_
    refine ab_if_eq (pc := 12) (tgt := 16) dX11_driver_12 (by decide) (fun c_12 => ?_) (fun c_12 => ?_)
    · replace hD := hD.1 c_12
      refine ab_iconst (pc := 16) (v := nI 0) dX11_driver_16 (by decide) ?_
      refine ab_istore_n (pc := 17) dX11_driver_17 rfl (Nat.le_of_ble_eq_true rfl) rfl ?_
      refine mo_eqv ?_ (w_driver_18 13 _ _ hD)
      first | (rw [Fdriver]; (try dsimp only); rw [if_pos c_4, if_pos c_12]; done) | (rw [Fdriver]; (try dsimp only); rw [if_pos c_4, if_pos c_12]; rfl)
    · refine mo_vr (pc := 15) dX11_driver_15 rfl ?_
      first | (rw [Fdriver]; (try dsimp only); rw [if_pos c_4, if_neg c_12]; done) | (rw [Fdriver]; (try dsimp only); rw [if_pos c_4, if_neg c_12]; rfl)
