/-! THE REFERENCE's CONSTRUCTOR -/
def iM0 : Nat → Nat → Int32 := ab_up (ab_up (ab_up (fun _ _ => 0) 0 23 (nI 1)) 0 25 (nI 1)) 0 34 (nI 1)
def rM0 : Nat → Nat → Option Nat := ab_up (ab_up (ab_up (ab_up (ab_up (ab_up (ab_up (ab_up (ab_up (ab_up (ab_up (ab_up (ab_up (ab_up (ab_up (ab_up (ab_up (ab_up (ab_up (ab_up (ab_up (ab_up (fun _ _ => none) 0 1 (some (1))) 0 2 (some (2))) 0 3 (some (3))) 0 4 (some (4))) 0 5 (some (5))) 0 8 (some (6))) 0 9 (some (7))) 0 10 (some (8))) 0 11 (some (9))) 0 12 (some (10))) 0 13 (some (11))) 0 14 (some (12))) 0 15 (some (13))) 0 16 (some (14))) 0 17 (some (15))) 0 18 (some (16))) 0 19 (some (17))) 0 20 (some (18))) 0 21 (some (19))) 0 22 (some (20))) 0 29 (some (21))) 0 42 (some (22))
/-- keptFor (5) and parent (11) filled with -1 -/
def iM1 : Nat → Nat → Nat → Int32
  | 0 => iM0
  | k + 1 => ab_up (ab_up (iM1 k) 5 k (-1)) 11 k (-1)
def iM4 : Nat → Nat → Int32 := ab_up (fl1 (fl1 (iM1 12) 14 48) 18 64) 7 4 (nI 1)
theorem z0_Fr : Fr 1 (fun _ _ => 0) (fun _ _ => none) := fun _ _ => ⟨fun _ => rfl, fun _ => rfl⟩
set_option maxRecDepth 100000 in
set_option maxHeartbeats 4000000 in
theorem l_X11c {tt : Prop} : ∀ (j k : Nat), j + k = 64 → ab_V mX11_init 1 22 2586 tt (cQ shM 23 iM4 rM0) 22 2586 249 [some (.ref (0 : Nat)), some (.int (nI k))] [] (sN shM 23 (fl1 (fl1 (iM1 12) 14 48) 18 k) rM0) := by
  intro j
  induction j with
  | zero =>
    intro k hk
    have hk : k = 64 := by omega
    subst hk
    refine ab_iload_n (pc := 249) dX11_init_249 rfl rfl ?_
    refine ab_bipush (pc := 250) (v := nI 64) dX11_init_250 (by decide) ?_
    refine ab_icmp_geN (pc := 252) (tgt := 268) dX11_init_252 (by decide) (by decide) (by decide) (fun _ => ?_) (fun z => absurd (Nat.le_refl _) z)
    refine ab_aload_n (pc := 268) dX11_init_268 rfl rfl ?_
    refine cn_getR (pc := 269) (x := (7 : Nat)) dX11_init_269 fl_X11_19 (by omega) rfl rfl rfl ?_
    refine ab_iconst (pc := 272) (v := nI 4) dX11_init_272 (by decide) ?_
    refine ab_iconst (pc := 273) (v := nI 1) dX11_init_273 (by decide) ?_
    refine cn_iast (pc := 274) dX11_init_274 (by omega) (show shM 7 = (100, 12) from rfl) (by omega) (by decide) ?_
    exact ab_return (pc := 275) dX11_init_275 rfl ⟨by omega, by omega⟩ (fun _ => by omega) ⟨rfl, rfl⟩
  | succ j ih =>
    intro k hk
    refine ab_iload_n (pc := 249) dX11_init_249 rfl rfl ?_
    refine ab_bipush (pc := 250) (v := nI 64) dX11_init_250 (by decide) ?_
    refine ab_icmp_geN (pc := 252) (tgt := 268) dX11_init_252 (by decide) (by omega) (by decide) (fun z => absurd z (by omega)) (fun _ => ?_)
    refine ab_aload_n (pc := 255) dX11_init_255 rfl rfl ?_
    refine cn_getR (pc := 256) (x := (18 : Nat)) dX11_init_256 fl_X11_104 (by omega) rfl rfl rfl ?_
    refine ab_iload_n (pc := 259) dX11_init_259 rfl rfl ?_
    refine ab_iconst (pc := 260) (v := -1) dX11_init_260 (by decide) ?_
    refine cn_iast (pc := 261) dX11_init_261 (by omega) (show shM 18 = (100, 64) from rfl) (by omega) (by decide) ?_
    refine ab_iinc (pc := 262) (v := nI (k + 1)) dX11_init_262 rfl (ab_inc k) (Nat.le_of_ble_eq_true rfl) rfl ?_
    refine ab_goto (pc := 265) (tgt := 249) dX11_init_265 (by decide) ?_
    exact ih (k + 1) (by omega)
set_option maxRecDepth 100000 in
set_option maxHeartbeats 4000000 in
theorem l_X11b {tt : Prop} : ∀ (j k : Nat), j + k = 48 → ab_V mX11_init 1 22 2586 tt (cQ shM 23 iM4 rM0) 22 2586 228 [some (.ref (0 : Nat)), some (.int (nI k))] [] (sN shM 23 (fl1 (iM1 12) 14 k) rM0) := by
  intro j
  induction j with
  | zero =>
    intro k hk
    have hk : k = 48 := by omega
    subst hk
    refine ab_iload_n (pc := 228) dX11_init_228 rfl rfl ?_
    refine ab_bipush (pc := 229) (v := nI 48) dX11_init_229 (by decide) ?_
    refine ab_icmp_geN (pc := 231) (tgt := 247) dX11_init_231 (by decide) (by decide) (by decide) (fun _ => ?_) (fun z => absurd (Nat.le_refl _) z)
    refine ab_iconst (pc := 247) (v := nI 0) dX11_init_247 (by decide) ?_
    refine ab_istore_n (pc := 248) dX11_init_248 rfl (Nat.le_of_ble_eq_true rfl) rfl ?_
    exact l_X11c 64 0 rfl
  | succ j ih =>
    intro k hk
    refine ab_iload_n (pc := 228) dX11_init_228 rfl rfl ?_
    refine ab_bipush (pc := 229) (v := nI 48) dX11_init_229 (by decide) ?_
    refine ab_icmp_geN (pc := 231) (tgt := 247) dX11_init_231 (by decide) (by omega) (by decide) (fun z => absurd z (by omega)) (fun _ => ?_)
    refine ab_aload_n (pc := 234) dX11_init_234 rfl rfl ?_
    refine cn_getR (pc := 235) (x := (14 : Nat)) dX11_init_235 fl_X11_92 (by omega) rfl rfl rfl ?_
    refine ab_iload_n (pc := 238) dX11_init_238 rfl rfl ?_
    refine ab_iconst (pc := 239) (v := -1) dX11_init_239 (by decide) ?_
    refine cn_iast (pc := 240) dX11_init_240 (by omega) (show shM 14 = (100, 48) from rfl) (by omega) (by decide) ?_
    refine ab_iinc (pc := 241) (v := nI (k + 1)) dX11_init_241 rfl (ab_inc k) (Nat.le_of_ble_eq_true rfl) rfl ?_
    refine ab_goto (pc := 244) (tgt := 228) dX11_init_244 (by decide) ?_
    exact ih (k + 1) (by omega)
set_option maxRecDepth 100000 in
set_option maxHeartbeats 4000000 in
theorem l_X11a {tt : Prop} : ∀ (j k : Nat), j + k = 12 → ab_V mX11_init 1 22 2586 tt (cQ shM 23 iM4 rM0) 22 2586 200 [some (.ref (0 : Nat)), some (.int (nI k))] [] (sN shM 23 (iM1 k) rM0) := by
  intro j
  induction j with
  | zero =>
    intro k hk
    have hk : k = 12 := by omega
    subst hk
    refine ab_iload_n (pc := 200) dX11_init_200 rfl rfl ?_
    refine ab_bipush (pc := 201) (v := nI 12) dX11_init_201 (by decide) ?_
    refine ab_icmp_geN (pc := 203) (tgt := 226) dX11_init_203 (by decide) (by decide) (by decide) (fun _ => ?_) (fun z => absurd (Nat.le_refl _) z)
    refine ab_iconst (pc := 226) (v := nI 0) dX11_init_226 (by decide) ?_
    refine ab_istore_n (pc := 227) dX11_init_227 rfl (Nat.le_of_ble_eq_true rfl) rfl ?_
    exact l_X11b 48 0 rfl
  | succ j ih =>
    intro k hk
    refine ab_iload_n (pc := 200) dX11_init_200 rfl rfl ?_
    refine ab_bipush (pc := 201) (v := nI 12) dX11_init_201 (by decide) ?_
    refine ab_icmp_geN (pc := 203) (tgt := 226) dX11_init_203 (by decide) (by omega) (by decide) (fun z => absurd z (by omega)) (fun _ => ?_)
    refine ab_aload_n (pc := 206) dX11_init_206 rfl rfl ?_
    refine cn_getR (pc := 207) (x := (5 : Nat)) dX11_init_207 fl_X11_54 (by omega) rfl rfl rfl ?_
    refine ab_iload_n (pc := 210) dX11_init_210 rfl rfl ?_
    refine ab_iconst (pc := 211) (v := -1) dX11_init_211 (by decide) ?_
    refine cn_iast (pc := 212) dX11_init_212 (by omega) (show shM 5 = (100, 12) from rfl) (by omega) (by decide) ?_
    refine ab_aload_n (pc := 213) dX11_init_213 rfl rfl ?_
    refine cn_getR (pc := 214) (x := (11 : Nat)) dX11_init_214 fl_X11_83 (by omega) rfl rfl rfl ?_
    refine ab_iload_n (pc := 217) dX11_init_217 rfl rfl ?_
    refine ab_iconst (pc := 218) (v := -1) dX11_init_218 (by decide) ?_
    refine cn_iast (pc := 219) dX11_init_219 (by omega) (show shM 11 = (100, 12) from rfl) (by omega) (by decide) ?_
    refine ab_iinc (pc := 220) (v := nI (k + 1)) dX11_init_220 rfl (ab_inc k) (Nat.le_of_ble_eq_true rfl) rfl ?_
    refine ab_goto (pc := 223) (tgt := 200) dX11_init_223 (by decide) ?_
    exact ih (k + 1) (by omega)
set_option maxRecDepth 100000 in
set_option maxHeartbeats 4000000 in
theorem n_X11 {tt : Prop} (htt : tt) : ab_Met mX11_init 1 22 2586 tt [.ref (0 : Nat)] (sN shM 1 (fun _ _ => 0) (fun _ _ => none)) (cQ shM 23 iM4 rM0) := by
  have hf := z0_Fr
  refine ab_Met.of rfl (Nat.le_of_ble_eq_true rfl) ?_
  show ab_V mX11_init 1 22 2586 tt (cQ shM 23 iM4 rM0) 0 0 0 [some (.ref (0 : Nat)), none] [] (sN shM 1 (fun _ _ => 0) (fun _ _ => none))
  refine ab_aload_n (pc := 0) dX11_init_0 rfl rfl ?_
  refine ab_obj (pc := 1) dX11_init_1 ml_X11_67 (Nat.le_of_ble_eq_true rfl) (by omega) ?_
  refine ab_aload_n (pc := 4) dX11_init_4 rfl rfl ?_
  refine ab_sipush (pc := 5) (v := nI 1872) dX11_init_5 (by decide) ?_
  refine cn_newa (pc := 8) (n' := 2) (kd := 100) (len := 1872) dX11_init_8 htt (by omega) (by first | exact Or.inl ⟨rfl, rfl⟩ | exact Or.inr ⟨rfl, rfl⟩) rfl hf (by decide) ⟨by omega, by omega⟩ rfl ?_
  have f1 := Fr.mono (n' := 2) hf (by omega)
  refine cn_putR (pc := 10) dX11_init_10 fl_X11_41 (by omega) rfl rfl (fun _ _ _ h => by cases h; first | exact Or.inl rfl | exact Or.inr ⟨rfl, rfl, rfl⟩) ?_
  have f2 := Fr.ur (q := 0) (j := 1) (w := some (1)) f1 (by omega)
  refine ab_aload_n (pc := 13) dX11_init_13 rfl rfl ?_
  refine ab_bipush (pc := 14) (v := nI 12) dX11_init_14 (by decide) ?_
  refine cn_newa (pc := 16) (n' := 3) (kd := 100) (len := 12) dX11_init_16 htt (by omega) (by first | exact Or.inl ⟨rfl, rfl⟩ | exact Or.inr ⟨rfl, rfl⟩) rfl f2 (by decide) ⟨by omega, by omega⟩ rfl ?_
  have f3 := Fr.mono (n' := 3) f2 (by omega)
  refine cn_putR (pc := 18) dX11_init_18 fl_X11_38 (by omega) rfl rfl (fun _ _ _ h => by cases h; first | exact Or.inl rfl | exact Or.inr ⟨rfl, rfl, rfl⟩) ?_
  have f4 := Fr.ur (q := 0) (j := 2) (w := some (2)) f3 (by omega)
  refine ab_aload_n (pc := 21) dX11_init_21 rfl rfl ?_
  refine ab_bipush (pc := 22) (v := nI 13) dX11_init_22 (by decide) ?_
  refine cn_newa (pc := 24) (n' := 4) (kd := 100) (len := 13) dX11_init_24 htt (by omega) (by first | exact Or.inl ⟨rfl, rfl⟩ | exact Or.inr ⟨rfl, rfl⟩) rfl f4 (by decide) ⟨by omega, by omega⟩ rfl ?_
  have f5 := Fr.mono (n' := 4) f4 (by omega)
  refine cn_putR (pc := 26) dX11_init_26 fl_X11_7 (by omega) rfl rfl (fun _ _ _ h => by cases h; first | exact Or.inl rfl | exact Or.inr ⟨rfl, rfl, rfl⟩) ?_
  have f6 := Fr.ur (q := 0) (j := 3) (w := some (3)) f5 (by omega)
  refine ab_aload_n (pc := 29) dX11_init_29 rfl rfl ?_
  refine ab_sipush (pc := 30) (v := nI 156) dX11_init_30 (by decide) ?_
  refine cn_newa (pc := 33) (n' := 5) (kd := 100) (len := 156) dX11_init_33 htt (by omega) (by first | exact Or.inl ⟨rfl, rfl⟩ | exact Or.inr ⟨rfl, rfl⟩) rfl f6 (by decide) ⟨by omega, by omega⟩ rfl ?_
  have f7 := Fr.mono (n' := 5) f6 (by omega)
  refine cn_putR (pc := 35) dX11_init_35 fl_X11_51 (by omega) rfl rfl (fun _ _ _ h => by cases h; first | exact Or.inl rfl | exact Or.inr ⟨rfl, rfl, rfl⟩) ?_
  have f8 := Fr.ur (q := 0) (j := 4) (w := some (4)) f7 (by omega)
  refine ab_aload_n (pc := 38) dX11_init_38 rfl rfl ?_
  refine ab_bipush (pc := 39) (v := nI 12) dX11_init_39 (by decide) ?_
  refine cn_newa (pc := 41) (n' := 6) (kd := 100) (len := 12) dX11_init_41 htt (by omega) (by first | exact Or.inl ⟨rfl, rfl⟩ | exact Or.inr ⟨rfl, rfl⟩) rfl f8 (by decide) ⟨by omega, by omega⟩ rfl ?_
  have f9 := Fr.mono (n' := 6) f8 (by omega)
  refine cn_putR (pc := 43) dX11_init_43 fl_X11_54 (by omega) rfl rfl (fun _ _ _ h => by cases h; first | exact Or.inl rfl | exact Or.inr ⟨rfl, rfl, rfl⟩) ?_
  have f10 := Fr.ur (q := 0) (j := 5) (w := some (5)) f9 (by omega)
  refine ab_aload_n (pc := 46) dX11_init_46 rfl rfl ?_
  refine ab_bipush (pc := 47) (v := nI 13) dX11_init_47 (by decide) ?_
  refine cn_newa (pc := 49) (n' := 7) (kd := 100) (len := 13) dX11_init_49 htt (by omega) (by first | exact Or.inl ⟨rfl, rfl⟩ | exact Or.inr ⟨rfl, rfl⟩) rfl f10 (by decide) ⟨by omega, by omega⟩ rfl ?_
  have f11 := Fr.mono (n' := 7) f10 (by omega)
  refine cn_putR (pc := 51) dX11_init_51 fl_X11_61 (by omega) rfl rfl (fun _ _ _ h => by cases h; first | exact Or.inl rfl | exact Or.inr ⟨rfl, rfl, rfl⟩) ?_
  have f12 := Fr.ur (q := 0) (j := 8) (w := some (6)) f11 (by omega)
  refine ab_aload_n (pc := 54) dX11_init_54 rfl rfl ?_
  refine ab_bipush (pc := 55) (v := nI 12) dX11_init_55 (by decide) ?_
  refine cn_newa (pc := 57) (n' := 8) (kd := 100) (len := 12) dX11_init_57 htt (by omega) (by first | exact Or.inl ⟨rfl, rfl⟩ | exact Or.inr ⟨rfl, rfl⟩) rfl f12 (by decide) ⟨by omega, by omega⟩ rfl ?_
  have f13 := Fr.mono (n' := 8) f12 (by omega)
  refine cn_putR (pc := 59) dX11_init_59 fl_X11_19 (by omega) rfl rfl (fun _ _ _ h => by cases h; first | exact Or.inl rfl | exact Or.inr ⟨rfl, rfl, rfl⟩) ?_
  have f14 := Fr.ur (q := 0) (j := 9) (w := some (7)) f13 (by omega)
  refine ab_aload_n (pc := 62) dX11_init_62 rfl rfl ?_
  refine ab_bipush (pc := 63) (v := nI 12) dX11_init_63 (by decide) ?_
  refine cn_newa (pc := 65) (n' := 9) (kd := 101) (len := 12) dX11_init_65 htt (by omega) (by first | exact Or.inl ⟨rfl, rfl⟩ | exact Or.inr ⟨rfl, rfl⟩) rfl f14 (by decide) ⟨by omega, by omega⟩ rfl ?_
  have f15 := Fr.mono (n' := 9) f14 (by omega)
  refine cn_putR (pc := 67) dX11_init_67 fl_X11_73 (by omega) rfl rfl (fun _ _ _ h => by cases h; first | exact Or.inl rfl | exact Or.inr ⟨rfl, rfl, rfl⟩) ?_
  have f16 := Fr.ur (q := 0) (j := 10) (w := some (8)) f15 (by omega)
  refine ab_aload_n (pc := 70) dX11_init_70 rfl rfl ?_
  refine ab_bipush (pc := 71) (v := nI 12) dX11_init_71 (by decide) ?_
  refine cn_newa (pc := 73) (n' := 10) (kd := 100) (len := 12) dX11_init_73 htt (by omega) (by first | exact Or.inl ⟨rfl, rfl⟩ | exact Or.inr ⟨rfl, rfl⟩) rfl f16 (by decide) ⟨by omega, by omega⟩ rfl ?_
  have f17 := Fr.mono (n' := 10) f16 (by omega)
  refine cn_putR (pc := 75) dX11_init_75 fl_X11_77 (by omega) rfl rfl (fun _ _ _ h => by cases h; first | exact Or.inl rfl | exact Or.inr ⟨rfl, rfl, rfl⟩) ?_
  have f18 := Fr.ur (q := 0) (j := 11) (w := some (9)) f17 (by omega)
  refine ab_aload_n (pc := 78) dX11_init_78 rfl rfl ?_
  refine ab_bipush (pc := 79) (v := nI 12) dX11_init_79 (by decide) ?_
  refine cn_newa (pc := 81) (n' := 11) (kd := 100) (len := 12) dX11_init_81 htt (by omega) (by first | exact Or.inl ⟨rfl, rfl⟩ | exact Or.inr ⟨rfl, rfl⟩) rfl f18 (by decide) ⟨by omega, by omega⟩ rfl ?_
  have f19 := Fr.mono (n' := 11) f18 (by omega)
  refine cn_putR (pc := 83) dX11_init_83 fl_X11_80 (by omega) rfl rfl (fun _ _ _ h => by cases h; first | exact Or.inl rfl | exact Or.inr ⟨rfl, rfl, rfl⟩) ?_
  have f20 := Fr.ur (q := 0) (j := 12) (w := some (10)) f19 (by omega)
  refine ab_aload_n (pc := 86) dX11_init_86 rfl rfl ?_
  refine ab_bipush (pc := 87) (v := nI 12) dX11_init_87 (by decide) ?_
  refine cn_newa (pc := 89) (n' := 12) (kd := 100) (len := 12) dX11_init_89 htt (by omega) (by first | exact Or.inl ⟨rfl, rfl⟩ | exact Or.inr ⟨rfl, rfl⟩) rfl f20 (by decide) ⟨by omega, by omega⟩ rfl ?_
  have f21 := Fr.mono (n' := 12) f20 (by omega)
  refine cn_putR (pc := 91) dX11_init_91 fl_X11_83 (by omega) rfl rfl (fun _ _ _ h => by cases h; first | exact Or.inl rfl | exact Or.inr ⟨rfl, rfl, rfl⟩) ?_
  have f22 := Fr.ur (q := 0) (j := 13) (w := some (11)) f21 (by omega)
  refine ab_aload_n (pc := 94) dX11_init_94 rfl rfl ?_
  refine ab_bipush (pc := 95) (v := nI 12) dX11_init_95 (by decide) ?_
  refine cn_newa (pc := 97) (n' := 13) (kd := 100) (len := 12) dX11_init_97 htt (by omega) (by first | exact Or.inl ⟨rfl, rfl⟩ | exact Or.inr ⟨rfl, rfl⟩) rfl f22 (by decide) ⟨by omega, by omega⟩ rfl ?_
  have f23 := Fr.mono (n' := 13) f22 (by omega)
  refine cn_putR (pc := 99) dX11_init_99 fl_X11_86 (by omega) rfl rfl (fun _ _ _ h => by cases h; first | exact Or.inl rfl | exact Or.inr ⟨rfl, rfl, rfl⟩) ?_
  have f24 := Fr.ur (q := 0) (j := 14) (w := some (12)) f23 (by omega)
  refine ab_aload_n (pc := 102) dX11_init_102 rfl rfl ?_
  refine ab_bipush (pc := 103) (v := nI 12) dX11_init_103 (by decide) ?_
  refine cn_newa (pc := 105) (n' := 14) (kd := 101) (len := 12) dX11_init_105 htt (by omega) (by first | exact Or.inl ⟨rfl, rfl⟩ | exact Or.inr ⟨rfl, rfl⟩) rfl f24 (by decide) ⟨by omega, by omega⟩ rfl ?_
  have f25 := Fr.mono (n' := 14) f24 (by omega)
  refine cn_putR (pc := 107) dX11_init_107 fl_X11_89 (by omega) rfl rfl (fun _ _ _ h => by cases h; first | exact Or.inl rfl | exact Or.inr ⟨rfl, rfl, rfl⟩) ?_
  have f26 := Fr.ur (q := 0) (j := 15) (w := some (13)) f25 (by omega)
  refine ab_aload_n (pc := 110) dX11_init_110 rfl rfl ?_
  refine ab_bipush (pc := 111) (v := nI 48) dX11_init_111 (by decide) ?_
  refine cn_newa (pc := 113) (n' := 15) (kd := 100) (len := 48) dX11_init_113 htt (by omega) (by first | exact Or.inl ⟨rfl, rfl⟩ | exact Or.inr ⟨rfl, rfl⟩) rfl f26 (by decide) ⟨by omega, by omega⟩ rfl ?_
  have f27 := Fr.mono (n' := 15) f26 (by omega)
  refine cn_putR (pc := 115) dX11_init_115 fl_X11_92 (by omega) rfl rfl (fun _ _ _ h => by cases h; first | exact Or.inl rfl | exact Or.inr ⟨rfl, rfl, rfl⟩) ?_
  have f28 := Fr.ur (q := 0) (j := 16) (w := some (14)) f27 (by omega)
  refine ab_aload_n (pc := 118) dX11_init_118 rfl rfl ?_
  refine ab_bipush (pc := 119) (v := nI 48) dX11_init_119 (by decide) ?_
  refine cn_newa (pc := 121) (n' := 16) (kd := 100) (len := 48) dX11_init_121 htt (by omega) (by first | exact Or.inl ⟨rfl, rfl⟩ | exact Or.inr ⟨rfl, rfl⟩) rfl f28 (by decide) ⟨by omega, by omega⟩ rfl ?_
  have f29 := Fr.mono (n' := 16) f28 (by omega)
  refine cn_putR (pc := 123) dX11_init_123 fl_X11_95 (by omega) rfl rfl (fun _ _ _ h => by cases h; first | exact Or.inl rfl | exact Or.inr ⟨rfl, rfl, rfl⟩) ?_
  have f30 := Fr.ur (q := 0) (j := 17) (w := some (15)) f29 (by omega)
  refine ab_aload_n (pc := 126) dX11_init_126 rfl rfl ?_
  refine ab_bipush (pc := 127) (v := nI 16) dX11_init_127 (by decide) ?_
  refine cn_newa (pc := 129) (n' := 17) (kd := 101) (len := 16) dX11_init_129 htt (by omega) (by first | exact Or.inl ⟨rfl, rfl⟩ | exact Or.inr ⟨rfl, rfl⟩) rfl f30 (by decide) ⟨by omega, by omega⟩ rfl ?_
  have f31 := Fr.mono (n' := 17) f30 (by omega)
  refine cn_putR (pc := 131) dX11_init_131 fl_X11_98 (by omega) rfl rfl (fun _ _ _ h => by cases h; first | exact Or.inl rfl | exact Or.inr ⟨rfl, rfl, rfl⟩) ?_
  have f32 := Fr.ur (q := 0) (j := 18) (w := some (16)) f31 (by omega)
  refine ab_aload_n (pc := 134) dX11_init_134 rfl rfl ?_
  refine ab_bipush (pc := 135) (v := nI 16) dX11_init_135 (by decide) ?_
  refine cn_newa (pc := 137) (n' := 18) (kd := 100) (len := 16) dX11_init_137 htt (by omega) (by first | exact Or.inl ⟨rfl, rfl⟩ | exact Or.inr ⟨rfl, rfl⟩) rfl f32 (by decide) ⟨by omega, by omega⟩ rfl ?_
  have f33 := Fr.mono (n' := 18) f32 (by omega)
  refine cn_putR (pc := 139) dX11_init_139 fl_X11_101 (by omega) rfl rfl (fun _ _ _ h => by cases h; first | exact Or.inl rfl | exact Or.inr ⟨rfl, rfl, rfl⟩) ?_
  have f34 := Fr.ur (q := 0) (j := 19) (w := some (17)) f33 (by omega)
  refine ab_aload_n (pc := 142) dX11_init_142 rfl rfl ?_
  refine ab_bipush (pc := 143) (v := nI 64) dX11_init_143 (by decide) ?_
  refine cn_newa (pc := 145) (n' := 19) (kd := 100) (len := 64) dX11_init_145 htt (by omega) (by first | exact Or.inl ⟨rfl, rfl⟩ | exact Or.inr ⟨rfl, rfl⟩) rfl f34 (by decide) ⟨by omega, by omega⟩ rfl ?_
  have f35 := Fr.mono (n' := 19) f34 (by omega)
  refine cn_putR (pc := 147) dX11_init_147 fl_X11_104 (by omega) rfl rfl (fun _ _ _ h => by cases h; first | exact Or.inl rfl | exact Or.inr ⟨rfl, rfl, rfl⟩) ?_
  have f36 := Fr.ur (q := 0) (j := 20) (w := some (18)) f35 (by omega)
  refine ab_aload_n (pc := 150) dX11_init_150 rfl rfl ?_
  refine ab_bipush (pc := 151) (v := nI 24) dX11_init_151 (by decide) ?_
  refine cn_newa (pc := 153) (n' := 20) (kd := 101) (len := 24) dX11_init_153 htt (by omega) (by first | exact Or.inl ⟨rfl, rfl⟩ | exact Or.inr ⟨rfl, rfl⟩) rfl f36 (by decide) ⟨by omega, by omega⟩ rfl ?_
  have f37 := Fr.mono (n' := 20) f36 (by omega)
  refine cn_putR (pc := 155) dX11_init_155 fl_X11_107 (by omega) rfl rfl (fun _ _ _ h => by cases h; first | exact Or.inl rfl | exact Or.inr ⟨rfl, rfl, rfl⟩) ?_
  have f38 := Fr.ur (q := 0) (j := 21) (w := some (19)) f37 (by omega)
  refine ab_aload_n (pc := 158) dX11_init_158 rfl rfl ?_
  refine ab_sipush (pc := 159) (v := nI 192) dX11_init_159 (by decide) ?_
  refine cn_newa (pc := 162) (n' := 21) (kd := 100) (len := 192) dX11_init_162 htt (by omega) (by first | exact Or.inl ⟨rfl, rfl⟩ | exact Or.inr ⟨rfl, rfl⟩) rfl f38 (by decide) ⟨by omega, by omega⟩ rfl ?_
  have f39 := Fr.mono (n' := 21) f38 (by omega)
  refine cn_putR (pc := 164) dX11_init_164 fl_X11_110 (by omega) rfl rfl (fun _ _ _ h => by cases h; first | exact Or.inl rfl | exact Or.inr ⟨rfl, rfl, rfl⟩) ?_
  have f40 := Fr.ur (q := 0) (j := 22) (w := some (20)) f39 (by omega)
  refine ab_aload_n (pc := 167) dX11_init_167 rfl rfl ?_
  refine ab_iconst (pc := 168) (v := nI 1) dX11_init_168 (by decide) ?_
  refine cn_putI (pc := 169) dX11_init_169 fl_X11_15 (by omega) rfl rfl (fun _ _ _ h => by cases h; first | exact Or.inl rfl | exact Or.inr ⟨rfl, rfl, rfl⟩) (by first | exact ab_ok_i _ | exact ab_ok_b (Or.inr rfl)) ?_
  have f41 := Fr.ui (q := 0) (j := 23) (v := nI 1) f40 (by omega)
  refine ab_aload_n (pc := 172) dX11_init_172 rfl rfl ?_
  refine ab_iconst (pc := 173) (v := nI 1) dX11_init_173 (by decide) ?_
  refine cn_putI (pc := 174) dX11_init_174 fl_X11_35 (by omega) rfl rfl (fun _ _ _ h => by cases h; first | exact Or.inl rfl | exact Or.inr ⟨rfl, rfl, rfl⟩) (by first | exact ab_ok_i _ | exact ab_ok_b (Or.inr rfl)) ?_
  have f42 := Fr.ui (q := 0) (j := 25) (v := nI 1) f41 (by omega)
  refine ab_aload_n (pc := 177) dX11_init_177 rfl rfl ?_
  refine ab_bipush (pc := 178) (v := nI 8) dX11_init_178 (by decide) ?_
  refine cn_newa (pc := 180) (n' := 22) (kd := 100) (len := 8) dX11_init_180 htt (by omega) (by first | exact Or.inl ⟨rfl, rfl⟩ | exact Or.inr ⟨rfl, rfl⟩) rfl f42 (by decide) ⟨by omega, by omega⟩ rfl ?_
  have f43 := Fr.mono (n' := 22) f42 (by omega)
  refine cn_putR (pc := 182) dX11_init_182 fl_X11_113 (by omega) rfl rfl (fun _ _ _ h => by cases h; first | exact Or.inl rfl | exact Or.inr ⟨rfl, rfl, rfl⟩) ?_
  have f44 := Fr.ur (q := 0) (j := 29) (w := some (21)) f43 (by omega)
  refine ab_aload_n (pc := 185) dX11_init_185 rfl rfl ?_
  refine ab_iconst (pc := 186) (v := nI 1) dX11_init_186 (by decide) ?_
  refine cn_putI (pc := 187) dX11_init_187 fl_X11_32 (by omega) rfl rfl (fun _ _ _ h => by cases h; first | exact Or.inl rfl | exact Or.inr ⟨rfl, rfl, rfl⟩) (by first | exact ab_ok_i _ | exact ab_ok_b (Or.inr rfl)) ?_
  have f45 := Fr.ui (q := 0) (j := 34) (v := nI 1) f44 (by omega)
  refine ab_aload_n (pc := 190) dX11_init_190 rfl rfl ?_
  refine ab_bipush (pc := 191) (v := nI 8) dX11_init_191 (by decide) ?_
  refine cn_newa (pc := 193) (n' := 23) (kd := 100) (len := 8) dX11_init_193 htt (by omega) (by first | exact Or.inl ⟨rfl, rfl⟩ | exact Or.inr ⟨rfl, rfl⟩) rfl f45 (by decide) ⟨by omega, by omega⟩ rfl ?_
  have f46 := Fr.mono (n' := 23) f45 (by omega)
  refine cn_putR (pc := 195) dX11_init_195 fl_X11_116 (by omega) rfl rfl (fun _ _ _ h => by cases h; first | exact Or.inl rfl | exact Or.inr ⟨rfl, rfl, rfl⟩) ?_
  have f47 := Fr.ur (q := 0) (j := 42) (w := some (22)) f46 (by omega)
  refine ab_iconst (pc := 198) (v := nI 0) dX11_init_198 (by decide) ?_
  refine ab_istore_n (pc := 199) dX11_init_199 rfl (Nat.le_of_ble_eq_true rfl) rfl ?_
  exact l_X11a 12 0 rfl
