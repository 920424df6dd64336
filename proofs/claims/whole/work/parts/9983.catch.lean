/-! a thrown thing is caught by the one row of this method's table, be its entry resolved already or not -/
section CXC
variable {p : Program} {l : Launch} {e : Env} {R : Room} {s : State} {m : MethodId} {args : Array Value} {below : List Frame} {meth : Method} {c : Code} {H : Heap} {locs : List Loc} {cells slots : Nat} {Q : State → Prop}
theorem cx_find {S : State} {f : JFrame} {q : Addr} {row : ExceptionTableEntry} {k : ClassId} {ce : Cell} (hm : S.vm.method? f.method = some meth) (hc : meth.code = some c) (htab : c.exceptionTable.toList = [row]) (hx : covers row f.pc = true) (h0 : row.catchType ≠ 0) (hl : S.vm.ClassLinks e.platform f.method.cls row.catchType k) (hcell : S.heap[q]? = some ce) (hobj : ∀ z, ce.vm ≠ .statics z) (h1 : ∃ z, S.vm.classes[ce.cls]? = some z) (h2 : ∃ z, S.vm.classes[k]? = some z) (hfit : S.vm.assignable ce.cls k = true) (Q : Handler → Pre) (E : CtlPost) (d : Bool) (acts : List Action) :
    Sem.wp (findHandler f q) Q E e d acts S ↔ Q (.found row.handlerPc) d acts (S.setVm (S.vm.noted f.method.cls row.catchType (.cls k))) := by
  rw [W.findHandler_eq hm hc, htab]
  obtain ⟨r1, r2⟩ := (resolveClass_links e.toSetting hl).op (op := VmOp.resolveClass f.method.cls row.catchType) rfl
  have al : S.vm.Alike (S.vm.noted f.method.cls row.catchType (.cls k)) := (Vm.Alike.refl S.vm).noted _ _ _
  obtain ⟨z1, e1⟩ := h1
  obtain ⟨z2, e2⟩ := h2
  obtain ⟨y1, g1, -⟩ := al.2.2 _ _ e1
  obtain ⟨y2, g2, -⟩ := al.2.2 _ _ e2
  have fit2 : (S.vm.noted f.method.cls row.catchType (.cls k)).assignable ce.cls k = true := by rw [al.assignable]; exact hfit
  have hx2 := hx
  simp only [covers] at hx2
  simp [findHandler.go, hx2, h0, r1, r2, hcell, hobj, g1, g2, fit2, VmOp.dirties, VmOp.acts]
theorem cx_catch {own name E : String} {ce : Cell} {q : Addr} {pc : Nat} {ls : Array Slot} {rest : List Value} (hown : s.vm.findClass own = some m.cls) (row : ExceptionTableEntry) (htab : c.exceptionTable.toList = [row]) (hx : covers row pc = true) (h0 : row.catchType ≠ 0)
    (hlink : (Cond.classLink own row.catchType name).before args s = true) (hcast : (Cond.castable E name).before args s = true) (hcell : H[q]? = some ce) (hv : ce.vm = .none) (hcl : s.vm.findClass E = some ce.cls)
    (kk : W p l e R s m args below meth c H locs cells slots Q (F0 m row.handlerPc ls [.ref q])) : vx_W p l e R s m args below meth c H locs cells slots Q (F0 m pc ls rest) q := by
  intro T hT X
  have hpl : e.platform.magicAccessors = ({} : Platform).magicAccessors := by rw [X.admits.platform]
  obtain ⟨c3, c4, hc3, hc4, hasg⟩ := Cond.castable_spec hcast
  cases Option.some.inj (hc3.symm.trans hcl)
  obtain ⟨c5, hc5, hln⟩ := Cond.classLink_spec hown hlink e.platform hpl
  cases Option.some.inj (hc4.symm.trans hc5)
  obtain ⟨dk, _, _, kt, hd, _, _, _, _, hkt, _, hopen⟩ := hln.here
  have hW' : s.WarmedH (T.vm.noted m.cls row.catchType (.cls c4)) := X.warmed.noted hd hopen (State.rightAt_cls hln)
  have al := X.warmed.alike
  obtain ⟨kt', hkt', -⟩ := al.2.2 _ _ hkt
  have hfit' : T.vm.assignable ce.cls c4 = true := by rw [al.assignable]; exact hasg
  obtain ⟨t, a1, b1⟩ := kk (T.setVm (T.vm.noted m.cls row.catchType (.cls c4))) hT (X.noted hW')
  refine ⟨t, ?_, b1⟩
  have hF := cx_find (e := e) (S := (T.setTop (F0 m pc ls rest)).pushFrame (.throwing q)) (f := F0 m pc ls rest) (q := q) (row := row) (k := c4) (ce := ce) (meth := meth) (c := c) X.method' X.code htab hx h0 (X.warmed.classLinks hln) (by show T.heap[q]? = some ce; rw [hT]; exact hcell) (VmData.ne_statics_of (by rw [hv]; rfl)) (Vm.classAt_of_assignable hfit' ⟨kt', hkt'⟩) ⟨kt', hkt'⟩ hfit'
  have hA : At T (F0 m pc ls rest).method c below := X.here
  obtain ⟨hgo, hw⟩ := hA.throwing q
  refine Steps.head hgo hw ?_
  have hst : (stepThrowing e ((T.setTop (F0 m pc ls rest)).pushFrame (.throwing q)) q (.java (F0 m pc ls rest) :: T.frames.tail)).Is ((((T.setTop (F0 m pc ls rest)).pushFrame (.throwing q)).setVm (T.vm.noted m.cls row.catchType (.cls c4))).setFrames (.java { (F0 m pc ls rest) with pc := row.handlerPc, stack := [.ref q] } :: T.frames.tail)) [] := by
    simp only [stepThrowing, searchFrame, vmDo]
    generalize hr : Sem.go _ e false [] _ = res
    obtain ⟨as, rfl, ha⟩ := Sem.eq_ok_of hr (a := Handler.found row.handlerPc) (s' := ((T.setTop (F0 m pc ls rest)).pushFrame (.throwing q)).setVm (T.vm.noted m.cls row.catchType (.cls c4))) (acts' := []) (by simp [hF _ _ _ _]; rfl)
    exact ⟨rfl, ha⟩
  rw [stepThread_throwing (frames_entered hA.top _), hst.1]
  obtain ⟨g₀, hg⟩ := Option.isSome_iff_exists.mp hA.top
  obtain ⟨r, hr⟩ := State.topJava?_eq_some.mp hg
  have hr' : (T.setVm (T.vm.noted m.cls row.catchType (.cls c4))).frames = .java g₀ :: r := hr
  have hset : ∀ (U : State) (v : Vm) (F G : List Frame), ((U.setFrames F).setVm v).setFrames G = (U.setVm v).setFrames G := fun U v F G => by
    have h1 : (U.setFrames F).setVm v = (U.setVm v).setFrames F := rfl
    rw [h1, State.setFrames_setFrames]
  have a2 := a1
  rw [show F0 m row.handlerPc ls [.ref q] = { (F0 m pc ls rest) with pc := row.handlerPc, stack := [.ref q] } from rfl, State.setTop_of_frames _ hr'] at a2
  rw [hr, List.tail_cons, State.pushFrame, hset, State.setTop_of_frames _ hr, hset]
  exact a2
end CXC
