/-! look's throws, and the law's look, which catches them -/
section CATCH
/-- one row of the table that covers the place: its class takes what was thrown, or the search goes on -/
theorem y_goY {Q : Handler → Pre} {CP : CtlPost} {e : Env} {d : Bool} {acts : List Action} {S : State} {f : JFrame} {a : Addr} {x : ExceptionTableEntry} {t : List ExceptionTableEntry} {k : ClassId} {cell : Cell} (hx : covers x f.pc = true) (h0 : x.catchType ≠ 0) (hl : S.vm.ClassLinks e.platform f.method.cls x.catchType k) (hcell : S.heap[a]? = some cell) (hobj : ∀ q, cell.vm ≠ .statics q) (hk1 : ∃ q, S.vm.classes[cell.cls]? = some q) (hk2 : ∃ q, S.vm.classes[k]? = some q) (hf : S.vm.assignable cell.cls k = true) :
    wp (findHandler.go f a (x :: t)) Q CP e d acts S ↔ Q (.found x.handlerPc) d acts (S.setVm (S.vm.noted f.method.cls x.catchType (.cls k))) := by
  simp only [covers] at hx
  obtain ⟨ha, ht⟩ := (resolveClass_links e.toSetting hl).op (op := VmOp.resolveClass f.method.cls x.catchType) rfl
  have hal : S.vm.Alike (S.vm.noted f.method.cls x.catchType (.cls k)) := (Vm.Alike.refl S.vm).noted _ _ _
  obtain ⟨q1, hq1⟩ := hk1
  obtain ⟨q2, hq2⟩ := hk2
  obtain ⟨q1', hq1', -⟩ := hal.2.2 _ _ hq1
  obtain ⟨q2', hq2', -⟩ := hal.2.2 _ _ hq2
  have hfit : (S.vm.noted f.method.cls x.catchType (.cls k)).assignable cell.cls k = true := by rw [hal.assignable]; exact hf
  simp [findHandler.go, hx, h0, ha, ht, hcell, hobj, hq1', hq2', hfit, VmOp.dirties, VmOp.acts]
theorem y_goN {Q : Handler → Pre} {CP : CtlPost} {e : Env} {d : Bool} {acts : List Action} {S : State} {f : JFrame} {a : Addr} {x : ExceptionTableEntry} {t : List ExceptionTableEntry} {k : ClassId} {cell : Cell} (hx : covers x f.pc = true) (h0 : x.catchType ≠ 0) (hl : S.vm.ClassLinks e.platform f.method.cls x.catchType k) (hcell : S.heap[a]? = some cell) (hobj : ∀ q, cell.vm ≠ .statics q) (hk1 : ∃ q, S.vm.classes[cell.cls]? = some q) (hk2 : ∃ q, S.vm.classes[k]? = some q) (hf : S.vm.assignable cell.cls k = false) :
    wp (findHandler.go f a (x :: t)) Q CP e d acts S ↔ wp (findHandler.go f a t) Q CP e d acts (S.setVm (S.vm.noted f.method.cls x.catchType (.cls k))) := by
  simp only [covers] at hx
  obtain ⟨ha, ht⟩ := (resolveClass_links e.toSetting hl).op (op := VmOp.resolveClass f.method.cls x.catchType) rfl
  have hal : S.vm.Alike (S.vm.noted f.method.cls x.catchType (.cls k)) := (Vm.Alike.refl S.vm).noted _ _ _
  obtain ⟨q1, hq1⟩ := hk1
  obtain ⟨q2, hq2⟩ := hk2
  obtain ⟨q1', hq1', -⟩ := hal.2.2 _ _ hq1
  obtain ⟨q2', hq2', -⟩ := hal.2.2 _ _ hq2
  have hfit : (S.vm.noted f.method.cls x.catchType (.cls k)).assignable cell.cls k = false := by rw [hal.assignable]; exact hf
  simp [findHandler.go, hx, h0, ha, ht, hcell, hobj, hq1', hq2', hfit, VmOp.dirties, VmOp.acts]
/-- the search ends at that place, and leaves these tables -/
def yFind (e : Env) (S : State) (f : JFrame) (a : Addr) (pc : Nat) (vm' : Vm) : Prop := ∀ (Q : Handler → Pre) (CP : CtlPost) (d : Bool) (acts : List Action), wp (findHandler f a) Q CP e d acts S ↔ Q (.found pc) d acts (S.setVm vm')
theorem y_find1 {e : Env} {s S : State} {f : JFrame} {a : Addr} {meth : Method} {code : Code} {cell : Cell} (hm : S.vm.method? f.method = some meth) (hc : meth.code = some code) (hW : s.WarmedH S.vm) (hcell : S.heap[a]? = some cell) (hobj : ∀ q, cell.vm ≠ .statics q) (hk : ∃ q, s.vm.classes[cell.cls]? = some q)
    {x : ExceptionTableEntry} {rest : List ExceptionTableEntry} (ht : code.exceptionTable.toList = x :: rest) (hx : covers x f.pc = true) (h0 : x.catchType ≠ 0) {k : ClassId} (hl : s.vm.ClassLinks e.platform f.method.cls x.catchType k) (hfit : s.vm.assignable cell.cls k = true) : ∃ vm', s.WarmedH vm' ∧ yFind e S f a x.handlerPc vm' := by
  obtain ⟨q0, hq0⟩ := hk
  obtain ⟨q1, hq1, -⟩ := hW.alike.2.2 _ _ hq0
  obtain ⟨dk, _, _, kt, hd, _, _, _, _, hkt, _, hopen⟩ := hl.here
  obtain ⟨kt', hkt', -⟩ := hW.alike.2.2 _ _ hkt
  refine ⟨_, hW.noted hd hopen (State.rightAt_cls hl), fun Q CP d acts => ?_⟩
  rw [W.findHandler_eq hm hc, ht, y_goY hx h0 (hW.classLinks hl) hcell hobj ⟨q1, hq1⟩ ⟨kt', hkt'⟩ (by rw [hW.alike.assignable]; exact hfit)]
theorem y_find2 {e : Env} {s S : State} {f : JFrame} {a : Addr} {meth : Method} {code : Code} {cell : Cell} (hm : S.vm.method? f.method = some meth) (hc : meth.code = some code) (hW : s.WarmedH S.vm) (hcell : S.heap[a]? = some cell) (hobj : ∀ q, cell.vm ≠ .statics q) (hk : ∃ q, s.vm.classes[cell.cls]? = some q)
    {x y : ExceptionTableEntry} {rest : List ExceptionTableEntry} (ht : code.exceptionTable.toList = x :: y :: rest) (hx : covers x f.pc = true) (hx0 : x.catchType ≠ 0) {j : ClassId} (hj : s.vm.ClassLinks e.platform f.method.cls x.catchType j) (hno : s.vm.assignable cell.cls j = false)
    (hy : covers y f.pc = true) (h0 : y.catchType ≠ 0) {k : ClassId} (hl : s.vm.ClassLinks e.platform f.method.cls y.catchType k) (hfit : s.vm.assignable cell.cls k = true) : ∃ vm', s.WarmedH vm' ∧ yFind e S f a y.handlerPc vm' := by
  obtain ⟨q0, hq0⟩ := hk
  obtain ⟨q1, hq1, -⟩ := hW.alike.2.2 _ _ hq0
  obtain ⟨dj, _, _, kj, hdj, _, _, _, _, hkj, _, hopj⟩ := hj.here
  obtain ⟨kj', hkj', -⟩ := hW.alike.2.2 _ _ hkj
  have hW1 : s.WarmedH (S.setVm (S.vm.noted f.method.cls x.catchType (.cls j))).vm := hW.noted hdj hopj (State.rightAt_cls hj)
  obtain ⟨q2, hq2, -⟩ := hW1.alike.2.2 _ _ hq0
  obtain ⟨dk, _, _, kt, hd, _, _, _, _, hkt, _, hopen⟩ := hl.here
  obtain ⟨kt', hkt', -⟩ := hW1.alike.2.2 _ _ hkt
  refine ⟨_, hW1.noted hd hopen (State.rightAt_cls hl), fun Q CP d acts => ?_⟩
  rw [W.findHandler_eq hm hc, ht, y_goN hx hx0 (hW.classLinks hj) hcell hobj ⟨q1, hq1⟩ ⟨kj', hkj'⟩ (by rw [hW.alike.assignable]; exact hno), y_goY hy h0 (hW1.classLinks hl) hcell hobj ⟨q2, hq2⟩ ⟨kt', hkt'⟩ (by rw [hW1.alike.assignable]; exact hfit)]
  exact Iff.rfl
theorem y_step {e : Env} {S : State} {a : Addr} {f : JFrame} {r : List Frame} {pc : Nat} {vm' : Vm} (hfind : yFind e S f a pc vm') : (stepThrowing e S a (.java f :: r)).Is ((S.setVm vm').setFrames (.java { f with pc := pc, stack := [.ref a] } :: r)) [] := by
  simp only [stepThrowing, searchFrame, vmDo]
  generalize hr : Sem.go _ e false [] S = res
  obtain ⟨as, rfl, ha⟩ := Sem.eq_ok_of hr (a := Handler.found pc) (s' := S.setVm vm') (acts' := []) (by simp [hfind _ _ _ _])
  exact ⟨rfl, ha⟩
theorem y_caught {tb : Tables} {e : Env} {s target : State} {g : JFrame} {c : Code} {below : List Frame} {a : Addr} (h : At s g.method c below) {pc : Nat} {vm' : Vm} (hfind : yFind e ((s.setTop g).pushFrame (.throwing a)) g a pc vm') (hrest : Steps tb e below ((s.setVm vm').setTop { g with pc := pc, stack := [.ref a] }) target) : Steps tb e below ((s.setTop g).pushFrame (.throwing a)) target := by
  obtain ⟨hgo, hw⟩ := h.throwing a
  refine Steps.head hgo hw ?_
  rw [stepThread_throwing (frames_entered h.top _), (y_step (S := (s.setTop g).pushFrame (.throwing a)) hfind).1]
  obtain ⟨g0, hg⟩ := Option.isSome_iff_exists.mp h.top
  obtain ⟨r, hr⟩ := State.topJava?_eq_some.mp hg
  have hr' : (s.setVm vm').frames = .java g0 :: r := hr
  have sv : ∀ (u : State) (F G : List Frame), ((u.setFrames F).setVm vm').setFrames G = (u.setVm vm').setFrames G := fun u F G => by
    show ((u.setVm vm').setFrames F).setFrames G = _
    rw [State.setFrames_setFrames]
  rw [State.setTop_of_frames _ hr'] at hrest
  rw [hr, List.tail_cons, State.pushFrame, sv, State.setTop_of_frames _ hr, sv]
  exact hrest
variable {p : Program} {l : Launch} {e : Env} {R : Room} {s : State} {m : MethodId} {args : Array Value} {below : List Frame} {meth : Method} {c : Code} {H : Heap} {locs : List Loc} {cells slots : Nat} {Q : State → Prop} {pc : Nat} {ls : Array Slot} {rest : List Value}
theorem y_catchA {own cls nm : String} {ce : Cell} {q : Addr} {x : ExceptionTableEntry} {xs : List ExceptionTableEntry} (hown : s.vm.findClass own = some m.cls) (ht : c.exceptionTable.toList = x :: xs) (hx : covers x pc = true) (h0 : x.catchType ≠ 0) (hlink : (Cond.classLink own x.catchType nm).before args s = true) (hcast : (Cond.castable cls nm).before args s = true) (hcell : H[q]? = some ce) (hv : ce.vm = .none) (hcl : s.vm.findClass cls = some ce.cls)
    (kk : W p l e R s m args below meth c H locs cells slots Q (F0 m x.handlerPc ls [.ref q])) : vx_W p l e R s m args below meth c H locs cells slots Q (F0 m pc ls rest) q := by
  intro T hT X
  have hpl : e.platform.magicAccessors = ({} : Platform).magicAccessors := by rw [X.admits.platform]
  obtain ⟨c3, c4, hc3, hc4, hasg⟩ := Cond.castable_spec hcast
  cases Option.some.inj (hc3.symm.trans hcl)
  obtain ⟨c5, hc5, hcl5⟩ := Cond.classLink_spec hown hlink e.platform hpl
  cases Option.some.inj (hc4.symm.trans hc5)
  obtain ⟨k9, h9, -⟩ := Vm.findClass_spec hcl
  obtain ⟨vm', hW', hf⟩ := y_find1 (e := e) (s := s) (S := (T.setTop (F0 m pc ls rest)).pushFrame (.throwing q)) (f := F0 m pc ls rest) (a := q) (meth := meth) (code := c) (cell := ce) X.method' X.code X.warmed (by show T.heap[q]? = some ce; rw [hT]; exact hcell) (VmData.ne_statics_of (by rw [hv]; rfl)) ⟨k9, h9⟩ ht hx h0 hcl5 hasg
  obtain ⟨t, a1, b1⟩ := kk (T.setVm vm') hT (X.noted hW')
  exact ⟨t, y_caught X.here hf a1, b1⟩
theorem y_catchB {own cls nx nm : String} {ce : Cell} {q : Addr} {x y : ExceptionTableEntry} {xs : List ExceptionTableEntry} (hown : s.vm.findClass own = some m.cls) (ht : c.exceptionTable.toList = x :: y :: xs) (hx : covers x pc = true) (hx0 : x.catchType ≠ 0) (hlx : (Cond.classLink own x.catchType nx).before args s = true) (hno : va_Nc cls nx s) (hy : covers y pc = true) (h0 : y.catchType ≠ 0) (hlink : (Cond.classLink own y.catchType nm).before args s = true) (hcast : (Cond.castable cls nm).before args s = true) (hcell : H[q]? = some ce) (hv : ce.vm = .none) (hcl : s.vm.findClass cls = some ce.cls)
    (kk : W p l e R s m args below meth c H locs cells slots Q (F0 m y.handlerPc ls [.ref q])) : vx_W p l e R s m args below meth c H locs cells slots Q (F0 m pc ls rest) q := by
  intro T hT X
  have hpl : e.platform.magicAccessors = ({} : Platform).magicAccessors := by rw [X.admits.platform]
  obtain ⟨c3, c4, hc3, hc4, hasg⟩ := Cond.castable_spec hcast
  cases Option.some.inj (hc3.symm.trans hcl)
  obtain ⟨c5, hc5, hcl5⟩ := Cond.classLink_spec hown hlink e.platform hpl
  cases Option.some.inj (hc4.symm.trans hc5)
  obtain ⟨c6, hc6, hcl6⟩ := Cond.classLink_spec hown hlx e.platform hpl
  obtain ⟨a8, b8, n1, n2, n3⟩ := hno
  cases Option.some.inj (n1.symm.trans hcl)
  cases Option.some.inj (n2.symm.trans hc6)
  obtain ⟨k9, h9, -⟩ := Vm.findClass_spec hcl
  obtain ⟨vm', hW', hf⟩ := y_find2 (e := e) (s := s) (S := (T.setTop (F0 m pc ls rest)).pushFrame (.throwing q)) (f := F0 m pc ls rest) (a := q) (meth := meth) (code := c) (cell := ce) X.method' X.code X.warmed (by show T.heap[q]? = some ce; rw [hT]; exact hcell) (VmData.ne_statics_of (by rw [hv]; rfl)) ⟨k9, h9⟩ ht hx hx0 hcl6 n3 hy h0 hcl5 hasg
  obtain ⟨t, a1, b1⟩ := kk (T.setVm vm') hT (X.noted hW')
  exact ⟨t, y_caught X.here hf a1, b1⟩
end CATCH
