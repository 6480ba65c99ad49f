/-! ===== the handler of the law's own method; its class may not be looked up yet ===== -/
/-- what lay above the frame is gone, the frame is laid anew -/
theorem ct_land {s : State} {x : Frame} {g g' : JFrame} {vm : Vm} (hs : s.topJava?.isSome) : (((s.setTop g).pushFrame x).setVm vm).setFrames (.java g' :: s.frames.tail) = (s.setVm vm).setTop g' := by
  have h2 : (s.setVm vm).topJava?.isSome := hs
  rw [← setFrames_entered (s := s.setVm vm) (g := g') h2 x]
  show (((s.setVm vm).setTop g).pushFrame x).setFrames _ = (((s.setVm vm).setTop g').pushFrame x).setFrames _
  rw [State.setFrames_pushFrame, State.setFrames_pushFrame, State.setFrames_setTop h2, State.setFrames_setTop h2]
  rfl
/-- a table of one row that covers the place: looking its class up may note it in the tables, nothing else -/
theorem ct_hit {e : Env} {u : State} {g : JFrame} {c : Code} {meth : Method} {a : Addr} {x : ExceptionTableEntry} {cT : ClassId} {vm : Vm} {ce : Cell} (m1 : u.vm.method? g.method = some meth) (m2 : meth.code = some c) (m3 : c.exceptionTable.toList = [x]) (x1 : (decide (x.startPc ≤ g.pc) && decide (g.pc < x.endPc)) = true) (x2 : x.catchType ≠ 0) (r1 : (Jvm.resolveClass g.method.cls x.catchType).Gives e.toSetting u.vm (.ok cT) vm) (r2 : vm.classes.size ≤ u.vm.classes.size) (o1 : u.heap[a]? = some ce) (o2 : ∀ k, ce.vm ≠ .statics k) (o3 : ∃ k, vm.classes[ce.cls]? = some k) (o4 : ∃ k, vm.classes[cT]? = some k) (o5 : vm.assignable ce.cls cT = true) (r : List Frame) :
    (stepThrowing e u a (.java g :: r)).1 = (u.setVm vm).setFrames (.java { g with pc := x.handlerPc, stack := [.ref a] } :: r) := by
  have lk := r1.op (op := VmOp.resolveClass g.method.cls x.catchType) rfl
  show (searchFrame e u [] a g g r).1 = _
  unfold searchFrame vmDo
  generalize q : Sem.go _ e false [] u = res
  have hit := Sem.eq_ok_of q (a := Handler.found x.handlerPc) (s' := u.setVm vm) (acts' := []) (by
    simp [W.findHandler_eq m1 m2, m3, findHandler.go, x1, x2, lk.1, lk.2, r2, o1, o2, o3, o4, o5, VmOp.dirties, VmOp.acts])
  obtain ⟨w, h, -⟩ := hit
  rw [h]
theorem lb_caught {p : Program} {l : Launch} {e : Env} {R : Room} {s : State} {m : MethodId} {args : Array Value} {below : List Frame} {meth : Method} {c : Code} {T : State} {locs : List Loc} {cells slots : Nat} {ls : Array Slot} {st : List Value} {z : Nat} {ce : Cell} {x : ExceptionTableEntry} (X : Stand p l e R s m args below meth c T locs cells slots) (hown : s.vm.findClass R_law = some m.cls) (hk : (Cond.classLink R_law 13 nseN).before args s = true) (ht : c.exceptionTable.toList = [x]) (hx : x.startPc = 0 ∧ x.endPc = 10 ∧ x.handlerPc = 13 ∧ x.catchType = 13) (o1 : T.heap[z]? = some ce) (o2 : ce.vm = .none) (o3 : s.vm.findClass nseN = some ce.cls) :
    ∃ vm, Stand p l e R s m args below meth c (T.setVm vm) locs cells slots ∧ ∀ t, Steps p.tables e below ((T.setVm vm).setTop (F0 m 13 ls [.ref z])) t → Steps p.tables e below ((T.setTop (F0 m 5 ls st)).pushFrame (.throwing z)) t := by
  obtain ⟨x1, x2, x3, x4⟩ := hx
  obtain ⟨q, q1, q2⟩ := Cond.classLink_spec hown hk e.platform (by rw [X.admits.platform])
  have e1 : ce.cls = q := Option.some.inj (o3.symm.trans q1)
  obtain ⟨g1, g2, -⟩ := State.classEntry (e := e) X.warmed q2
  have k1 : ∃ k, (T.vm.noted m.cls 13 (.cls q)).classes[ce.cls]? = some k := Vm.classAt_of_findClass (by rw [g2.alike.findClass]; exact o3)
  have fit : (T.vm.noted m.cls 13 (.cls q)).assignable ce.cls q = true := by
    rw [e1]
    show Vm.assignableAux _ (255 + 1) q q = true
    rw [Vm.assignableAux, Bool.or_eq_true, beq_iff_eq]
    exact Or.inl rfl
  refine ⟨_, X.noted g2, fun t k => ?_⟩
  have h : At T (F0 m 5 ls st).method c below := X.here
  refine Steps.head (h.throwing z).1 (h.throwing z).2 ?_
  rw [stepThread_throwing (frames_entered h.top _), ct_hit (g := F0 m 5 ls st) (c := c) (meth := meth) (x := x) (cT := q) (vm := T.vm.noted m.cls 13 (.cls q)) (ce := ce) (by rw [Stand.throwing_vm]; exact X.method') X.code ht (by rw [x1, x2]; rfl) (by rw [x4]; decide) (by rw [Stand.throwing_vm, x4]; exact g1) (by rw [Stand.throwing_vm]; simp) (by rw [Stand.throwing_heap]; exact o1) (fun k y => by rw [o2] at y; cases y) k1 (by rw [e1] at k1; exact k1) fit, ct_land h.top, x3]
  exact k
