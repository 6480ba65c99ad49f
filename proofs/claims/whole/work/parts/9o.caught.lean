/-! ===== a handler of the method's own, its class perhaps not yet resolved ===== -/
theorem ct_step {tb : Tables} {e : Env} {s target : State} {g : JFrame} {c : Code} {below : List Frame} {a : Addr} (h : At s g.method c below) {meth : Method} (hm : s.vm.method? g.method = some meth) (hc : meth.code = some c) {x : ExceptionTableEntry} (ht : c.exceptionTable.toList = [x]) (hx : covers x g.pc = true) (h0 : x.catchType ≠ 0) {cT : ClassId} {vm' : Vm} (hgv : (Jvm.resolveClass g.method.cls x.catchType).Gives e.toSetting s.vm (.ok cT) vm') (hsz : vm'.classes.size ≤ s.vm.classes.size) {cell : Cell} (hcell : s.heap[a]? = some cell) (hobj : ∀ k, cell.vm ≠ .statics k) (hk : ∃ k, vm'.classes[cell.cls]? = some k) (hk2 : ∃ k, vm'.classes[cT]? = some k) (hfit : vm'.assignable cell.cls cT = true)
    (hrest : Steps tb e below ((s.setVm vm').setTop { g with pc := x.handlerPc, stack := [.ref a] }) target) : Steps tb e below ((s.setTop g).pushFrame (.throwing a)) target := by
  obtain ⟨hgo, hw⟩ := h.throwing a
  refine Steps.head hgo hw ?_
  rw [stepThread_throwing (frames_entered h.top _)]
  obtain ⟨g₀, hg₀⟩ := Option.isSome_iff_exists.mp h.top
  obtain ⟨r, hr⟩ := State.topJava?_eq_some.mp hg₀
  obtain ⟨hA, hT⟩ := hgv.op (op := VmOp.resolveClass g.method.cls x.catchType) rfl
  simp only [covers] at hx
  have key : (stepThrowing e ((s.setTop g).pushFrame (.throwing a)) a (.java g :: s.frames.tail)).1 = (((s.setTop g).pushFrame (.throwing a)).setVm vm').setFrames (.java { g with pc := x.handlerPc, stack := [.ref a] } :: s.frames.tail) := by
    have v1 : ((s.setTop g).pushFrame (.throwing a)).vm = s.vm := Stand.throwing_vm s g a
    have v2 : ((s.setTop g).pushFrame (.throwing a)).heap = s.heap := Stand.throwing_heap s g a
    generalize ((s.setTop g).pushFrame (.throwing a)) = u at v1 v2
    rw [← v1] at hm hA hT hsz
    rw [← v2] at hcell
    simp only [stepThrowing, searchFrame, vmDo]
    generalize hres : Sem.go _ e false [] u = res
    obtain ⟨as, rfl, ha⟩ := Sem.eq_ok_of hres (a := Handler.found x.handlerPc) (s' := u.setVm vm') (acts' := []) (by
      simp [W.findHandler_eq hm hc, ht, findHandler.go, hx, h0, hA, hT, hsz, hcell, hobj, hk, hk2, hfit, VmOp.dirties, VmOp.acts])
    rfl
  rw [key]
  rw [State.setTop_of_frames _ (show (s.setVm vm').frames = .java g₀ :: r from hr)] at hrest
  have mv : ∀ (F G : List Frame), ((s.setFrames F).setVm vm').setFrames G = (s.setVm vm').setFrames G := fun F G => by
    rw [show (s.setFrames F).setVm vm' = (s.setVm vm').setFrames F from rfl, State.setFrames_setFrames]
  rw [hr, List.tail_cons, State.setTop_of_frames _ hr, State.pushFrame, State.setFrames_setFrames, mv]
  exact hrest
theorem lb_caught {p : Program} {l : Launch} {e : Env} {R : Room} {s : State} {m : MethodId} {args : Array Value} {below : List Frame} {meth : Method} {c : Code} {T : State} {locs : List Loc} {cells slots : Nat} (X : Stand p l e R s m args below meth c T locs cells slots) (a : Addr) {g : JFrame} (hg : g.method = m) {own name : String} (hown : s.vm.findClass own = some m.cls) {x : ExceptionTableEntry} (ht : c.exceptionTable.toList = [x]) (hx : covers x g.pc = true) (h0 : x.catchType ≠ 0) (hlink : (Cond.classLink own x.catchType name).before args s = true) {cell : Cell} (hcell : T.heap[a]? = some cell) (hobj : cell.vm = .none) (hcls : s.vm.findClass name = some cell.cls) :
    ∃ vm', s.WarmedH vm' ∧ Stand p l e R s m args below meth c (T.setVm vm') locs cells slots ∧ ∀ target, Steps p.tables e below ((T.setVm vm').setTop { g with pc := x.handlerPc, stack := [.ref a] }) target → Steps p.tables e below ((T.setTop g).pushFrame (.throwing a)) target := by
  subst hg
  have hpl : e.platform.magicAccessors = ({} : Platform).magicAccessors := by rw [X.admits.platform]
  obtain ⟨cc, hfcc, hcl⟩ := Cond.classLink_spec hown hlink e.platform hpl
  cases hcls.symm.trans hfcc
  obtain ⟨hg₁, hwarm₁, hready₁⟩ := State.classEntry (e := e) X.warmed hcl
  have hsz : (T.vm.noted g.method.cls x.catchType (.cls cell.cls)).classes.size ≤ T.vm.classes.size := by simp
  generalize T.vm.noted g.method.cls x.catchType (.cls cell.cls) = vm₁ at hg₁ hwarm₁ hready₁ hsz
  have hk : ∃ k, vm₁.classes[cell.cls]? = some k := Vm.classAt_of_findClass (by rw [hwarm₁.alike.findClass]; exact hcls)
  refine ⟨vm₁, hwarm₁, X.noted hwarm₁, fun target hrest => ct_step X.here X.method' X.code ht hx h0 hg₁ hsz hcell (fun k z => by rw [hobj] at z; cases z) hk hk (by show vm₁.assignableAux (255 + 1) cell.cls cell.cls = true; rw [Vm.assignableAux, Bool.or_eq_true, beq_iff_eq]; exact Or.inl rfl) hrest⟩
