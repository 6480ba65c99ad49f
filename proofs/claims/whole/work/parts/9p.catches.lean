/-! ===== the law's own method, on the road where band throws ===== -/
theorem sb_old {s t : State} {k n : Nat} (h : s.sameButNew t [] k n) : s.heap.size ≤ t.heap.size ∧ ∀ q : Nat, q < s.heap.size → t.heap[q]? = s.heap[q]? := by
  refine ⟨h.2.1, fun q hq => ?_⟩
  obtain ⟨c', h1, h2, h3, h4⟩ := h.2.2.2.2.2 q _ (Array.getElem?_eq_getElem hq)
  have e : c'.slots = (s.heap[q]).slots := by
    apply Array.ext_getElem?
    intro i
    exact h4 i (by simp)
  rw [h1, h2, e, Array.getElem?_eq_getElem hq]
/-- a virtual call that ends in a throw, and the caller's own handler -/
theorem lb_thrown {p : Program} {l : Launch} {e : Env} {R : Room} {s : State} {m : MethodId} {args : Array Value} {below : List Frame} {meth : Method} {c : Code} {T : State} {locs : List Loc} {cells slots : Nat} (X : Stand p l e R s m args below meth c T locs cells slots) (hexec : p.tables.exec = Jvm.exec) {own C nm : String} {index : Nat} {y : MethodName} {bytes : ByteArray} {maxL : Nat} {ret : Option FieldType}
    (hown : s.vm.findClass own = some m.cls) (hlink : (Cond.methodLink own index y).before args s = true) (hinst : (Cond.instanceMethod y).before args s = true) (hsel : (Cond.selects C y y).before args s = true)
    (hcode : (Cond.code y bytes maxL ret).before args s = true) (hy : y.cls ≠ "java/lang/invoke/MethodHandle" ∧ y.cls ≠ "java/lang/invoke/VarHandle")
    {S : Spec} {P : Array Value → State → Prop} {mc ms : Nat} (hM : MetFree l y S P (fun _ _ _ _ _ => True) (fun _ st o t => ∃ (z : Nat) (ce : Cell), o = .threw z ∧ st.WarmedH t.vm ∧ st.sameButNew ({ t with vm := st.vm } : State) [] mc ms ∧ st.heap.size ≤ z ∧ t.heap[z]? = some ce ∧ st.vm.findClass nm = some ce.cls ∧ ce.vm = .none))
    (hframes : S.room.frames + 1 ≤ R.frames) (hlocals : 8 + (maxL + 11) + S.room.locals ≤ R.locals) (hcells : cells + S.room.cells ≤ R.cells) (hslots : slots + S.room.slots ≤ R.slots)
    {b : Addr} {cellB : Cell} (hcell : T.heap[b]? = some cellB) (hobj : cellB.vm.isStatics = false) (hcls : s.vm.findClass C = some cellB.cls)
    {g : JFrame} (hg : g.method = m) (hsize : g.locals.size = c.maxLocals) {argsL rest : List Value} (hlen : ∀ sig, parseMethodDescriptor y.desc = some sig → argsL.length = sig.parameters.length)
    (hstack : g.stack = argsL.reverse ++ .ref b :: rest) (hW : 2 * g.monitorRoom + (rest.map fun v => v.category).sum ≤ 8) (hdg : decode c.code g.pc = .ok (.invokevirtual index, 3))
    (hpre : ∀ vm₁, s.WarmedH vm₁ → S.pre.before (Value.ref b :: argsL).toArray (T.setVm vm₁) = true ∧ (Cond.code y bytes maxL ret).before (Value.ref b :: argsL).toArray (T.setVm vm₁) = true ∧ (Cond.initialized y.cls).before (Value.ref b :: argsL).toArray (T.setVm vm₁) = true)
    (hP : ∀ vm₁ (g' : JFrame) (mk : MethodId), s.WarmedH vm₁ → P (Value.ref b :: argsL).toArray ((T.setVm vm₁).calling g' mk (Value.ref b :: argsL).toArray))
    {x : ExceptionTableEntry} (ht : c.exceptionTable.toList = [x]) (hx : covers x g.pc = true) (h0 : x.catchType ≠ 0) (hcl : (Cond.classLink own x.catchType nm).before args s = true) :
    ∃ (z : Nat) (U : State), Stand p l e R s m args below meth c U locs (cells + mc) (slots + ms) ∧ T.heap.size ≤ U.heap.size ∧ (∀ q : Nat, q < T.heap.size → U.heap[q]? = T.heap[q]?) ∧
      ∀ target, Steps p.tables e below (U.setTop { g with pc := x.handlerPc, stack := [.ref z] }) target → Steps p.tables e below (T.setTop g) target := by
  subst hg
  obtain ⟨mk, methM, hnamed, hmethM, hstM, habM⟩ := Cond.instanceMethod_spec hinst
  obtain ⟨methM', cM, hmethM', -, -, -, -, -, -, hsigM⟩ := Cond.code_spec hnamed hcode
  cases hmethM.symm.trans hmethM'
  obtain ⟨c2, r2, m2, q1, q2, q3, q4, kP, hkP, hkPi⟩ := Cond.selects_spec hsel
  cases hcls.symm.trans q1
  cases (State.methodFound?_of_named hnamed hy).symm.trans q2
  cases hnamed.symm.trans q3
  have hselP : selectMethod e.platform s.vm cellB.cls mk = .method mk := by rw [Launch.admits_selectMethod X.admits]; exact q4
  obtain ⟨vm₁, X₁, hstep₁⟩ := X.invokevirtual hexec hown hlink hnamed hmethM hstM hkP hkPi hy (a := b) (cell := cellB) hcell
    (fun z h => by rw [h] at hobj; cases hobj) hselP hmethM habM hkP hkPi (g := g) rfl (argsL := argsL) (rest := rest) (hlen _ hsigM) hstack hdg
  have hW₁ : s.WarmedH vm₁ := X₁.warmed
  obtain ⟨p1, p2, p3⟩ := hpre vm₁ hW₁
  have hn : (T.setVm vm₁).methodNamed? y = some mk := X₁.named hnamed
  obtain ⟨methY, cY, hmY, hcY, -, hlY, -⟩ := Cond.code_spec hn p2
  obtain ⟨kY, hkY, -⟩ := className_of_methodNamed hn
  have hinitY : kY.init = .initialized := Cond.initialized_spec (findClass_of_methodNamed hn) hkY p3
  have h : At (T.setVm vm₁) g.method c below := X₁.here
  have happ : S.appliesLoose y e.platform ((T.setVm vm₁).calling { g with stack := rest } mk (Value.ref b :: argsL).toArray) = true :=
    Spec.appliesLoose_calling (g := { g with stack := rest }) h hdg hn hkY hinitY
      (X₁.room_calling (g := { g with stack := rest }) (R' := S.room) hsize hmY hcY hframes (by rw [hlY]; show 2 * g.monitorRoom + (rest.map fun v => v.category).sum + _ + _ ≤ _; omega) hcells hslots) p1
  obtain ⟨mid, hmid⟩ := h.above
  have hfr : ((T.setVm vm₁).setTop { g with stack := rest }).frames = (.java { g with stack := rest } :: mid) ++ below := by rw [State.frames_setTop' _ h.top, hmid]; rfl
  obtain ⟨o, s₂, hsteps, -, hend, hq⟩ := Steps.callFree hM p X₁.admits X₁.cas X₁.clock (acts := []) hfr happ (hP vm₁ _ _ hW₁) trivial
  obtain ⟨z, ce, rfl, w1, w2, w3, w4, w5, w6⟩ := hq
  rw [State.frames_setTop' _ h.top, X₁.tail] at hend
  obtain ⟨T', X', v1, v2, v3⟩ := X₁.outOfThrown (g := { g with stack := rest }) (mk := mk) (a := (Value.ref b :: argsL).toArray) rfl hend w1 w2
  have hT' : s₂.heap = T'.heap := by rw [v3]; exact Stand.throwing_heap _ _ _
  obtain ⟨b1, b2⟩ := sb_old v2
  obtain ⟨vm₂, y1, y2, y3⟩ := lb_caught X' z (g := { g with stack := rest }) rfl hown ht hx h0 hcl (by rw [← hT']; exact w4) w6 (by
    have : (T.setVm vm₁).vm.findClass nm = some ce.cls := w5
    rw [← hW₁.alike.findClass]; exact this)
  refine ⟨z, T'.setVm vm₂, by simpa using y2, b1, b2, fun target hs => ?_⟩
  refine hstep₁ _ fun acts => ?_
  rw [doInvoke_state]
  refine hsteps.trans ?_
  rw [v3]
  exact y3 target hs
