/-! ===== the law's own method, on the road where band throws ===== -/
def tRm : Room := { frames := 11, cells := 1, slots := 6, locals := 700 }
theorem sb_old {s t : State} {k n : Nat} (h : s.sameButNew t [] k n) : s.heap.size ≤ t.heap.size ∧ ∀ q : Nat, q < s.heap.size → t.heap[q]? = s.heap[q]? := by
  refine ⟨h.2.1, fun q hq => ?_⟩
  obtain ⟨c', h1, h2, h3, h4⟩ := h.2.2.2.2.2 q _ (Array.getElem?_eq_getElem hq)
  have e : c'.slots = (s.heap[q]).slots := by
    apply Array.ext_getElem?
    intro i
    exact h4 i (by simp)
  rw [h1, h2, e, Array.getElem?_eq_getElem hq]
section LT
variable {p : Program} {l : Launch} {e : Env} {s : State} {m : MethodId} {args : Array Value} {below : List Frame} {meth : Method} {c : Code} {T : State} {ls : Array Slot} {st : List Value}
/-- at 5 it asks PegBands for its band -/
theorem lb_in {R : Room} {locs : List Loc} {cells slots o : Nat} {cb : Cell} {u1 u2 : Value} (X : Stand p l e R s m args below meth c T locs cells slots) (hx : p.tables.exec = Jvm.exec) (hb : c.code = cL_band) (hown : s.vm.findClass R_law = some m.cls) (htg : ∀ w ∈ lw_good, w.before args s = true) (o1 : T.heap[o]? = some cb) (o2 : cb.vm.isStatics = false) (o3 : s.vm.findClass RX12 = some cb.cls) :
    ∃ (vm : Vm) (i : MethodId), s.methodNamed? yX12_band = some i ∧ Stand p l e R s m args below meth c (T.setVm vm) locs cells slots ∧ ∀ t, (∀ acts, Steps p.tables e below (doInvoke e ((T.setVm vm).setTop (F0 m 5 ls st)) acts i #[.ref o, u1, u2]).1 t) → Steps p.tables e below (T.setTop (F0 m 5 ls (u2 :: u1 :: .ref o :: st))) t := by
  obtain ⟨w1, w2, -, w4, -, ⟨d1, d2, d3⟩, -⟩ := ceX12_band
  obtain ⟨i, me, a1, a2, a3, a4⟩ := Cond.instanceMethod_spec (htg _ w1)
  obtain ⟨me2, -, b1, -, -, -, -, -, -, b2⟩ := Cond.code_spec a1 (htg _ w4)
  obtain ⟨k, i1, i2, s1, s2, s3, s4, kc, s5, s6⟩ := Cond.selects_spec (htg _ w2)
  have f1 : k = cb.cls := Option.some.inj (s1.symm.trans o3)
  have f2 : i1 = i := Option.some.inj (s2.symm.trans (State.methodFound?_of_named a1 ⟨d1, d2⟩))
  have f3 : i2 = i := Option.some.inj (s3.symm.trans a1)
  have f4 : me2 = me := Option.some.inj (b1.symm.trans a2)
  rw [f1, f2, f3] at s4
  rw [f3] at s5
  have n2 : ([u1, u2] : List Value).length = me.sig.parameters.length := by
    rw [b2, f4] at d3
    exact (Option.some.inj d3).symm
  obtain ⟨vm, Y, go⟩ := X.invokevirtual hx hown (htg _ mlL_7) a1 a2 a3 s5 s6 ⟨d1, d2⟩ o1 (fun q hq => by rw [hq] at o2; cases o2) (by rw [Launch.admits_selectMethod X.admits]; exact s4) a2 a4 s5 s6 (g := F0 m 5 ls (u2 :: u1 :: .ref o :: st)) rfl (rest := st) n2 rfl (by rw [hb]; exact dc dkL_band 5 rfl)
  exact ⟨vm, i, a1, Y, go⟩
set_option maxRecDepth 100000 in
/-- band is walked where it was called, and throws -/
theorem lb_thrown {A : Nat → Prop} {ad : Nat → Nat} {D : va_G} {cA : Nat → ClassId} {σ : jS} {x w : Int} {i : MethodId} (Y : Stand p l e tRm s m args below meth c T [] 0 0) (hx : p.tables.exec = Jvm.exec) (hfl : l.stackTraces = false) (hb : c.code = cL_band) (hz : ls.size = c.maxLocals) (hst : (st.map fun v => v.category).sum ≤ 8) (htg : ∀ w ∈ lw_good, w.before args s = true) (hi : s.methodNamed? yX12_band = some i) (hT : T.heap = s.heap) (hP : va_P D vwCl (jWs ad cA σ) s.heap) (hK : va_K D vwCl (jTys cA) s) (hth : thr A s) (h8 : 0 ≤ σ 30 0 ∧ σ 30 0 ≤ 8) (hix : iR x) (hiw : iR w) (hG : ¬ ((0 ≤ x ∧ x < σ 30 0) ∧ 0 ≤ w ∧ w ≤ 6)) :
    ∃ (z : Nat) (ce : Cell) (U : State), Stand p l e tRm s m args below meth c U [] 1 6 ∧ (s.heap.size ≤ U.heap.size ∧ ∀ q : Nat, q < s.heap.size → U.heap[q]? = s.heap[q]?) ∧ (U.heap[z]? = some ce ∧ ce.vm = .none ∧ s.vm.findClass nseN = some ce.cls) ∧ ∀ acts, Steps p.tables e below (doInvoke e (T.setTop (F0 m 5 ls st)) acts i #[.ref (ad 0), vI x, vI w]).1 ((U.setTop (F0 m 5 ls st)).pushFrame (.throwing z)) := by
  have pay := pay_in htg (lw_good_good (ws := lw_good) (fun _ h => h))
  have hn : T.methodNamed? yX12_band = some i := Y.named hi
  obtain ⟨me, co, a1, a2, a3, a4, -, a5, a6, -⟩ := Cond.code_spec hn (pay _ ceX12_band.2.2.2.1 #[] T Y.warmed)
  have m4 : co.maxLocals = 4 := a4
  obtain ⟨F, hF⟩ : ∃ F : Array Value, F = #[.ref (ad 0), vI x, vI w] := ⟨_, rfl⟩
  obtain ⟨ls2, hl, he⟩ : ∃ ls2 : Array Slot, lv_has ls2 4 [(0, .ref (ad 0)), (1, vI x), (2, vI w)] ∧ entryFrame i F co.maxLocals = F0 i 0 ls2 [] :=
    ⟨_, lv_entry [.ref (ad 0), vI x, vI w] (n := 4) (Nat.le_of_ble_eq_true rfl), by rw [m4, hF]; exact lg_entry_eq i _ _⟩
  have roomy : 2 * (F0 m 5 ls st).monitorRoom + ((F0 m 5 ls st).stack.map fun v => v.category).sum + (co.maxLocals + 11) + 600 ≤ 700 := by
    have : 2 * (F0 m 5 ls st).monitorRoom + (st.map fun v => v.category).sum ≤ 8 := lv_room hst
    rw [m4]
    show 2 * (F0 m 5 ls st).monitorRoom + (st.map fun v => v.category).sum + (4 + 11) + 600 ≤ 700
    omega
  obtain ⟨Z, go⟩ := Y.into (g := F0 m 5 ls st) rfl hz (by rw [hb]; exact dc dkL_band 5 rfl) F (R' := { frames := 10, cells := 1, slots := 6, locals := 600 }) a1 a2 a5 (State.plainMethod.of_named (plainFor_of_name (by decide)) hn a1) (Nat.le_of_ble_eq_true rfl) roomy (Nat.le_of_ble_eq_true rfl) (Nat.le_of_ble_eq_true rfl)
  rw [he] at Z go
  have heaps : ((T.setTop (F0 m 5 ls st)).pushFrame (.java (F0 i 0 ls2 []))).heap = (T.calling (F0 m 5 ls st) i F).heap := rfl
  have w1 : ∀ w ∈ lw_good, w.before F (T.calling (F0 m 5 ls st) i F) = true := fun w h => pay w h F _ Y.warmed
  have w2 : thr A (T.calling (F0 m 5 ls st) i F) := thr.call (U := T) (thr.go hth Y.warmed (fun q _ _ => by rw [hT])) rfl rfl
  have w3 : va_P D vwCl (jWs ad cA σ) (T.calling (F0 m 5 ls st) i F).heap := by
    show va_P D vwCl (jWs ad cA σ) T.heap
    rw [hT]
    exact hP
  have w4 : va_K D vwCl (jTys cA) (T.calling (F0 m 5 ls st) i F) := va_K.moved (u := T) (Vm.Alike.refl T.vm) (va_K.moved Y.warmed.alike hK)
  have w5 : (T.calling (F0 m 5 ls st) i F).vm.findClass RX12 = some i.cls := findClass_of_methodNamed hn
  obtain ⟨t, b1, z, ce, -, b3, b4, b5, -, b7, b8, b9⟩ := tb_0 (l := l) (e := e) (s := T.calling (F0 m 5 ls st) i F) (args := F) (below := .java (F0 m 5 ls st) :: below) hx a3 m4 w5 w1 w2 hfl a5 a6 w3 w4 h8 hix hiw hG hl _ heaps Z
  obtain ⟨U, V, -, v2, v3⟩ := Y.outOfThrown (g := F0 m 5 ls st) rfl b3 b4 b5
  have old := sb_old v2
  have hU : t.heap = U.heap := by rw [v3]; exact Stand.throwing_heap _ _ _
  have cls : T.vm.findClass nseN = some ce.cls := b8
  refine ⟨z, ce, U, V, by rw [hT] at old; exact old, ⟨by rw [← hU]; exact b7, b9, by rw [← Y.warmed.alike.findClass]; exact cls⟩, fun acts => ?_⟩
  rw [← hF, go acts, ← v3]
  exact Steps.weaken (mid := [.java (F0 m 5 ls st)]) b1
end LT
