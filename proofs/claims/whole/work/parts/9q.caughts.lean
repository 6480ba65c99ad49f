/-! ===== the contract of the law's own method, thrown and caught ===== -/
def tQc : Array Value → State → Outcome → State → Prop := fun _ st o t => o = .returned (some (vI 1)) ∧ st.heap.size ≤ t.heap.size ∧ ∀ q : Nat, q < st.heap.size → t.heap[q]? = st.heap[q]?
def tAt (ad : Nat → Nat) (A : Nat → Prop) (D : va_G) (cA : Nat → ClassId) (σ : jS) (U : State) : Prop := va_P D vwCl (jWs ad cA σ) U.heap ∧ va_K D vwCl (jTys cA) U ∧ thr A U
theorem tblind (av : List Value) (ad : Nat → Nat) (A : Nat → Prop) (D : va_G) (cA : Nat → ClassId) (σ : jS) : FrameBlind (va_Pc av (tAt ad A D cA σ)) :=
  fun a U g mk q => ⟨q.1, q.2.1, va_K.moved (u := U) (U := U.calling g mk a) (Vm.Alike.refl U.vm) q.2.2.1, q.2.2.2.call rfl rfl⟩
set_option maxRecDepth 100000 in
set_option maxHeartbeats 4000000 in
theorem lb_bad (l : Launch) (hfl : l.stackTraces = false) (ad : Nat → Nat) (A : Nat → Prop) (D : va_G) (cA : Nat → ClassId) {σ : jS} {x w : Int} (h8 : 0 ≤ σ 30 0 ∧ σ 30 0 ≤ 8) (hix : iR x) (hiw : iR w) (hG : ¬ ((0 ≤ x ∧ x < σ 30 0) ∧ 0 ≤ w ∧ w ≤ 6)) : Met l yL_band jWw tRm (va_Pc [.ref (ad 0), vI x, vI w, .ref (ad 139)] (tAt ad A D cA σ)) tQc 1 6 A := by
  refine MetFree.of_bodySF (code := cL_band) (maxLocals := 5) (ret := some .int) (plainFor_of_name (by decide)) ?_ ?_
  · intro args s m h hn
    obtain ⟨m9, meth, c, hn9, h1, h2, h3, h4, -, h5, h6, -⟩ := Cond.codeWith_spec (atoms_spec (ws := jWw) h _ List.mem_cons_self)
    cases hn.symm.trans hn9
    exact ⟨meth, c, h1, h2, h3, h4, h5, h6⟩
  · intro p e s m args below meth c s₁ B hml hv _
    have hh0 : s₁.heap = s.heap := by rw [B.state]; rfl
    obtain ⟨rfl, hP, hK, hth⟩ := hv
    have hts := atoms_spec (ws := jWw) B.pre
    have htg : ∀ cw ∈ lw_good, cw.before #[Value.ref (ad 0), vI x, vI w, .ref (ad 139)] s = true := fun cw hw => hts cw (List.mem_cons_of_mem _ hw)
    have hl := lv_entry [.ref (ad 0), vI x, vI w, .ref (ad 139)] (n := 5) (Nat.le_of_ble_eq_true rfl)
    have hx := B.exec
    have hb := B.bytes
    have hown : s.vm.findClass R_law = some m.cls := findClass_of_methodNamed B.named
    have hX0 := Stand.of_body B
    obtain ⟨xe, hxe, xs, xen, xh, xc⟩ : ∃ xe : ExceptionTableEntry, c.exceptionTable.toList = [xe] ∧ xe.startPc = 0 ∧ xe.endPc = 10 ∧ xe.handlerPc = 13 ∧ xe.catchType = 13 := by
      obtain ⟨m9, meth9, c9, hn9, h1, h2, h3, h4, h5, -⟩ := Cond.codeWith_spec (hts _ List.mem_cons_self)
      cases B.named.symm.trans hn9
      cases hX0.method.symm.trans h1
      cases hX0.code.symm.trans h2
      match hq : c.exceptionTable.toList with
      | [] => rw [hq] at h5; simp at h5
      | [xe] => rw [hq] at h5; simp at h5; exact ⟨xe, rfl, h5.1, h5.2.1, h5.2.2.1, h5.2.2.2⟩
      | a :: b :: r => rw [hq] at h5; simp at h5
    suffices hW : ∀ ls : Array Slot, lv_has ls 5 [(0, .ref (ad 0)), (1, vI x), (2, vI w), (3, .ref (ad 139))] → W p l e tRm s m #[Value.ref (ad 0), vI x, vI w, .ref (ad 139)] below meth c s.heap [] 0 0 (MQ below tQc #[Value.ref (ad 0), vI x, vI w, .ref (ad 139)] s 1 6 A) (F0 m 0 ls []) by
      obtain ⟨t, a1, o, b1, b2, b3⟩ := hW _ hl s₁ hh0 hX0
      rw [lg_entry_eq]
      exact ⟨t, o, a1, b1, b2, ⟨b3.1, b3.2⟩⟩
    intro ls hl
    refine lv_aload_n hx hb (dc dkL_band 0 rfl) rfl (lv_at hl 3 rfl) ?_
    refine lv_iconst (v := Int32.ofInt 0) hx hb (dc dkL_band 1 rfl) rfl ?_
    refine lv_aload_n hx hb (dc dkL_band 2 rfl) rfl (lv_at hl 0 rfl) ?_
    refine lv_iload_n hx hb (dc dkL_band 3 rfl) rfl (lv_at hl 1 rfl) ?_
    refine lv_iload_n hx hb (dc dkL_band 4 rfl) rfl (lv_at hl 2 rfl) ?_
    intro T hT X
    obtain ⟨-, -, -, -, ⟨q, hqq, hqc⟩, -⟩ := ceX12_band
    obtain ⟨fs0, hS0⟩ := jOb_spec (k := 0) (ci := 11) rfl
    obtain ⟨cellB, e1, e2, e3⟩ := va_recv hK hP hqq (q0 := 0) (jWs_get hS0)
    obtain ⟨vm, i, hi, Y, go⟩ := lb_in (ls := ls) (st := [vI 0, .ref (ad 139)]) (o := ad 0) (cb := cellB) (u1 := vI x) (u2 := vI w) X hx hb hown htg (by rw [hT]; exact e1) e2 (by rw [← e3, hqc]; rfl)
    obtain ⟨z, ce, V, Z, ⟨u1, u2⟩, ⟨v1, v2, v3⟩, go2⟩ := lb_thrown (st := [vI 0, .ref (ad 139)]) Y hx hfl hb (hl.1.trans hml.symm) (Nat.le_of_ble_eq_true rfl) htg hi hT hP hK hth h8 hix hiw hG
    obtain ⟨vm2, XU, go3⟩ := lb_caught (ls := ls) (st := [vI 0, .ref (ad 139)]) Z hown (htg _ (gm6 20 (by decide +kernel))) hxe ⟨xs, xen, xh, xc⟩ v1 v2 v3
    have fin : W p l e tRm s m #[Value.ref (ad 0), vI x, vI w, .ref (ad 139)] below meth c V.heap [] 1 6 (MQ below tQc #[Value.ref (ad 0), vI x, vI w, .ref (ad 139)] s 1 6 A) (F0 m 13 ls [.ref z]) := by
      refine lv_astore (lv' := [(4, .ref z), (0, .ref (ad 0)), (1, vI x), (2, vI w), (3, .ref (ad 139))]) hx hb (dc dkL_band 9 rfl) hl (by decide) rfl (fun ls hl => ?_)
      refine lv_iconst (v := Int32.ofInt 1) hx hb (dc dkL_band 10 rfl) rfl ?_
      exact W.iret (Qc := tQc) hx hb B.returns (fun t ht hWt => ⟨rfl, by rw [ht]; exact u1, fun q hq => by rw [ht]; exact u2 q hq⟩) (fun q hq => by cases hq) (dc dkL_band 11 rfl) B.notSynchronized
    obtain ⟨t, a1, b1⟩ := fin (V.setVm vm2) rfl XU
    exact ⟨t, go t (fun acts => (go2 acts).trans (go3 t a1)), b1⟩
