/-! ===== the contract of a band that throws ===== -/
set_option maxRecDepth 100000 in
theorem tb_met (l : Launch) (hfl : l.stackTraces = false) (ad : Nat → Nat) (A : Nat → Prop) (D : va_G) (cA : Nat → ClassId) {σ : jS} {x w : Int} (h8 : 0 ≤ σ 30 0 ∧ σ 30 0 ≤ 8) (hix : iR x) (hiw : iR w) (hG : ¬ ((0 ≤ x ∧ x < σ 30 0) ∧ 0 ≤ w ∧ w ≤ 6)) : MetFree l yX12_band (headSpec (jW miX12_band) { frames := 10, cells := 1, slots := 6, locals := 600 }) (va_Pc [.ref (ad 0), vI x, vI w] (fun U => va_P D vwCl (jWs ad cA σ) U.heap ∧ va_K D vwCl (jTys cA) U ∧ thr A U)) (fun _ _ _ _ _ => True)
    (fun _ st o t => ∃ (y : Nat) (ce : Cell), o = .threw y ∧ st.WarmedH t.vm ∧ st.sameButNew ({ t with vm := st.vm } : State) [] 1 6 ∧ st.heap.size ≤ y ∧ t.heap[y]? = some ce ∧ st.vm.findClass nseN = some ce.cls ∧ ce.vm = .none) := by
  refine MetFree.of_bodySF (code := cX12_band) (maxLocals := 4) (ret := some .int) (plainFor_of_name (by decide)) ?_ ?_
  · intro args s m h hn
    obtain ⟨meth, c, h1, h2, h3, h4, h5, h6, -, -⟩ := Cond.code_spec hn (atoms_spec (ws := jW miX12_band) h _ List.mem_cons_self)
    exact ⟨meth, c, h1, h2, h3, h4, h5, h6⟩
  · intro p e s m args below meth c s₁ B hml hv _
    have hh0 : s₁.heap = s.heap := by rw [B.state]; rfl
    obtain ⟨rfl, hP, hK, ht⟩ := hv
    have hts := atoms_spec (ws := jW miX12_band) B.pre
    have hl := lv_entry [.ref (ad 0), vI x, vI w] (n := 4) (Nat.le_of_ble_eq_true rfl)
    have hW := tb_0 (e := e) (below := below) (σ := σ) B.exec B.bytes hml (findClass_of_methodNamed B.named) (fun w hw => hts w (List.mem_cons_of_mem _ hw)) ht hfl B.notSynchronized (B.noHandlers (hts _ List.mem_cons_self)) hP hK h8 hix hiw hG hl
    obtain ⟨t, a1, y, ce, b1, b2, b3, b4, b5, b6, b7, b8⟩ := hW s₁ hh0 (Stand.of_body B)
    rw [lg_entry_eq]
    exact ⟨t, .threw y, a1, b1, b2, y, ce, rfl, b3, b4, b5, b6, b7, b8⟩
