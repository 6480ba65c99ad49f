/-! ===== band throws ===== -/
def tQ (s : State) (below : List Frame) : State → Prop := fun t => ∃ (y : Nat) (ce : Cell), t.status = .running ∧ Ended t below (.threw y) ∧ s.WarmedH t.vm ∧ s.sameButNew ({ t with vm := s.vm } : State) [] 1 6 ∧ s.heap.size ≤ y ∧ t.heap[y]? = some ce ∧ s.vm.findClass nseN = some ce.cls ∧ ce.vm = .none
set_option maxRecDepth 100000 in
set_option maxHeartbeats 4000000 in
theorem tb_29 {p : Program} {l : Launch} {e : Env} {s : State} {m : MethodId} {args : Array Value} {below : List Frame} {meth : Method} {c : Code} {ls : Array Slot} {A : Nat → Prop} (hx : p.tables.exec = Jvm.exec) (hb : c.code = cX12_band) (hml : c.maxLocals = 4) (hsz : ls.size = 4) (hown : s.vm.findClass RX12 = some m.cls) (htg : ∀ w ∈ lw_good, w.before args s = true) (ht : thr A s) (hfl : l.stackTraces = false) (hlk : meth.locks = false) (hem : c.exceptionTable.isEmpty = true) : W p l e { frames := 10, cells := 1, slots := 6, locals := 600 } s m args below meth c s.heap [] 0 0 (tQ s below) (F0 m 29 ls []) := by
  obtain ⟨cX, kX0, hfc, _⟩ := Cond.instantiable_spec (htg (.instantiable nseN 6) (gm6 26 (by decide +kernel)))
  refine W.newcK hx hb (C := nseN) (n := 6) hown (htg (.classLink RX12 174 nseN) (gm6 25 (by decide +kernel))) (htg (.instantiable nseN 6) (gm6 26 (by decide +kernel))) (htg (.initialized nseN) (gm1 24 (by decide +kernel))) rfl (dc dkX12_band 14 rfl) (Nat.le_of_ble_eq_true rfl) (Nat.le_of_ble_eq_true rfl) hfc rfl (fun H' kC hkC hc hs1 hold => ?_)
  show W p l e _ s m args below meth c H' [] _ _ _ (F0 m 32 ls [.ref s.heap.size])
  refine lv_dup hx hb (dc dkX12_band 15 rfl) rfl ?_
  intro T hT X
  have htr : e.platform.stackTraces = false := by rw [X.admits.platform]; exact hfl
  obtain ⟨U, hsteps, hrun, hend, hW, hsame, ce, hce, K⟩ := X.ctorThrow0 hx htr (own := RX12) (cls := nseN) (names := ["java/lang/RuntimeException", "java/lang/Exception"]) (ic := 176) hown (by decide +kernel) (by decide +kernel) (oa_in htg ht) (fun x hx => by cases hx) hfc hkC (by rw [hT]; exact hc) (Nat.le_refl _) (g := F0 m 33 ls [.ref s.heap.size, .ref s.heap.size]) rfl (hsz.trans hml.symm) rfl rfl (rest := []) rfl (by rw [hb]; exact (dc dkX12_band 16 rfl)) (by rw [hb]; exact (dc dkX12_band 17 rfl)) (covers_of_empty hem _) (by decide) (Nat.le_of_ble_eq_true rfl) hlk
  exact ⟨U, hsteps, s.heap.size, ce, hrun, hend, hW, hsame, Nat.le_refl _, hce, K.cls, K.vm⟩
