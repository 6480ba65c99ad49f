/-! ===== has, once more: it writes nothing at all ===== -/
set_option maxRecDepth 100000 in
set_option maxHeartbeats 4000000 in
theorem hs_still (l : Launch) (D : va_G) (cA : Nat → ClassId) {h0 : Nat} {n x : Int} {a b c : Value} (hx : iR x) (hn : 0 ≤ n ∧ n ≤ 8) : Met l yX0_has (jW miX0_has) (jRm 1) (va_Pc [.ref h0, vI x] (fun U => va_P D vwCl [(h0, .inr (0, [vI n, a, b, c]))] U.heap ∧ va_K D vwCl (jTys cA) U)) (fun _ st oc t => oc = .returned (some (vI (bI (0 ≤ x ∧ x < n)))) ∧ t.heap = st.heap) 0 0 (fun _ => False) := by
  refine MetFree.of_bodySF (code := cX0_has) (maxLocals := 2) (ret := some .boolean) (plainFor_of_name (by decide)) ?_ ?_
  · intro args s m h hn
    obtain ⟨meth, c, h1, h2, h3, h4, h5, h6, -, -⟩ := Cond.code_spec hn (atoms_spec (ws := jW miX0_has) h _ List.mem_cons_self)
    exact ⟨meth, c, h1, h2, h3, h4, h5, h6⟩
  · intro p e s m args below meth cd s₁ B hml hv _
    have hh0 : s₁.heap = s.heap := by rw [B.state]; rfl
    obtain ⟨rfl, hP, hK⟩ := hv
    have hts := atoms_spec (ws := jW miX0_has) B.pre
    have htg : ∀ w ∈ lw_good, w.before #[Value.ref h0, vI x] s = true := fun w hw => hts w (List.mem_cons_of_mem _ hw)
    have hl := lv_entry [.ref h0, vI x] (n := 2) (Nat.le_of_ble_eq_true rfl)
    have hb := B.bytes
    have hex := B.exec
    have hlk := B.notSynchronized
    have hown : s.vm.findClass RX0 = some m.cls := findClass_of_methodNamed B.named
    suffices hW : ∀ ls : Array Slot, lv_has ls 2 [(0, .ref h0), (1, vI x)] → W p l e (jRm 1) s m #[Value.ref h0, vI x] below meth cd s.heap [] 0 0 (MQ below (fun _ st oc t => oc = .returned (some (vI (bI (0 ≤ x ∧ x < n)))) ∧ t.heap = st.heap) #[Value.ref h0, vI x] s 0 0 (fun _ => False)) (F0 m 0 ls []) by
      obtain ⟨t, a1, o, b1, b2, b3⟩ := hW _ hl s₁ hh0 (Stand.of_body B)
      rw [lg_entry_eq]
      exact ⟨t, o, a1, b1, b2, ⟨b3.1, b3.2⟩⟩
    intro ls hl
    have ret : ∀ z : Int, (z = 0 ∨ z = 1) → z = bI (0 ≤ x ∧ x < n) → W p l e (jRm 1) s m #[Value.ref h0, vI x] below meth cd s.heap [] 0 0 (MQ below (fun _ st oc t => oc = .returned (some (vI (bI (0 ≤ x ∧ x < n)))) ∧ t.heap = st.heap) #[Value.ref h0, vI x] s 0 0 (fun _ => False)) (F0 m 23 ls [vI z]) := fun z hz e =>
      W.zret (v := Int32.ofInt z) (ty := .boolean) hex hb (B.returns) (by rcases hz with rfl | rfl <;> decide +kernel) (fun t ht hW => ⟨by rw [← e]; rfl, ht⟩) (fun q hq => by cases hq) (dc dkX0_has 12 rfl) hlk
    have no : bI (0 ≤ x ∧ x < n) = 0 → W p l e (jRm 1) s m #[Value.ref h0, vI x] below meth cd s.heap [] 0 0 (MQ below (fun _ st oc t => oc = .returned (some (vI (bI (0 ≤ x ∧ x < n)))) ∧ t.heap = st.heap) #[Value.ref h0, vI x] s 0 0 (fun _ => False)) (F0 m 22 ls []) := fun e => lv_iconst (v := Int32.ofInt 0) hex hb (dc dkX0_has 11 rfl) rfl (ret 0 (Or.inl rfl) e.symm)
    refine lv_iload_n hex hb (dc dkX0_has 0 rfl) rfl (lv_at hl 1 rfl) ?_
    refine lv_if_lt (tgt := 22) hex hb (dc dkX0_has 1 rfl) (by decide) (fun q => no (bI_f (fun z => ?_))) (fun q => ?_)
    · have := (i_lt hx iR0).mp (by rw [← i_z]; exact q); omega
    have x0 : 0 ≤ x := Int.not_lt.mp (fun z => q (by rw [i_z]; exact (i_lt hx iR0).mpr z))
    refine lv_iload_n hex hb (dc dkX0_has 2 rfl) rfl (lv_at hl 1 rfl) ?_
    refine lv_aload_n hex hb (dc dkX0_has 3 rfl) rfl (lv_at hl 0 rfl) ?_
    obtain ⟨q0, hc, hj, hw, hq⟩ := flX0_9
    refine va_get (D := D) (cl := vwCl) (tys := jTys cA) (ws := [(h0, .inr (0, [vI n, a, b, c]))]) (C := q0.1) (T := q0.2.1) (N := q0.2.2) (ci := 0) hex hb htg (jClw 0 q0 hc) hown hK hP 0 rfl hc 0 hj (htg _ hw) (fun x h => by rw [hq] at h; exact h) (v := vI n) rfl (dc dkX0_has 4 rfl) ?_
    refine lv_icmp_ge (tgt := 22) hex hb (dc dkX0_has 5 rfl) (by decide) (fun g => no (bI_f (fun z => ?_))) (fun g => ?_)
    · have := (i_le (by unfold iR; omega) hx).mp g; omega
    have xn : x < n := Int.not_le.mp (fun z => g ((i_le (by unfold iR; omega) hx).mpr z))
    refine lv_iload_n hex hb (dc dkX0_has 6 rfl) rfl (lv_at hl 1 rfl) ?_
    refine lv_bipush (v := Int32.ofInt 8) hex hb (dc dkX0_has 7 rfl) (by decide) ?_
    refine lv_icmp_ge (tgt := 22) hex hb (dc dkX0_has 8 rfl) (by decide) (fun g => ?_) (fun g => ?_)
    · have := (i_le (by decide) hx).mp g; omega
    refine lv_iconst (v := Int32.ofInt 1) hex hb (dc dkX0_has 9 rfl) rfl ?_
    exact lv_goto (tgt := 23) hex hb (dc dkX0_has 10 rfl) (by decide) (ret 1 (Or.inr rfl) (bI_t ⟨x0, xn⟩).symm)
