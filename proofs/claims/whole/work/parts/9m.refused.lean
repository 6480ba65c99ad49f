/-! ===== band with wrong arguments, from its entry ===== -/
set_option maxRecDepth 100000 in
set_option maxHeartbeats 4000000 in
theorem tb_0 {p : Program} {l : Launch} {e : Env} {s : State} {m : MethodId} {args : Array Value} {below : List Frame} {meth : Method} {c : Code} {ls : Array Slot} {A : Nat → Prop} {ad : Nat → Nat} {D : va_G} {cA : Nat → ClassId} {σ : jS} {x w : Int} (hx : p.tables.exec = Jvm.exec) (hb : c.code = cX12_band) (hml : c.maxLocals = 4) (hown : s.vm.findClass RX12 = some m.cls) (htg : ∀ w ∈ lw_good, w.before args s = true) (ht : thr A s) (hfl : l.stackTraces = false) (hlk : meth.locks = false) (hem : c.exceptionTable.isEmpty = true)
    (hP : va_P D vwCl (jWs ad cA σ) s.heap) (hK : va_K D vwCl (jTys cA) s) (h8 : 0 ≤ σ 30 0 ∧ σ 30 0 ≤ 8) (hix : iR x) (hiw : iR w) (hG : ¬ ((0 ≤ x ∧ x < σ 30 0) ∧ 0 ≤ w ∧ w ≤ 6)) (hl : lv_has ls 4 [(0, .ref (ad 0)), (1, vI x), (2, vI w)]) : W p l e { frames := 10, cells := 1, slots := 6, locals := 600 } s m args below meth c s.heap [] 0 0 (tQ s below) (F0 m 0 ls []) := by
  obtain ⟨fs0, hS0, hF0⟩ := jFd_spec fd_0_2
  obtain ⟨fs1, hS1, hF1⟩ := jFd_spec fd_27_1
  obtain ⟨fs2, hS2, hF2⟩ := jFd_spec fd_28_9
  refine lv_aload_n hx hb (dc dkX12_band 0 rfl) rfl (lv_at hl 0 rfl) ?_
  obtain ⟨q0, hc, hj, hw, hq⟩ := flX12_24
  refine va_get (D := D) (cl := vwCl) (tys := jTys cA) (ws := jWs ad cA σ) (C := q0.1) (T := q0.2.1) (N := q0.2.2) (ci := 11) hx hb htg (jClw 11 q0 hc) hown hK hP 0 (jWs_get hS0) hc 2 hj (htg _ hw) (fun x h => by rw [hq] at h; exact h) (v := .ref (ad 27)) (by rw [List.getElem?_mapIdx, hF0]; rfl) (dc dkX12_band 1 rfl) ?_
  obtain ⟨q1, hc1, hj1, hw1, hq1⟩ := flX12_105
  refine va_get (D := D) (cl := vwCl) (tys := jTys cA) (ws := jWs ad cA σ) (C := q1.1) (T := q1.2.1) (N := q1.2.2) (ci := 10) hx hb htg (jClw 10 q1 hc1) hown hK hP 27 (jWs_get hS1) hc1 1 hj1 (htg _ hw1) (fun x h => by rw [hq1] at h; exact h) (v := .ref (ad 28)) (by rw [List.getElem?_mapIdx, hF1]; rfl) (dc dkX12_band 2 rfl) ?_
  obtain ⟨q2, hc2, hj2, hw2, hq2⟩ := flX12_167
  refine va_get (D := D) (cl := vwCl) (tys := jTys cA) (ws := jWs ad cA σ) (C := q2.1) (T := q2.2.1) (N := q2.2.2) (ci := 1) hx hb htg (jClw 1 q2 hc2) hown hK hP 28 (jWs_get hS2) hc2 9 hj2 (htg _ hw2) (fun x h => by rw [hq2] at h; exact h) (v := .ref (ad 30)) (by rw [List.getElem?_mapIdx, hF2]; rfl) (dc dkX12_band 3 rfl) ?_
  refine lv_astore_n (lv' := [(3, .ref (ad 30)), (0, .ref (ad 0)), (1, vI x), (2, vI w)]) hx hb (dc dkX12_band 4 rfl) rfl hl (by decide) rfl (fun ls hl => ?_)
  refine lv_aload_n hx hb (dc dkX12_band 5 rfl) rfl (lv_at hl 0 rfl) ?_
  refine lv_iload_n hx hb (dc dkX12_band 6 rfl) rfl (lv_at hl 2 rfl) ?_
  have hPb : va_P D vwCl [(ad 30, .inr (0, [vI (σ 30 0), .ref (ad 31), .ref (ad 32), .ref (ad 33)]))] s.heap := by
    intro k q hk
    match k, hk with
    | 0, hk => cases hk; exact hP 30 _ (jWs_get (h := .inr (0, [(0, 0), (2, 31), (2, 32), (2, 33)])) rfl)
    | k + 1, hk => simp at hk
  obtain ⟨c1, c2, c3, c4, ⟨q, hqq, hqc⟩, c6, c7⟩ := ceX0_has
  have hGd : GoodIn lw_good (wsV RX12 171 yX0_has.cls yX0_has (jW miX0_has)) := lw_good_good (fun w h => by
    simp only [wsV, jW, List.mem_append, List.mem_cons, List.not_mem_nil, or_false] at h
    rcases h with (rfl | rfl | rfl | rfl) | rfl | h
    · exact mlX12_171
    · exact c1
    · exact c2
    · exact c3
    · exact c4
    · exact h)
  have run := va_runV (R := { frames := 10, cells := 1, slots := 6, locals := 600 }) (cells := 0) (slots := 0) (locs := []) (H := s.heap) (below := below) (e := e) (meth := meth) (C := yX0_has.cls) (b := ad 30) (As := [vI x]) (n := 1) (rest := []) ⟨hx, hb, hml, hown, htg⟩ (hs_still l D cA (h0 := ad 30) (n := σ 30 0) (x := x) (a := .ref (ad 31)) (b := .ref (ad 32)) (c := .ref (ad 33)) hix h8)
    (cwV 1 htg hGd rfl rfl rfl ⟨rfl, c6⟩ ⟨Nat.le_of_ble_eq_true rfl, Nat.le_of_ble_eq_true rfl⟩)
    ⟨fun a U g mk z => ⟨z.1, z.2.1, va_K.moved (u := U) (U := U.calling g mk a) (Vm.Alike.refl U.vm) z.2.2⟩, (by rw [← hqc]; exact va_recv hK hPb hqq (q0 := 0) rfl), fun U hU hW => ⟨rfl, by rw [hU]; exact hPb, va_K.moved hW.alike hK⟩⟩ (g := F0 m 13 ls [vI x, .ref (ad 30)]) rfl rfl hl.1 rfl (lv_room (Nat.le_of_ble_eq_true rfl)) (dc dkX12_band 7 rfl) ⟨Nat.le_of_ble_eq_true rfl, Nat.le_of_ble_eq_true rfl⟩
  have go : W p l e { frames := 10, cells := 1, slots := 6, locals := 600 } s m args below meth c s.heap [] 0 0 (tQ s below) (F0 m 16 ls [vI (bI (0 ≤ x ∧ x < σ 30 0))]) := by
    have thrown : W p l e { frames := 10, cells := 1, slots := 6, locals := 600 } s m args below meth c s.heap [] 0 0 (tQ s below) (F0 m 29 ls []) := tb_29 hx hb hml hl.1 hown htg ht hfl hlk hem
    refine lv_if_eq (tgt := 29) hx hb (dc dkX12_band 8 rfl) (by decide) (fun _ => thrown) (fun g => ?_)
    have good : 0 ≤ x ∧ x < σ 30 0 := Classical.byContradiction (fun z => g (by rw [bI_f z]; rfl))
    refine lv_iload_n hx hb (dc dkX12_band 9 rfl) rfl (lv_at hl 3 rfl) ?_
    refine lv_if_lt (tgt := 29) hx hb (dc dkX12_band 10 rfl) (by decide) (fun _ => thrown) (fun g2 => ?_)
    have w0 : 0 ≤ w := Int.not_lt.mp (fun z => g2 (by rw [i_z]; exact (i_lt hiw iR0).mpr z))
    refine lv_iload_n hx hb (dc dkX12_band 11 rfl) rfl (lv_at hl 3 rfl) ?_
    refine lv_bipush (v := Int32.ofInt 6) hx hb (dc dkX12_band 12 rfl) (by decide) ?_
    refine lv_icmp_le (tgt := 37) hx hb (dc dkX12_band 13 rfl) (by decide) (fun g3 => ?_) (fun _ => thrown)
    exact absurd ⟨good, w0, (i_le hiw (by decide)).mp g3⟩ hG
  intro T hT X
  obtain ⟨v, st₀, t, T', Ls, h0, X', hLs, e1, e2, ⟨hv, hh⟩, stp⟩ := run T hT X
  have eL : Ls = [] := by
    cases Ls with
    | nil => rfl
    | cons q r => exact (hLs q List.mem_cons_self).elim
  subst eL
  cases hv
  obtain ⟨t2, a1, b1⟩ := go T' (by rw [e1, hh, h0]) X'
  exact ⟨t2, stp t2 a1, b1⟩
