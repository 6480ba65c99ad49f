/-! ===== the law's own method, on the road where nothing is thrown ===== -/
def yL_band : MethodName := ⟨R_law, "band", "(LPegBands;II[J)I"⟩
abbrev cL_band : ByteArray := method_3_code
abbrev miL_band : jMI := (yL_band, cL_band, 5, some .int)
def dlL_band : List (Nat × Instr × Nat) := [(0, .aload_n 3, 1), (1, .iconst 0, 1), (2, .aload_n 0, 1), (3, .iload_n 1, 1), (4, .iload_n 2, 1), (5, .invokevirtual 7, 3), (8, .i2l, 1), (9, .lastore, 1), (10, .goto 7, 3), (13, .astore 4, 2), (15, .iconst 1, 1), (16, .ireturn, 1), (17, .iconst 0, 1), (18, .ireturn, 1)]
set_option maxRecDepth 100000 in
theorem dkL_band : dlL_band.all (fun q => dok cL_band q.1 q.2.1 q.2.2) = true := by decide +kernel
abbrev wL_band : Cond := Cond.codeWith yL_band cL_band 5 (some .int) [(0, 10, 13, 13)]
theorem wL_in : wL_band ∈ lw_good := gm6 19 (by decide +kernel)
theorem sL_in : Cond.static yL_band ∈ lw_good := gm6 18 (by decide +kernel)
theorem lL_in : Cond.methodLink R_law 47 yL_band ∈ lw_good := gm6 17 (by decide +kernel)
theorem iL_in : Cond.initialized R_law ∈ lw_good := gm1 0 (by decide +kernel)
/-- the law at 400 calls its own method, whose contract is at hand -/
theorem lb_go {p : Program} {l : Launch} {e : Env} {s : State} {m : MethodId} {below : List Frame} {meth : Method} {c : Code} {b L : Nat} {xs : Nat → Int32} {ad : Nat → Nat} {D : va_G} {cA : Nat → ClassId} {T : State} {locs : List Loc} {cells slots : Nat} {ls : Array Slot} (C : lC p s m meth c b L xs ad D cA) (hz : ls.size = 7) (X : Stand p l e room_1 s m #[Value.ref b] below meth c T locs cells slots) {u0 u1 u2 u3 : Value} {P : Pt → Array Value → Prop} {Q : Pt → Array Value → Option Value → Pt → Prop} (hB : Back l room_1 p e below s #[Value.ref b] yL_band 3 8 P Q) (hp : ∀ vm, s.WarmedH vm → P ⟨T.setVm vm, locs, cells, slots⟩ #[u0, u1, u2, u3]) :
    ∃ (vm : Vm) (r : Option Value) (B : Pt), Q ⟨T.setVm vm, locs, cells, slots⟩ #[u0, u1, u2, u3] r B ∧ Stand p l e room_1 s m #[Value.ref b] below meth c B.U B.locs B.cells B.slots ∧ ∀ t, Steps p.tables e below (B.U.setTop (F0 m 403 ls (r.toList ++ []))) t → Steps p.tables e below (T.setTop (F0 m 400 ls [u3, u2, u1, u0])) t := by
  obtain ⟨⟨hx, hb, -, hml, hown, hts, -⟩, -⟩ := C
  have tw : ∀ w ∈ lw_good, w.before #[Value.ref b] s = true := fun w h => hts w (lw_good_in h)
  have da : decode c.code 400 = .ok (.invokestatic 47, 3) := by rw [hb]; exact dc dkL2 29 rfl
  obtain ⟨i, me, -, a1, a2, -, -, -, -, -, -, a3⟩ := Cond.codeWith_spec (tw _ wL_in)
  obtain ⟨k, a4, -⟩ := className_of_methodNamed a1
  have n4 : ([u0, u1, u2, u3] : List Value).length = me.sig.parameters.length := by
    have q : (parseMethodDescriptor yL_band.desc).map (fun d => d.parameters.length) = some 4 := by decide +kernel
    rw [a3] at q
    exact (Option.some.inj q).symm
  obtain ⟨vm, Y, go⟩ := X.invokestatic hx hown (tw _ lL_in) a1 a2 (Cond.static_spec a1 a2 (tw _ sL_in)) a4 (Cond.initialized_spec (findClass_of_methodNamed a1) a4 (tw _ iL_in)) ⟨by decide +kernel, by decide +kernel⟩ (g := F0 m 400 ls [u3, u2, u1, u0]) rfl (rest := []) n4 rfl da
  obtain ⟨r, B, Z, po, ret⟩ := hB m meth c ⟨T.setVm vm, locs, cells, slots⟩ (F0 m 400 ls []) _ i #[u0, u1, u2, u3] Y rfl (hz.trans hml.symm) da (lv_room (Nat.le_of_ble_eq_true rfl)) (Y.named a1) (hp vm Y.warmed)
  refine ⟨vm, r, B, po, Z, fun t q => go t fun acts => ?_⟩
  rw [doInvoke_state]
  exact ret.trans q
def jWw : List Cond := wL_band :: lw_good
/-- its contract out of a walk -/
theorem jw_of {d : Nat} {as : List Value} {σ : jS} {Po : Option Value → jS → Prop} {lv : List (Nat × Value)} (hn : (lg_sl as).length ≤ 5) (hlv : lv_args 0 as = lv) (h : jR d miL_band Po 0 lv [] σ) (l : Launch) (ad : Nat → Nat) (A : Nat → Prop) (D : va_G) (cA : Nat → ClassId) : Met l yL_band jWw (jRm d) (va_Pc (as.map (jv ad)) (jAt ad A D cA σ)) (jQ ad A D cA Po) 0 0 A := by
  refine MetFree.of_bodySF (code := cL_band) (maxLocals := 5) (ret := some .int) (plainFor_of_name (by decide)) ?_ ?_
  · intro args s m h hn
    obtain ⟨m9, meth, c, hn9, h1, h2, h3, h4, -, h5, h6, -⟩ := Cond.codeWith_spec (atoms_spec (ws := jWw) h _ List.mem_cons_self)
    cases hn.symm.trans hn9
    exact ⟨meth, c, h1, h2, h3, h4, h5, h6⟩
  · intro p e s m args below meth c s₁ B hml hv _
    have hh0 : s₁.heap = s.heap := by rw [B.state]; rfl
    obtain ⟨rfl, hP, hK, hD⟩ := hv
    have hts := atoms_spec (ws := jWw) B.pre
    have hl := lv_entry (as.map (jv ad)) (n := 5) (by rw [jsl_len]; exact hn)
    rw [jargs_map, hlv] at hl
    have hW := h p l e s m (as.map (jv ad)).toArray below meth c ad A D cA s.heap [] _ ⟨B.exec, B.bytes, B.returns, hml, findClass_of_methodNamed B.named, fun w hw => hts w (List.mem_cons_of_mem _ hw), B.notSynchronized⟩ ⟨hK, hP, hD, va_S.rf⟩ hl
    obtain ⟨t, a1, o, b1, b2, b3⟩ := hW s₁ hh0 (Stand.of_body B)
    rw [lg_entry_eq]
    exact ⟨t, o, a1, b1, b2, ⟨b3.1, b3.2⟩⟩
set_option maxRecDepth 100000 in
set_option maxHeartbeats 4000000 in
theorem lb_good {σ : jS} (h : Inv σ) {x w : Int} (hG : bG σ x w) : jR 8 miL_band (fun r τ => r = some (vI 0) ∧ τ = ju σ 139 0 (bV σ x w)) 0 [(0, .ref 0), (1, vI x), (2, vI w), (3, .ref 139)] [] σ := by
  obtain ⟨k1, k2, k3, k4, k5, k6, k7, k8⟩ := Inv_k h
  refine r_aload_n (dc dkL_band 0 rfl) rfl (np 1 rfl ?_)
  refine r_iconst (dc dkL_band 1 rfl) (np 2 rfl ?_)
  refine r_aload_n (dc dkL_band 2 rfl) rfl (np 3 rfl ?_)
  refine r_iload_n (dc dkL_band 3 rfl) rfl (np 4 rfl ?_)
  refine r_iload_n (dc dkL_band 4 rfl) rfl (np 5 rfl ?_)
  refine r_pureV (y' := miX12_band) (k := 0) (as := [vI x, vI w]) (n := 2) (dc dkL_band 5 rfl) mlL_7 ceX12_band rfl (by decide) rfl rfl (Nat.le_of_ble_eq_true rfl) (c_X12_band_ok k2 k3 hG.1.1 (by rw [k5]; exact hG.1.2) hG.2) (np 8 rfl ?_)
  show jR 8 miL_band _ 8 _ (vI (bV σ x w) :: _) σ
  refine r_i2l (dc dkL_band 6 rfl) (bV_R h hG) (np 9 rfl ?_)
  refine r_last (dc dkL_band 7 rfl) rfl ⟨by decide, by decide⟩ (np 10 rfl ?_)
  refine r_goto (tgt := 17) (dc dkL_band 8 rfl) (by decide) ?_
  refine r_iconst (dc dkL_band 12 rfl) (np 18 rfl ?_)
  exact r_iret (dc dkL_band 13 rfl) rfl ⟨rfl, rfl⟩
