/-! ===== rows: returns, entry, calls, copies ===== -/
theorem jargs_map (ad : Nat → Nat) (as : List Value) : ∀ i, lv_args i (as.map (jv ad)) = jLv ad (lv_args i as) := by
  induction as with
  | nil => intro i; rfl
  | cons v t ih =>
    intro i
    simp only [List.map_cons, lv_args, jLv]
    rw [jv_cat, ih]
    rfl
theorem jsl_len (ad : Nat → Nat) (as : List Value) : (lg_sl (as.map (jv ad))).length = (lg_sl as).length := by
  induction as with
  | nil => rfl
  | cons v t ih =>
    simp only [lg_sl, List.map_cons, List.flatMap_cons, List.length_append] at ih ⊢
    rw [ih, jv_cat]
    split <;> rfl
/-- a method's contract out of its walk from pc 0 -/
theorem jm_of {d : Nat} {y : jMI} {as : List Value} {σ : jS} {Po : Option Value → jS → Prop} {lv : List (Nat × Value)} (hy : plainName y.1.cls = true) (hn : (lg_sl as).length ≤ y.2.2.1) (hlv : lv_args 0 as = lv) (h : jR d y Po 0 lv [] σ) : Jm d y as σ Po := by
  intro l ad A D cA
  refine Met.ofW (cc := y.2.1) (maxL := y.2.2.1) (ret := y.2.2.2) (ws' := lw_good) hy rfl ?_
  intro p e s m args below meth c s₁ B hml hv
  obtain ⟨rfl, hP, hK, hD⟩ := hv
  have hts := atoms_spec (ws := jW y) B.pre
  have hl := lv_entry (as.map (jv ad)) (n := y.2.2.1) (by rw [jsl_len]; exact hn)
  rw [lg_entry_eq]
  rw [jargs_map, hlv] at hl
  exact h p l e s m _ below meth c ad A D cA s.heap [] _ ⟨B.exec, B.bytes, B.returns, hml, findClass_of_methodNamed B.named, fun w hw => hts w (List.mem_cons_of_mem _ hw), B.notSynchronized⟩ ⟨hK, hP, hD, va_S.rf⟩ hl
theorem Jm.mono {d : Nat} {y : jMI} {as : List Value} {σ : jS} {Po Po' : Option Value → jS → Prop} (h : Jm d y as σ Po) (hp : ∀ r σ', Po r σ' → Po' r σ') : Jm d y as σ Po' := by
  intro l ad A D cA p e ha hc hk s m args below hf hap hP hT
  obtain ⟨k, o, h1, h2, h3, ⟨⟨⟨r, σ', e1, e2, e3⟩, hF⟩, hL⟩⟩ := h l ad A D cA p e ha hc hk s m args below hf hap hP hT
  exact ⟨k, o, h1, h2, h3, ⟨⟨⟨r, σ', e1, hp r σ' e2, e3⟩, hF⟩, hL⟩⟩
/-- a callee's words: by its class' number, its parameters -/
def jCE (y : jMI) (ci n : Nat) : Prop := Cond.instanceMethod y.1 ∈ lw_good ∧ Cond.selects y.1.cls y.1 y.1 ∈ lw_good ∧ Cond.initialized y.1.cls ∈ lw_good ∧ Cond.code y.1 y.2.1 y.2.2.1 y.2.2.2 ∈ lw_good ∧ (∃ q : vw_C, vwCl[ci]? = some q ∧ q.1 = y.1.cls) ∧ (y.1.cls ≠ "java/lang/invoke/MethodHandle" ∧ y.1.cls ≠ "java/lang/invoke/VarHandle" ∧ (parseMethodDescriptor y.1.desc).map (fun d => d.parameters.length) = some n) ∧ y.2.2.1 ≤ 40
def jSE (y : jMI) (n : Nat) : Prop := Cond.static y.1 ∈ lw_good ∧ Cond.initialized y.1.cls ∈ lw_good ∧ Cond.code y.1 y.2.1 y.2.2.1 y.2.2.2 ∈ lw_good ∧ (y.1.cls ≠ "java/lang/invoke/MethodHandle" ∧ y.1.cls ≠ "java/lang/invoke/VarHandle" ∧ (parseMethodDescriptor y.1.desc).map (fun d => d.parameters.length) = some n) ∧ y.2.2.1 ≤ 40
theorem jblind (av : List Value) (ad : Nat → Nat) (A : Nat → Prop) (D : va_G) (cA : Nat → ClassId) (σ : jS) : FrameBlind (va_Pc av (jAt ad A D cA σ)) :=
  fun a U g mk q => ⟨q.1, q.2.1, ⟨va_K.moved (u := U) (U := U.calling g mk a) (Vm.Alike.refl U.vm) q.2.2.1.1, q.2.2.1.2.call rfl rfl⟩, q.2.2.2⟩
theorem jcpy_i (f g : Int → Int) {sp dp n : Int} (h0 : 0 ≤ sp) (h1 : 0 ≤ dp) (h2 : 0 ≤ n) : va_cpy (fun j : Nat => Int32.ofInt (f j)) (fun j : Nat => Int32.ofInt (g j)) sp.toNat dp.toNat n.toNat = fun j : Nat => Int32.ofInt (if dp ≤ j ∧ (j : Int) < dp + n then f (sp + (j - dp)) else g j) := by
  funext j
  unfold va_cpy
  by_cases h : dp ≤ j ∧ (j : Int) < dp + n
  · rw [if_pos (show dp.toNat ≤ j ∧ j < dp.toNat + n.toNat by omega), if_pos h]
    dsimp only
    rw [show ((sp.toNat + (j - dp.toNat) : Nat) : Int) = sp + (j - dp) by omega]
  · rw [if_neg (show ¬ (dp.toNat ≤ j ∧ j < dp.toNat + n.toNat) by omega), if_neg h]
theorem jcpy_l (f g : Int → Int) {sp dp n : Int} (h0 : 0 ≤ sp) (h1 : 0 ≤ dp) (h2 : 0 ≤ n) : va_cpy (fun j : Nat => Int64.ofInt (f j)) (fun j : Nat => Int64.ofInt (g j)) sp.toNat dp.toNat n.toNat = fun j : Nat => Int64.ofInt (if dp ≤ j ∧ (j : Int) < dp + n then f (sp + (j - dp)) else g j) := by
  funext j
  unfold va_cpy
  by_cases h : dp ≤ j ∧ (j : Int) < dp + n
  · rw [if_pos (show dp.toNat ≤ j ∧ j < dp.toNat + n.toNat by omega), if_pos h]
    dsimp only
    rw [show ((sp.toNat + (j - dp.toNat) : Nat) : Int) = sp + (j - dp) by omega]
  · rw [if_neg (show ¬ (dp.toNat ≤ j ∧ j < dp.toNat + n.toNat) by omega), if_neg h]
/-- a row behind a copy -/
def jcp (f g : Int → Int) (sp dp n : Int) : Int → Int := fun j => if dp ≤ j ∧ j < dp + n then f (sp + (j - dp)) else g j
section JR4
variable {d dc : Nat} {y y' : jMI} {Po Po' : Option Value → jS → Prop} {pc : Nat} {lv lv' : List (Nat × Value)} {st st0 : List Value} {σ : jS}
theorem r_iret {z : Int} (hd : decode y.2.1 pc = .ok (.ireturn, 1)) (hr : y.2.2.2 = some .int) (hp : Po (some (vI z)) σ) : jR d y Po pc lv [vI z] σ :=
  fun p l e s m args below meth c ad A D cA H locs ls C Wd hl => W.iret (v := Int32.ofInt z) C.1 C.2.1 (C.2.2.1.trans hr) (fun t ht hW => ⟨⟨some (vI z), σ, rfl, hp, by rw [ht]; exact Wd.2.1, jK.go Wd.1 hW (by rw [ht]; exact Wd.2.2.2.2.1), Wd.2.2.1⟩, Wd.2.2.2.F ht⟩) Wd.2.2.2.2.2 hd C.2.2.2.2.2.2
theorem r_zret {z : Int} (hd : decode y.2.1 pc = .ok (.ireturn, 1)) (hr : y.2.2.2 = some .boolean) (hz : z = 0 ∨ z = 1) (hp : Po (some (vI z)) σ) : jR d y Po pc lv [vI z] σ :=
  fun p l e s m args below meth c ad A D cA H locs ls C Wd hl => W.zret (v := Int32.ofInt z) (ty := .boolean) C.1 C.2.1 (C.2.2.1.trans hr) (by rcases hz with rfl | rfl <;> decide +kernel) (fun t ht hW => ⟨⟨some (vI z), σ, rfl, hp, by rw [ht]; exact Wd.2.1, jK.go Wd.1 hW (by rw [ht]; exact Wd.2.2.2.2.1), Wd.2.2.1⟩, Wd.2.2.2.F ht⟩) Wd.2.2.2.2.2 hd C.2.2.2.2.2.2
theorem r_lret {z : Int} (hd : decode y.2.1 pc = .ok (.lreturn, 1)) (hr : y.2.2.2 = some .long) (hp : Po (some (vL z)) σ) : jR d y Po pc lv [vL z] σ :=
  fun p l e s m args below meth c ad A D cA H locs ls C Wd hl => W.lret (v := Int64.ofInt z) C.1 C.2.1 (C.2.2.1.trans hr) (fun t ht hW => ⟨⟨some (vL z), σ, rfl, hp, by rw [ht]; exact Wd.2.1, jK.go Wd.1 hW (by rw [ht]; exact Wd.2.2.2.2.1), Wd.2.2.1⟩, Wd.2.2.2.F ht⟩) Wd.2.2.2.2.2 hd C.2.2.2.2.2.2
theorem r_vret (hd : decode y.2.1 pc = .ok (.return_, 1)) (hr : y.2.2.2 = none) (hp : Po none σ) : jR d y Po pc lv [] σ :=
  fun p l e s m args below meth c ad A D cA H locs ls C Wd hl => W.vret C.1 C.2.1 (C.2.2.1.trans hr) (fun t ht hW => ⟨⟨none, σ, rfl, hp, by rw [ht]; exact Wd.2.1, jK.go Wd.1 hW (by rw [ht]; exact Wd.2.2.2.2.1), Wd.2.2.1⟩, Wd.2.2.2.F ht⟩) Wd.2.2.2.2.2 hd C.2.2.2.2.2.2
/-- behind a call: the walk goes on in the callee's world -/
theorem jR.behind {p : Program} {l : Launch} {e : Env} {s : State} {m : MethodId} {args : Array Value} {below : List Frame} {meth : Method} {c : Code} {ad : Nat → Nat} {A : Nat → Prop} {D : va_G} {cA : Nat → ClassId} {H : Heap} {locs : List Loc} {ls : Array Slot} {a : Array Value} {st1 : List Value}
    (hr : va_Run p l e (jRm d) s m args below meth c H locs 0 0 0 0 (F0 m pc ls st1) (st.map (jv ad)) (jQ ad A D cA Po' a) A) (C : jCx y p s m args meth c) (Wd : jWd ad A D cA σ s H locs) (hl : lv_has ls y.2.2.1 (jLv ad lv))
    (K : ∀ r σ', Po' r σ' → jR d y Po (pc + 3) lv (r.toList ++ st) σ') : W p l e (jRm d) s m args below meth c H locs 0 0 (MQ below (jQ ad A D cA Po) args s 0 0 A) (F0 m pc ls st1) := by
  intro T hT X
  obtain ⟨v, st₀, t, T', L, h0, X', hL, e1, e2, ⟨⟨r, σ', hv, hp, hP1, hK1, hD1⟩, hz, hk⟩, stp⟩ := hr T hT X
  obtain rfl : v = r.map (jv ad) := by cases hv; rfl
  have hS := Wd.2.2.2
  rw [h0] at hz hk
  have hS1 : va_S A s.heap T'.heap (locs ++ L) := ⟨Nat.le_trans hS.1 (by rw [e1]; exact hz), fun q h1 h2 => by rw [e1, hk q (Nat.lt_of_lt_of_le h1 hS.1) h2]; exact hS.2.1 q h1 h2, fun q hq => by
    rcases List.mem_append.mp hq with h | h
    · exact hS.2.2 q h
    · exact hL q h⟩
  have hK := K r σ' hp p l e s m args below meth c ad A D cA T'.heap (locs ++ L) ls C ⟨Wd.1, by rw [e1]; exact hP1, hD1, hS1⟩ hl
  obtain ⟨t2, a1, b1⟩ := hK T' rfl X'
  refine ⟨t2, stp t2 ?_, b1⟩
  have ee : (r.map (jv ad)).toList ++ st.map (jv ad) = (r.toList ++ st).map (jv ad) := by cases r <;> rfl
  show Steps _ _ _ (T'.setTop (F0 m (pc + 3) ls ((r.map (jv ad)).toList ++ st.map (jv ad)))) t2
  rw [ee]
  exact a1
theorem r_callV {k ci idx n : Nat} {as : List Value} (hd : decode y.2.1 pc = .ok (.invokevirtual idx, 3)) (hw : Cond.methodLink y.1.cls idx y'.1 ∈ lw_good) (hc : jCE y' ci n) (hk : jOb k = some ci) (hdc : dc < d) (hst : st0 = as.reverse ++ .ref k :: st) (hn : as.length = n) (hcat : (st.map fun v => v.category).sum ≤ 8) (hM : Jm dc y' (.ref k :: as) σ Po')
    (K : ∀ r σ', Po' r σ' → jR d y Po (pc + 3) lv (r.toList ++ st) σ') : jR d y Po pc lv st0 σ := by
  intro p l e s m args below meth c ad A D cA H locs ls C Wd hl
  obtain ⟨c1, c2, c3, c4, ⟨q, hq, hqc⟩, c6, c7⟩ := hc
  obtain ⟨fs, hs⟩ := jOb_spec hk
  subst hst
  refine jR.behind (a := (Value.ref (ad k) :: as.map (jv ad)).toArray) ?_ C Wd hl K
  have hG : GoodIn lw_good (wsV y.1.cls idx y'.1.cls y'.1 (jW y')) := lw_good_good (fun w h => by
    simp only [wsV, jW, List.mem_append, List.mem_cons, List.not_mem_nil, or_false] at h
    rcases h with (rfl | rfl | rfl | rfl) | rfl | h
    · exact hw
    · exact c1
    · exact c2
    · exact c3
    · exact c4
    · exact h)
  refine va_runV (C := y'.1.cls) (b := ad k) (As := as.map (jv ad)) (n := n) ⟨C.1, C.2.1, C.2.2.2.1, C.2.2.2.2.1, C.2.2.2.2.2.1⟩ (hM l ad A D cA)
    (cwV n C.2.2.2.2.2.1 hG rfl rfl rfl ⟨rfl, c6⟩ ⟨hdc, by show 8 + (y'.2.2.1 + 11) + 64 * dc ≤ 64 * d; omega⟩)
    ⟨jblind _ _ _ _ _ _, ?_, fun U hU hW => ⟨rfl, by rw [hU]; exact Wd.2.1, jK.go Wd.1 hW (by rw [hU]; exact Wd.2.2.2.2.1), Wd.2.2.1⟩⟩ rfl (by rw [List.length_map]; exact hn) hl.1 ?_ (lv_room ?_) hd ⟨Nat.le_refl _, Nat.le_refl _⟩
  · rw [← hqc]
    exact va_recv Wd.1.1 Wd.2.1 hq (jWs_get hs)
  · show (as.reverse ++ .ref k :: st).map (jv ad) = _
    rw [List.map_append, List.map_reverse]
    rfl
  · rw [List.map_map, show ((fun v : Value => v.category) ∘ jv ad) = fun v => v.category from funext (fun v => jv_cat ad v)]
    exact hcat
theorem r_callS {idx n : Nat} {as : List Value} (hd : decode y.2.1 pc = .ok (.invokestatic idx, 3)) (hw : Cond.methodLink y.1.cls idx y'.1 ∈ lw_good) (hc : jSE y' n) (hdc : dc < d) (hst : st0 = as.reverse ++ st) (hn : as.length = n) (hcat : (st.map fun v => v.category).sum ≤ 8) (hM : Jm dc y' as σ Po')
    (K : ∀ r σ', Po' r σ' → jR d y Po (pc + 3) lv (r.toList ++ st) σ') : jR d y Po pc lv st0 σ := by
  intro p l e s m args below meth c ad A D cA H locs ls C Wd hl
  obtain ⟨c1, c3, c4, c6, c7⟩ := hc
  subst hst
  refine jR.behind (a := (as.map (jv ad)).toArray) ?_ C Wd hl K
  have hG : GoodIn lw_good (va_wsS y.1.cls idx y'.1 (jW y')) := lw_good_good (fun w h => by
    simp only [va_wsS, jW, List.mem_append, List.mem_cons, List.not_mem_nil, or_false] at h
    rcases h with (rfl | rfl | rfl) | rfl | h
    · exact hw
    · exact c1
    · exact c3
    · exact c4
    · exact h)
  refine va_runS (As := as.map (jv ad)) (n := n) ⟨C.1, C.2.1, C.2.2.2.1, C.2.2.2.2.1, C.2.2.2.2.2.1⟩ (hM l ad A D cA)
    (va_cwS n C.2.2.2.2.2.1 hG rfl rfl rfl c6 ⟨hdc, by show 8 + (y'.2.2.1 + 11) + 64 * dc ≤ 64 * d; omega⟩)
    ⟨jblind _ _ _ _ _ _, fun U hU hW => ⟨rfl, by rw [hU]; exact Wd.2.1, jK.go Wd.1 hW (by rw [hU]; exact Wd.2.2.2.2.1), Wd.2.2.1⟩⟩ rfl (by rw [List.length_map]; exact hn) hl.1 ?_ (lv_room ?_) hd ⟨Nat.le_refl _, Nat.le_refl _⟩
  · show (as.reverse ++ st).map (jv ad) = _
    rw [List.map_append, List.map_reverse]
  · rw [List.map_map, show ((fun v : Value => v.category) ∘ jv ad) = fun v => v.category from funext (fun v => jv_cat ad v)]
    exact hcat
/-- calls of pure methods -/
theorem r_pureV {k ci idx n : Nat} {as : List Value} {v : Value} (hd : decode y.2.1 pc = .ok (.invokevirtual idx, 3)) (hw : Cond.methodLink y.1.cls idx y'.1 ∈ lw_good) (hc : jCE y' ci n) (hk : jOb k = some ci) (hdc : dc < d) (hst : st0 = as.reverse ++ .ref k :: st) (hn : as.length = n) (hcat : (st.map fun v => v.category).sum ≤ 8) (hM : Jp dc y' (.ref k :: as) σ v)
    (K : jR d y Po (pc + 3) lv (v :: st) σ) : jR d y Po pc lv st0 σ :=
  r_callV hd hw hc hk hdc hst hn hcat hM (fun r σ' h => by obtain ⟨rfl, rfl⟩ := h; exact K)
theorem r_pureS {idx n : Nat} {as : List Value} {v : Value} (hd : decode y.2.1 pc = .ok (.invokestatic idx, 3)) (hw : Cond.methodLink y.1.cls idx y'.1 ∈ lw_good) (hc : jSE y' n) (hdc : dc < d) (hst : st0 = as.reverse ++ st) (hn : as.length = n) (hcat : (st.map fun v => v.category).sum ≤ 8) (hM : Jp dc y' as σ v)
    (K : jR d y Po (pc + 3) lv (v :: st) σ) : jR d y Po pc lv st0 σ :=
  r_callS hd hw hc hdc hst hn hcat hM (fun r σ' h => by obtain ⟨rfl, rfl⟩ := h; exact K)
theorem jcl {i : Int} (h0 : 0 ≤ i) (h1 : i ≤ 46656) : ¬ Int32.ofInt i < 0 ∧ (Int32.ofInt i).toNatClampNeg = i.toNat := by
  have e : (Int32.ofInt i).toInt = i := i_of ⟨by omega, by omega⟩
  refine ⟨fun h => ?_, ?_⟩
  · rw [Int32.lt_iff_toInt_lt, e] at h
    have : (0 : Int32).toInt = 0 := rfl
    omega
  · show (Int32.ofInt i).toInt.toNat = _
    rw [e]
def jCopyW (own : String) (idx : Nat) : Prop := Cond.methodLink own idx arraycopyName ∈ lw_good ∧ Cond.native arraycopyName ∈ lw_good ∧ Cond.static arraycopyName ∈ lw_good ∧ Cond.initialized "java/lang/System" ∈ lw_good
theorem r_copyI {idx a0 a1 n0 n1 : Nat} {sp dp n : Int} (hd : decode y.2.1 pc = .ok (.invokestatic idx, 3)) (hw : jCopyW y.1.cls idx) (h0 : jAr a0 = some (0, n0)) (h1 : jAr a1 = some (0, n1)) (hi : 0 ≤ sp ∧ 0 ≤ dp ∧ 0 ≤ n ∧ sp + n ≤ n0 ∧ dp + n ≤ n1) (hdd : 2 ≤ d) (hcat : (st.map fun v => v.category).sum ≤ 8)
    (K : jR d y Po (pc + 3) lv st (jrow σ a1 (jcp (σ a0) (σ a1) sp dp n))) : jR d y Po pc lv (vI n :: vI dp :: .ref a1 :: vI sp :: .ref a0 :: st) σ := by
  intro p l e s m args below meth c ad A D cA H locs ls C Wd hl
  obtain ⟨i1, i2, i3, i4, i5⟩ := hi
  have N0 := jN h0
  have N1 := jN h1
  obtain ⟨x1, x2⟩ := jcl i1 (by omega)
  obtain ⟨y1, y2⟩ := jcl i2 (by omega)
  obtain ⟨z1, z2⟩ := jcl i3 (by omega)
  have hts := C.2.2.2.2.2.1
  refine va_copyi (D := D) (cl := vwCl) (tys := jTys cA) (ws := jWs ad cA σ) (ty := .int) C.1 C.2.1 (by rw [C.2.2.2.1]; exact hl.1.symm) C.2.2.2.2.1 (hts _ hw.1) (hts _ hw.2.1) (hts _ hw.2.2.1) (hts _ hw.2.2.2) Wd.1.1 Wd.2.1 Wd.2.2.1 Wd.2.2.2 a0 a1 0 0 (jWs_get (jAr_spec h0)) (jWs_get (jAr_spec h1)) rfl rfl rfl x1 y1 z1 (by rw [x2, z2]; omega) (by rw [y2, z2]; omega) (fun _ _ => rfl) (by show 1 ≤ d; omega) ?_ hd (fun H1 locs1 hP hD hS => ?_)
  · rw [List.map_map, show ((fun v : Value => v.category) ∘ jv ad) = fun v => v.category from funext (fun v => jv_cat ad v)]
    have : nativeFrameWords "java/lang/System" "arraycopy" 5 + 11 ≤ 60 := by decide +kernel
    show _ ≤ 64 * d
    omega
  · rw [x2, y2, z2, jcpy_i _ _ i1 i2 i3] at hP hD
    have e1 := jWs_set (ad := ad) (cA := cA) (σ := σ) (σ' := jrow σ a1 (jcp (σ a0) (σ a1) sp dp n)) (jAr_spec h1) (fun k' h => by simp [jrow, h])
    have e2 : jrow σ a1 (jcp (σ a0) (σ a1) sp dp n) a1 = jcp (σ a0) (σ a1) sp dp n := by simp [jrow]
    rw [e2] at e1
    have hP := e1 ▸ hP
    have hD := e1 ▸ hD
    exact K p l e s m args below meth c ad A D cA H1 locs1 ls C ⟨Wd.1, hP, hD, hS⟩ hl
theorem r_copyL {idx a0 a1 n0 n1 : Nat} {sp dp n : Int} (hd : decode y.2.1 pc = .ok (.invokestatic idx, 3)) (hw : jCopyW y.1.cls idx) (h0 : jAr a0 = some (1, n0)) (h1 : jAr a1 = some (1, n1)) (hi : 0 ≤ sp ∧ 0 ≤ dp ∧ 0 ≤ n ∧ sp + n ≤ n0 ∧ dp + n ≤ n1) (hdd : 2 ≤ d) (hcat : (st.map fun v => v.category).sum ≤ 8)
    (K : jR d y Po (pc + 3) lv st (jrow σ a1 (jcp (σ a0) (σ a1) sp dp n))) : jR d y Po pc lv (vI n :: vI dp :: .ref a1 :: vI sp :: .ref a0 :: st) σ := by
  intro p l e s m args below meth c ad A D cA H locs ls C Wd hl
  obtain ⟨i1, i2, i3, i4, i5⟩ := hi
  have N0 := jN h0
  have N1 := jN h1
  obtain ⟨x1, x2⟩ := jcl i1 (by omega)
  obtain ⟨y1, y2⟩ := jcl i2 (by omega)
  obtain ⟨z1, z2⟩ := jcl i3 (by omega)
  have hts := C.2.2.2.2.2.1
  refine va_copyl (D := D) (cl := vwCl) (tys := jTys cA) (ws := jWs ad cA σ) (ty := .long) C.1 C.2.1 (by rw [C.2.2.2.1]; exact hl.1.symm) C.2.2.2.2.1 (hts _ hw.1) (hts _ hw.2.1) (hts _ hw.2.2.1) (hts _ hw.2.2.2) Wd.1.1 Wd.2.1 Wd.2.2.1 Wd.2.2.2 a0 a1 1 1 (jWs_get (jAr_spec h0)) (jWs_get (jAr_spec h1)) rfl rfl rfl x1 y1 z1 (by rw [x2, z2]; omega) (by rw [y2, z2]; omega) (fun _ _ => rfl) (by show 1 ≤ d; omega) ?_ hd (fun H1 locs1 hP hD hS => ?_)
  · rw [List.map_map, show ((fun v : Value => v.category) ∘ jv ad) = fun v => v.category from funext (fun v => jv_cat ad v)]
    have : nativeFrameWords "java/lang/System" "arraycopy" 5 + 11 ≤ 60 := by decide +kernel
    show _ ≤ 64 * d
    omega
  · rw [x2, y2, z2, jcpy_l _ _ i1 i2 i3] at hP hD
    have e1 := jWs_set (ad := ad) (cA := cA) (σ := σ) (σ' := jrow σ a1 (jcp (σ a0) (σ a1) sp dp n)) (jAr_spec h1) (fun k' h => by simp [jrow, h])
    have e2 : jrow σ a1 (jcp (σ a0) (σ a1) sp dp n) a1 = jcp (σ a0) (σ a1) sp dp n := by simp [jrow]
    rw [e2] at e1
    have hP := e1 ▸ hP
    have hD := e1 ▸ hD
    exact K p l e s m args below meth c ad A D cA H1 locs1 ls C ⟨Wd.1, hP, hD, hS⟩ hl
/-- switches -/
theorem r_tableIn {dflt lo hi off : Int} {offs : Array Int} {len tgt : Nat} {z : Int} (hd : decode y.2.1 pc = .ok (.tableswitch dflt lo hi offs, len)) (hz : iR z) (h1 : lo ≤ z) (h2 : z ≤ hi) (ho : offs[(z - lo).toNat]? = some off) (ht : (pc : Int) + off = (tgt : Int)) (k : jR d y Po tgt lv st σ) : jR d y Po pc lv (vI z :: st) σ :=
  jR.go (fun p l e s m args below meth c ad H locs ls Q C h K => lv_tableIn C.1 C.2.1 hd (by rw [i_of hz]; omega) (by rw [i_of hz]; omega) (by rw [i_of hz]; exact ho) ht K) k
theorem r_tableOut {dflt lo hi : Int} {offs : Array Int} {len tgt : Nat} {z : Int} (hd : decode y.2.1 pc = .ok (.tableswitch dflt lo hi offs, len)) (hz : iR z) (h1 : z < lo ∨ hi < z) (ht : (pc : Int) + dflt = (tgt : Int)) (k : jR d y Po tgt lv st σ) : jR d y Po pc lv (vI z :: st) σ :=
  jR.go (fun p l e s m args below meth c ad H locs ls Q C h K => lv_tableOut C.1 C.2.1 hd (by rw [i_of hz]; exact h1) ht K) k
theorem r_lookup {dflt off : Int} {ps : Array (Int × Int)} {len tgt : Nat} {z : Int} (hd : decode y.2.1 pc = .ok (.lookupswitch dflt ps, len)) (hz : iR z) (hp : (ps.toList.zip (ps.toList.drop 1)).all (fun (a, next) => a.1 < next.1) = true) (ho : Op.lookupswitch.offset ps.toList dflt z = off) (ht : (pc : Int) + off = (tgt : Int)) (k : jR d y Po tgt lv st σ) : jR d y Po pc lv (vI z :: st) σ :=
  jR.go (fun p l e s m args below meth c ad H locs ls Q C h K => lv_lookup C.1 C.2.1 hd hp (by rw [i_of hz]; exact ho) ht K) k
end JR4
/-! ===== loops: by a number that falls ===== -/
theorem jlp1 {A1 : Type} {P I : A1 → Prop} (μ : A1 → Nat) (h : ∀ a, I a → (∀ a', I a' → μ a' < μ a → P a') → P a) (a : A1) (ha : I a) : P a := by
  have key : ∀ n a, μ a < n → I a → P a := by
    intro n
    induction n with
    | zero => intro a hm _; exact absurd hm (Nat.not_lt_zero _)
    | succ n ih => intro a hm hI; exact h a hI (fun a' hI' hl => ih a' (by omega) hI')
  exact key _ a (Nat.lt_succ_self _) ha
theorem jlp2 {A1 A2 : Type} {P I : A1 → A2 → Prop} (μ : A1 → A2 → Nat) (h : ∀ a b, I a b → (∀ a' b', I a' b' → μ a' b' < μ a b → P a' b') → P a b) (a : A1) (b : A2) (ha : I a b) : P a b :=
  jlp1 (A1 := A1 × A2) (P := fun q => P q.1 q.2) (I := fun q => I q.1 q.2) (fun q => μ q.1 q.2) (fun q hq ih => h q.1 q.2 hq (fun a' b' x y => ih (a', b') x y)) (a, b) ha
theorem jlp3 {A1 A2 A3 : Type} {P I : A1 → A2 → A3 → Prop} (μ : A1 → A2 → A3 → Nat) (h : ∀ a b c, I a b c → (∀ a' b' c', I a' b' c' → μ a' b' c' < μ a b c → P a' b' c') → P a b c) (a : A1) (b : A2) (c : A3) (ha : I a b c) : P a b c :=
  jlp1 (A1 := A1 × A2 × A3) (P := fun q => P q.1 q.2.1 q.2.2) (I := fun q => I q.1 q.2.1 q.2.2) (fun q => μ q.1 q.2.1 q.2.2) (fun q hq ih => h q.1 q.2.1 q.2.2 hq (fun a' b' c' x y => ih (a', b', c') x y)) (a, b, c) ha
theorem jlp4 {A1 A2 A3 A4 : Type} {P I : A1 → A2 → A3 → A4 → Prop} (μ : A1 → A2 → A3 → A4 → Nat) (h : ∀ a b c d, I a b c d → (∀ a' b' c' d', I a' b' c' d' → μ a' b' c' d' < μ a b c d → P a' b' c' d') → P a b c d) (a : A1) (b : A2) (c : A3) (d : A4) (ha : I a b c d) : P a b c d :=
  jlp1 (A1 := A1 × A2 × A3 × A4) (P := fun q => P q.1 q.2.1 q.2.2.1 q.2.2.2) (I := fun q => I q.1 q.2.1 q.2.2.1 q.2.2.2) (fun q => μ q.1 q.2.1 q.2.2.1 q.2.2.2) (fun q hq ih => h q.1 q.2.1 q.2.2.1 q.2.2.2 hq (fun a' b' c' d' x y => ih (a', b', c', d') x y)) (a, b, c, d) ha
theorem jlp5 {A1 A2 A3 A4 A5 : Type} {P I : A1 → A2 → A3 → A4 → A5 → Prop} (μ : A1 → A2 → A3 → A4 → A5 → Nat) (h : ∀ a b c d e, I a b c d e → (∀ a' b' c' d' e', I a' b' c' d' e' → μ a' b' c' d' e' < μ a b c d e → P a' b' c' d' e') → P a b c d e) (a : A1) (b : A2) (c : A3) (d : A4) (e : A5) (ha : I a b c d e) : P a b c d e :=
  jlp1 (A1 := A1 × A2 × A3 × A4 × A5) (P := fun q => P q.1 q.2.1 q.2.2.1 q.2.2.2.1 q.2.2.2.2) (I := fun q => I q.1 q.2.1 q.2.2.1 q.2.2.2.1 q.2.2.2.2) (fun q => μ q.1 q.2.1 q.2.2.1 q.2.2.2.1 q.2.2.2.2) (fun q hq ih => h q.1 q.2.1 q.2.2.1 q.2.2.2.1 q.2.2.2.2 hq (fun a' b' c' d' e' x y => ih (a', b', c', d', e') x y)) (a, b, c, d, e) ha
theorem jlp6 {A1 A2 A3 A4 A5 A6 : Type} {P I : A1 → A2 → A3 → A4 → A5 → A6 → Prop} (μ : A1 → A2 → A3 → A4 → A5 → A6 → Nat) (h : ∀ a b c d e f, I a b c d e f → (∀ a' b' c' d' e' f', I a' b' c' d' e' f' → μ a' b' c' d' e' f' < μ a b c d e f → P a' b' c' d' e' f') → P a b c d e f) (a : A1) (b : A2) (c : A3) (d : A4) (e : A5) (f : A6) (ha : I a b c d e f) : P a b c d e f :=
  jlp1 (A1 := A1 × A2 × A3 × A4 × A5 × A6) (P := fun q => P q.1 q.2.1 q.2.2.1 q.2.2.2.1 q.2.2.2.2.1 q.2.2.2.2.2) (I := fun q => I q.1 q.2.1 q.2.2.1 q.2.2.2.1 q.2.2.2.2.1 q.2.2.2.2.2) (fun q => μ q.1 q.2.1 q.2.2.1 q.2.2.2.1 q.2.2.2.2.1 q.2.2.2.2.2) (fun q hq ih => h q.1 q.2.1 q.2.2.1 q.2.2.2.1 q.2.2.2.2.1 q.2.2.2.2.2 hq (fun a' b' c' d' e' f' x y => ih (a', b', c', d', e', f') x y)) (a, b, c, d, e, f) ha
