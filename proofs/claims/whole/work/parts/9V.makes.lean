/-! ===== constructors: a world that grows ===== -/
def kNL : List (String × Nat × MethodName) := [(RX12, 9, yX8_init), (RX12, 23, yX11_init), (RX11, 17, yX1_init), (RX1, 44, yX0_init), (RX11, 24, yX3_init), (RX11, 39, yX9_init), (RX12, 51, yX10_init), (RX12, 66, yX6_init), (RX12, 73, yX5_init), (RX12, 80, yX4_init), (RX12, 91, yX0_init)]
/-- links to a nest mate's constructor -/
def kNs (U : State) : Prop := (∀ x ∈ kNL, va_Nw (.methodLinkNest x.1 x.2.1 x.2.2 "PegBands") U) ∧ va_AO RX11 U ∧ va_AO RX0 U
theorem kNs.warm {s U : State} (h : kNs s) (hW : s.WarmedH U.vm) : kNs U := ⟨fun x hx => va_Nw.warmM hW (h.1 x hx), h.2.1.moved hW.alike, h.2.2.moved hW.alike⟩
theorem kNs.same {s U : State} (h : kNs s) (hv : s.vm = U.vm) : kNs U := ⟨fun x hx => va_Nw.same rfl hv (h.1 x hx), h.2.1.moved (by rw [hv]; exact Vm.Alike.refl _), h.2.2.moved (by rw [hv]; exact Vm.Alike.refl _)⟩
def kCx (y : jMI) (p : Program) (s : State) (m : MethodId) (args : Array Value) (meth : Method) (c : Code) : Prop := jCx y p s m args meth c ∧ meth.name = "<init>"
def kWd (D : va_G) (cA : Nat → ClassId) (A : Nat → Prop) (ws : va_W) (s : State) (H : Heap) (locs : List Loc) : Prop := va_K D vwCl (jTys cA) s ∧ va_P D vwCl ws H ∧ va_D A ws ∧ va_S A s.heap H locs ∧ (∀ q, s.heap.size ≤ q → A q) ∧ kNs s
/-- the walk of a constructor -/
def kR (R : Room) (y : jMI) (D : va_G) (cA : Nat → ClassId) (A : Nat → Prop) (mc ms : Nat) (Qc : Array Value → State → Outcome → State → Prop) (pc : Nat) (lv : List (Nat × Value)) (st : List Value) (ws : va_W) (cells slots : Nat) : Prop :=
  ∀ (p : Program) (l : Launch) (e : Env) (s : State) (m : MethodId) (args : Array Value) (below : List Frame) (meth : Method) (c : Code) (H : Heap) (locs : List Loc) (ls : Array Slot),
    kCx y p s m args meth c → kWd D cA A ws s H locs → lv_has ls y.2.2.1 lv → W p l e R s m args below meth c H locs cells slots (MQ below Qc args s mc ms A) (F0 m pc ls st)
def kB (D : va_G) (cA : Nat → ClassId) (A : Nat → Prop) (ws : va_W) (t : State) : Prop := va_P D vwCl ws t.heap ∧ va_K D vwCl (jTys cA) t ∧ va_D A ws
def kQ (D : va_G) (cA : Nat → ClassId) (A : Nat → Prop) (Post : va_W → Prop) : Array Value → State → Outcome → State → Prop := va_Qv Post (kB D cA A) A
/-- THE CONTRACT of a constructor -/
def Cn (rm : Room) (mc ms : Nat) (y : jMI) (as : List Value) (ci : Nat) (fs0 : List Value) (Post : Nat → (Nat → ClassId) → va_W → Prop) : Prop :=
  ∀ (l : Launch) (D : va_G) (cA : Nat → ClassId) (h0 sz : Nat), Met l y.1 (jW y) rm (va_Pc (.ref h0 :: as) (fun U => U.heap.size = sz ∧ kNs U ∧ kB D cA (fun _ => True) [(h0, .inr (ci, fs0))] U)) (kQ D cA (va_A [(h0, .inr (ci, fs0))] sz) (Post h0 cA)) mc ms (va_A [(h0, .inr (ci, fs0))] sz)
theorem Cn_of {rm : Room} {mc ms : Nat} {y : jMI} {as : List Value} {ci : Nat} {fs0 : List Value} {Post : Nat → (Nat → ClassId) → va_W → Prop} (hy : plainFor y.1 = true) (hi : y.1.name = "<init>") (hn : (lg_sl (.ref 0 :: as)).length ≤ y.2.2.1)
    (h : ∀ (D : va_G) (cA : Nat → ClassId) (A : Nat → Prop) (h0 : Nat), kR rm y D cA A mc ms (kQ D cA A (Post h0 cA)) 0 (lv_args 0 (.ref h0 :: as)) [] [(h0, .inr (ci, fs0))] 0 0) : Cn rm mc ms y as ci fs0 Post := by
  intro l D cA h0 sz
  refine MetFree.of_bodySF (code := y.2.1) (maxLocals := y.2.2.1) (ret := y.2.2.2) hy ?_ ?_
  · intro args s m h hn
    obtain ⟨meth, c, h1, h2, h3, h4, h5, h6, -, -⟩ := Cond.code_spec hn (atoms_spec (ws := jW y) h _ List.mem_cons_self)
    exact ⟨meth, c, h1, h2, h3, h4, h5, h6⟩
  · intro p e s m args below meth c s₁ B hml hv _
    have hh0 : s₁.heap = s.heap := by rw [B.state]; rfl
    obtain ⟨rfl, hsz, hNs, hP, hK, hD0⟩ := hv
    subst hsz
    have hts := atoms_spec (ws := jW y) B.pre
    have hl := lv_entry (.ref h0 :: as) (n := y.2.2.1) hn
    have hW := h D cA (va_A [(h0, .inr (ci, fs0))] s.heap.size) h0 p l e s m (Value.ref h0 :: as).toArray below meth c s.heap [] _ ⟨⟨B.exec, B.bytes, B.returns, hml, findClass_of_methodNamed B.named, fun w hw => hts w (List.mem_cons_of_mem _ hw), B.notSynchronized⟩, (name_of_methodNamed B.named B.method).1.trans hi⟩ ⟨hK, hP, hD0.self, va_S.rf, fun q hq => Or.inr hq, hNs⟩ hl
    obtain ⟨t, a1, o, b1, b2, b3⟩ := hW s₁ hh0 (Stand.of_body B)
    rw [lg_entry_eq]
    exact ⟨t, o, a1, b1, b2, ⟨b3.1, b3.2⟩⟩
section KR
variable {R : Room} {y : jMI} {D : va_G} {cA : Nat → ClassId} {A : Nat → Prop} {mc ms : Nat} {Qc : Array Value → State → Outcome → State → Prop} {pc pc2 : Nat} {lv lv' : List (Nat × Value)} {st st2 : List Value} {ws : va_W} {cells slots : Nat}
theorem kR.go (h : ∀ (p : Program) (l : Launch) (e : Env) (s : State) (m : MethodId) (args : Array Value) (below : List Frame) (meth : Method) (c : Code) (H : Heap) (locs : List Loc) (ls : Array Slot) (Q : State → Prop),
      kCx y p s m args meth c → lv_has ls y.2.2.1 lv → W p l e R s m args below meth c H locs cells slots Q (F0 m pc2 ls st2) → W p l e R s m args below meth c H locs cells slots Q (F0 m pc ls st))
    (k : kR R y D cA A mc ms Qc pc2 lv st2 ws cells slots) : kR R y D cA A mc ms Qc pc lv st ws cells slots :=
  fun p l e s m args below meth c H locs ls C Wd hl => h p l e s m args below meth c H locs ls _ C hl (k p l e s m args below meth c H locs ls C Wd hl)
theorem k_aload {i : Fin 4} {a : Nat} (hd : decode y.2.1 pc = .ok (.aload_n i, 1)) (hl : lv[0]? = some ((i : Nat), Value.ref a)) (k : kR R y D cA A mc ms Qc (pc + 1) lv (.ref a :: st) ws cells slots) : kR R y D cA A mc ms Qc pc lv st ws cells slots :=
  kR.go (fun p l e s m args below meth c H locs ls Q C h K => lv_aload_n C.1.1 C.1.2.1 hd rfl (lv_at h 0 hl) K) k
theorem k_iload {i : Fin 4} {z : Int} (hd : decode y.2.1 pc = .ok (.iload_n i, 1)) (hl : lv[1]? = some ((i : Nat), vI z)) (k : kR R y D cA A mc ms Qc (pc + 1) lv (vI z :: st) ws cells slots) : kR R y D cA A mc ms Qc pc lv st ws cells slots :=
  kR.go (fun p l e s m args below meth c H locs ls Q C h K => lv_iload_n C.1.1 C.1.2.1 hd rfl (lv_at h 1 hl) K) k
theorem k_iconst {n : Int} (hd : decode y.2.1 pc = .ok (.iconst n, 1)) (k : kR R y D cA A mc ms Qc (pc + 1) lv (vI n :: st) ws cells slots) : kR R y D cA A mc ms Qc pc lv st ws cells slots :=
  kR.go (fun p l e s m args below meth c H locs ls Q C h K => lv_iconst C.1.1 C.1.2.1 hd rfl K) k
theorem k_bipush {n : Int} (hd : decode y.2.1 pc = .ok (.bipush n, 2)) (hn : (Int8.ofInt n).toInt32 = Int32.ofInt n) (k : kR R y D cA A mc ms Qc (pc + 2) lv (vI n :: st) ws cells slots) : kR R y D cA A mc ms Qc pc lv st ws cells slots :=
  kR.go (fun p l e s m args below meth c H locs ls Q C h K => lv_bipush C.1.1 C.1.2.1 hd hn K) k
theorem k_sipush {n : Int} (hd : decode y.2.1 pc = .ok (.sipush n, 3)) (hn : (Int16.ofInt n).toInt32 = Int32.ofInt n) (k : kR R y D cA A mc ms Qc (pc + 3) lv (vI n :: st) ws cells slots) : kR R y D cA A mc ms Qc pc lv st ws cells slots :=
  kR.go (fun p l e s m args below meth c H locs ls Q C h K => lv_sipush C.1.1 C.1.2.1 hd hn K) k
theorem k_lconst {n : Fin 2} {z : Int} (hd : decode y.2.1 pc = .ok (.lconst n, 1)) (hz : Int64.ofNat (n : Nat) = Int64.ofInt z) (k : kR R y D cA A mc ms Qc (pc + 1) lv (vL z :: st) ws cells slots) : kR R y D cA A mc ms Qc pc lv st ws cells slots :=
  kR.go (fun p l e s m args below meth c H locs ls Q C h K => lv_lconst C.1.1 C.1.2.1 hd hz K) k
theorem k_ldc {idx : Nat} {v : Int32} {z : Int} (hd : decode y.2.1 pc = .ok (.ldc idx, 2)) (hw : Cond.constant y.1.cls idx v ∈ lw_good) (hz : v = Int32.ofInt z) (k : kR R y D cA A mc ms Qc (pc + 2) lv (vI z :: st) ws cells slots) : kR R y D cA A mc ms Qc pc lv st ws cells slots :=
  kR.go (fun p l e s m args below meth c H locs ls Q C h K => lv_ldc (v := Int32.ofInt z) C.1.1 C.1.2.1 C.1.2.2.2.2.1 (C.1.2.2.2.2.2.1 _ (hz ▸ hw)) hd K) k
theorem k_dup {a : Nat} (hd : decode y.2.1 pc = .ok (.dup, 1)) (k : kR R y D cA A mc ms Qc (pc + 1) lv (.ref a :: .ref a :: st) ws cells slots) : kR R y D cA A mc ms Qc pc lv (.ref a :: st) ws cells slots :=
  kR.go (fun p l e s m args below meth c H locs ls Q C h K => lv_dup C.1.1 C.1.2.1 hd rfl K) k
theorem k_goto {off : Int} {tgt : Nat} (hd : decode y.2.1 pc = .ok (.goto off, 3)) (ht : (pc : Int) + off = (tgt : Int)) (k : kR R y D cA A mc ms Qc tgt lv st ws cells slots) : kR R y D cA A mc ms Qc pc lv st ws cells slots :=
  kR.go (fun p l e s m args below meth c H locs ls Q C h K => lv_goto C.1.1 C.1.2.1 hd ht K) k
theorem k_ge_t {a b off : Int} {tgt : Nat} (hd : decode y.2.1 pc = .ok (.if_icmp .ge off, 3)) (ht : (pc : Int) + off = (tgt : Int)) (hc : Int32.ofInt b ≤ Int32.ofInt a) (k : kR R y D cA A mc ms Qc tgt lv st ws cells slots) : kR R y D cA A mc ms Qc pc lv (vI b :: vI a :: st) ws cells slots :=
  kR.go (fun p l e s m args below meth c H locs ls Q C h K => lv_icmp_ge C.1.1 C.1.2.1 hd ht (fun _ => K) (fun z => absurd hc z)) k
theorem k_ge_f {a b off : Int} {tgt : Nat} (hd : decode y.2.1 pc = .ok (.if_icmp .ge off, 3)) (ht : (pc : Int) + off = (tgt : Int)) (hc : ¬ Int32.ofInt b ≤ Int32.ofInt a) (k : kR R y D cA A mc ms Qc (pc + 3) lv st ws cells slots) : kR R y D cA A mc ms Qc pc lv (vI b :: vI a :: st) ws cells slots :=
  kR.go (fun p l e s m args below meth c H locs ls Q C h K => lv_icmp_ge (tgt := tgt) C.1.1 C.1.2.1 hd ht (fun z => absurd z hc) (fun _ => K)) k
theorem k_istore {i : Fin 4} {z : Int} (hd : decode y.2.1 pc = .ok (.istore_n i, 1)) (hn : (i : Nat) < y.2.2.1) (hl : ((i : Nat), vI z) :: lv.filter (fun q => !(q.1 == (i : Nat)) && !(q.1 + 1 == (i : Nat) && q.2.category == 2)) = lv') (ks : List Nat) {lv2 : List (Nat × Value)} (hk : lv_pick lv' ks = lv2) (k : kR R y D cA A mc ms Qc (pc + 1) lv2 st ws cells slots) : kR R y D cA A mc ms Qc pc lv (vI z :: st) ws cells slots :=
  fun p l e s m args below meth c H locs ls C Wd h => lv_istore_n C.1.1 C.1.2.1 hd rfl h hn hl (fun ls' h' => k p l e s m args below meth c H locs ls' C Wd (lv_sub h' ks hk))
theorem k_iinc {i : Nat} {n z : Int} (hd : decode y.2.1 pc = .ok (.iinc i n, 3)) (hn : i < y.2.2.1) (hi : lv[1]? = some (i, vI z)) (hl : (i, vI (z + n)) :: lv.filter (fun q => !(q.1 == i) && !(q.1 + 1 == i && q.2.category == 2)) = lv') (ks : List Nat) {lv2 : List (Nat × Value)} (hk : lv_pick lv' ks = lv2) (k : kR R y D cA A mc ms Qc (pc + 3) lv2 st ws cells slots) : kR R y D cA A mc ms Qc pc lv st ws cells slots :=
  fun p l e s m args below meth c H locs ls C Wd h => lv_iinc (k := 1) (x := Int32.ofInt z) (v := Int32.ofInt (z + n)) C.1.1 C.1.2.1 hd h hi (by rw [Int32.ofInt_add]) hn hl (fun ls' h' => k p l e s m args below meth c H locs ls' C Wd (lv_sub h' ks hk))
def kOI (own : String) (idx : Nat) : Prop := Cond.methodLink own idx Lib.objectInit ∈ lw_good ∧ Cond.instanceMethod Lib.objectInit ∈ lw_good ∧ Cond.code Lib.objectInit ⟨#[0xb1]⟩ 1 none ∈ lw_good
theorem k_obj {idx a : Nat} (hd : decode y.2.1 pc = .ok (.invokespecial idx, 3)) (hw : kOI y.1.cls idx) (hf : 1 ≤ R.frames) (hc : 2 * 0 + (st.map fun v => v.category).sum + 12 ≤ R.locals) (k : kR R y D cA A mc ms Qc (pc + 3) lv st ws cells slots) : kR R y D cA A mc ms Qc pc lv (.ref a :: st) ws cells slots :=
  kR.go (fun p l e s m args below meth c H locs ls Q C h K => W.objInit C.1.1 C.1.2.1 C.1.2.2.2.2.1 (C.1.2.2.2.2.2.1 _ hw.1) (C.1.2.2.2.2.2.1 _ hw.2.1) (C.1.2.2.2.2.2.1 _ hw.2.2) rfl (h.1.trans C.1.2.2.2.1.symm) rfl hd hf hc K) k
theorem kw (ws' : va_W) (h : ws = ws') (k : kR R y D cA A mc ms Qc pc lv st ws' cells slots) : kR R y D cA A mc ms Qc pc lv st ws cells slots := h ▸ k
theorem kp (n : Nat) (h : pc = n) (k : kR R y D cA A mc ms Qc n lv st ws cells slots) : kR R y D cA A mc ms Qc pc lv st ws cells slots := h ▸ k
/-- a field that is not final -/
theorem k_put {idx ci j a : Nat} {ty : FieldType} {v : Value} {fs fs2 : List Value} {rest : va_W} (hd : decode y.2.1 pc = .ok (.putfield idx, 3)) (hf : jFP y.1.cls idx ci j ty) (hn : narrow ty v = v) (hft : fits ty v = true) (hl : j < fs.length) (h2 : fs.set j v = fs2)
    (k : kR R y D cA A mc ms Qc (pc + 3) lv st ((a, .inr (ci, fs2)) :: rest) cells slots) : kR R y D cA A mc ms Qc pc lv (v :: .ref a :: st) ((a, .inr (ci, fs)) :: rest) cells slots := by
  intro p l e s m args below meth c H locs ls C Wd hl'
  subst h2
  obtain ⟨q, hc, hj, hw, hq, hfin, hty⟩ := hf
  obtain ⟨ty0, ht0, hnm⟩ := jClt ci q hc
  exact va_put (D := D) (cl := vwCl) (tys := jTys cA) (ws := (a, .inr (ci, fs)) :: rest) (C := q.1) (T := q.2.1) (N := q.2.2) (ci := ci) (ty := ty) (v := v) C.1.1 C.1.2.1 C.1.2.2.2.2.2.1 (jClw ci q hc) ty0 ht0 hnm C.1.2.2.2.2.1 Wd.1 Wd.2.1 Wd.2.2.1 Wd.2.2.2.1 0 rfl hc j hj (C.1.2.2.2.2.2.1 _ hw) (fun x h => by rw [hq] at h; exact h) hfin hty hn hft hl hd
    (fun H1 locs1 hP hD hS => k p l e s m args below meth c H1 locs1 ls C ⟨Wd.1, hP, hD, hS, Wd.2.2.2.2⟩ hl')
def jFF (own : String) (idx ci j : Nat) (ty : FieldType) : Prop := ∃ q : vw_C, vwCl[ci]? = some q ∧ j < q.2.2 ∧ Cond.fieldLink own idx q.1 (q.2.1 j).2.1 (q.2.1 j).2.2.1 ∈ lw_good ∧ (q.2.1 j).1 = q.1 ∧ (q.2.1 j).2.2.2 = true ∧ (q.2.1 j).1 = own ∧ parseFieldDescriptor (q.2.1 j).2.2.1 = some ty
/-- a final field -/
theorem k_putF {idx ci j a b : Nat} {ty : FieldType} {fs fs2 : List Value} {rest : va_W} (hd : decode y.2.1 pc = .ok (.putfield idx, 3)) (hf : jFF y.1.cls idx ci j ty) (hn : narrow ty (.ref b) = .ref b) (hft : fits ty (.ref b) = true) (hl : j < fs.length) (h2 : fs.set j (.ref b) = fs2)
    (k : kR R y D cA A mc ms Qc (pc + 3) lv st ((a, .inr (ci, fs2)) :: rest) cells slots) : kR R y D cA A mc ms Qc pc lv (.ref b :: .ref a :: st) ((a, .inr (ci, fs)) :: rest) cells slots := by
  intro p l e s m args below meth c H locs ls C Wd hl'
  subst h2
  obtain ⟨q, hc, hj, hw, hq, hfin, how, hty⟩ := hf
  obtain ⟨ty0, ht0, hnm⟩ := jClt ci q hc
  exact va_putF (D := D) (cl := vwCl) (tys := jTys cA) (ws := (a, .inr (ci, fs)) :: rest) (C := q.1) (T := q.2.1) (N := q.2.2) (ci := ci) (ty := ty) (v := .ref b) C.1.1 C.1.2.1 C.1.2.2.2.2.2.1 (jClw ci q hc) ty0 ht0 hnm C.1.2.2.2.2.1 Wd.1 Wd.2.1 Wd.2.2.1 Wd.2.2.2.1 0 rfl hc j hj (C.1.2.2.2.2.2.1 _ hw) (fun x h => by rw [hq] at h; exact h) hfin C.2 how hty hn hft hl hd
    (fun H1 locs1 hP hD hS => k p l e s m args below meth c H1 locs1 ls C ⟨Wd.1, hP, hD, hS, Wd.2.2.2.2⟩ hl')
/-- a field is read -/
theorem k_get {idx ci j a : Nat} {v : Value} {fs : List Value} (i : Nat) (hd : decode y.2.1 pc = .ok (.getfield idx, 3)) (hf : jFL y.1.cls idx ci j) (hi : ws[i]? = some (a, .inr (ci, fs))) (hv : fs[j]? = some v)
    (k : kR R y D cA A mc ms Qc (pc + 3) lv (v :: st) ws cells slots) : kR R y D cA A mc ms Qc pc lv (.ref a :: st) ws cells slots := by
  intro p l e s m args below meth c H locs ls C Wd hl
  obtain ⟨q, hc, hj, hw, hq⟩ := hf
  exact va_get (D := D) (cl := vwCl) (tys := jTys cA) (ws := ws) (C := q.1) (T := q.2.1) (N := q.2.2) (ci := ci) C.1.1 C.1.2.1 C.1.2.2.2.2.2.1 (jClw ci q hc) C.1.2.2.2.2.1 Wd.1 Wd.2.1 i hi hc j hj (C.1.2.2.2.2.2.1 _ hw) (fun x h => by rw [hq] at h; exact h)
    (v := v) hv hd (k p l e s m args below meth c H locs ls C Wd hl)
/-- a new row of numbers -/
theorem k_newa {t : Nat} {atype : ArrayType} {ty : FieldType} {n : Int} {N : Nat} {a0 : vp_A} (hd : decode y.2.1 pc = .ok (.newarray atype, 2)) (hw : Cond.arrayClass (newarray.typeOf atype) ∈ lw_good) (hty : newarray.typeOf atype = ty) (ht : (jTys cA)[t]? = some (cA t, ty)) (hra : ∀ U c, va_RA U c ty → U.vm.findClass ("[" ++ ty.toString) = some c)
    (ha : ∀ cA : ClassId, vp_cell cA a0 = arrV cA N (fun _ => defaultValue ty)) (hn : ¬ Int32.ofInt n < 0) (hN : (Int32.ofInt n).toNatClampNeg = N) (hby : N * componentBytes ty ≤ 536870912) (hc : cells + 1 ≤ R.cells) (hs : slots + N ≤ R.slots)
    (k : ∀ q, kR R y D cA A mc ms Qc (pc + 2) lv (.ref q :: st) (ws ++ [(q, .inl (cA t, a0))]) (cells + 1) (slots + N)) : kR R y D cA A mc ms Qc pc lv (vI n :: st) ws cells slots := by
  intro p l e s m args below meth c H locs ls C Wd hl
  refine va_newa (D := D) (cl := vwCl) (tys := jTys cA) (ws := ws) (a0 := a0) C.1.1 C.1.2.1 (C.1.2.2.2.2.2.1 _ hw) hty Wd.1 Wd.2.1 Wd.2.2.1 Wd.2.2.2.1 Wd.2.2.2.2.1 ha hn hN hby hc hs hd (fun q cA' H1 hK hP hD hS => ?_)
  have e : cA' = cA t := Option.some.inj ((hra _ _ (hK.2 6 (cA', ty) rfl).2).symm.trans (hra _ _ (Wd.1.2 t _ ht).2))
  subst e
  exact k q p l e s m args below meth c H1 locs ls C ⟨Wd.1, hP, hD, hS, Wd.2.2.2.2⟩ hl
/-- a new row of cells -/
theorem k_newq {t idx : Nat} {E : String} {n : Int} {N : Nat} (hd : decode y.2.1 pc = .ok (.anewarray idx, 3)) (hw : Cond.classLink y.1.cls idx E ∈ lw_good) (ho : ∀ U, kNs U → va_AO E U) (ht : (jTys cA)[t]? = some (cA t, .object E))
    (hn : ¬ Int32.ofInt n < 0) (hN : (Int32.ofInt n).toNatClampNeg = N) (hby : N * 4 ≤ 536870912) (hc : cells + 1 ≤ R.cells) (hs : slots + N ≤ R.slots)
    (k : ∀ q, kR R y D cA A mc ms Qc (pc + 3) lv (.ref q :: st) (ws ++ [(q, .inl (cA t, N, .inr (.inr (.inr (.inr (fun _ => none))))))]) (cells + 1) (slots + N)) : kR R y D cA A mc ms Qc pc lv (vI n :: st) ws cells slots := by
  intro p l e s m args below meth c H locs ls C Wd hl
  refine va_newq (D := D) (cl := vwCl) (tys := jTys cA) (ws := ws) (C := E) C.1.1 C.1.2.1 C.1.2.2.2.2.1 (C.1.2.2.2.2.2.1 _ hw) (ho s Wd.2.2.2.2.2) Wd.1 Wd.2.1 Wd.2.2.1 Wd.2.2.2.1 Wd.2.2.2.2.1 hn hN hby hc hs hd (fun q cA' H1 hK hP hD hS => ?_)
  have e : cA' = cA t := by
    obtain ⟨_, _, _, _, _, g1⟩ := (hK.2 6 (cA', .object E) rfl).2
    obtain ⟨_, _, _, _, _, g2⟩ := (Wd.1.2 t _ ht).2
    exact Option.some.inj (g1.symm.trans g2)
  subst e
  exact k q p l e s m args below meth c H1 locs ls C ⟨Wd.1, hP, hD, hS, Wd.2.2.2.2⟩ hl
def kNW (own : String) (idx ci : Nat) (fs : List Value) : Prop := ∃ q : vw_C, vwCl[ci]? = some q ∧ Cond.classLink own idx q.1 ∈ lw_good ∧ Cond.instantiable q.1 q.2.2 ∈ lw_good ∧ Cond.initialized q.1 ∈ lw_good ∧ ∀ j, j < q.2.2 → (parseFieldDescriptor (q.2.1 j).2.2.1).map defaultValue = some (vp_V fs j)
/-- a new object -/
theorem k_new {idx ci N : Nat} {fs : List Value} (hd : decode y.2.1 pc = .ok (.new idx, 3)) (hw : kNW y.1.cls idx ci fs) (hN : (vwCl[ci]?.map (fun q => q.2.2)) = some N) (hc : cells + 1 ≤ R.cells) (hs : slots + N ≤ R.slots)
    (k : ∀ q, kR R y D cA A mc ms Qc (pc + 3) lv (.ref q :: st) (ws ++ [(q, .inr (ci, fs))]) (cells + 1) (slots + N)) : kR R y D cA A mc ms Qc pc lv st ws cells slots := by
  intro p l e s m args below meth c H locs ls C Wd hl
  obtain ⟨q, hq, w1, w2, w3, hfs⟩ := hw
  rw [hq] at hN
  cases hN
  obtain ⟨ty0, ht0, hnm⟩ := jClt ci q hq
  exact va_new (D := D) (cl := vwCl) (tys := jTys cA) (ws := ws) (C := q.1) (T := q.2.1) (N := q.2.2) (ci := ci) (fs := fs) C.1.1 C.1.2.1 C.1.2.2.2.2.2.1 (jClw ci q hq) ty0 ht0 C.1.2.2.2.2.1 (C.1.2.2.2.2.2.1 _ w1) (C.1.2.2.2.2.2.1 _ w2) (C.1.2.2.2.2.2.1 _ w3) Wd.1 Wd.2.1 Wd.2.2.1 Wd.2.2.2.1 Wd.2.2.2.2.1 hq
    (fun j hj => by have a := hfs j hj; rw [ht0 j hj] at a; exact Option.some.inj a) hc hs hd (fun x H1 hP hD hS => k x p l e s m args below meth c H1 locs ls C ⟨Wd.1, hP, hD, hS, Wd.2.2.2.2⟩ hl)
theorem k_end (hd : decode y.2.1 pc = .ok (.return_, 1)) {Post : va_W → Prop} (hr : y.2.2.2 = none) (hc : cells ≤ mc) (hs : slots ≤ ms) (hp : Post ws) : kR R y D cA A mc ms (kQ D cA A Post) pc lv [] ws cells slots :=
  fun p l e s m args below meth c H locs ls C Wd hl => W.widen hc hs (W.vret C.1.1 C.1.2.1 (C.1.2.2.1.trans hr) (fun t ht hW => ⟨⟨ws, rfl, hp, by rw [ht]; exact Wd.2.1, va_K.moved hW.alike Wd.1, Wd.2.2.1⟩, Wd.2.2.2.1.F ht⟩) Wd.2.2.2.1.2.2 hd C.1.2.2.2.2.2.2)
/-- the cells in another order -/
theorem k_perm {ws' : va_W} (is : List Nat) (h1 : is.filterMap (fun i => ws[i]?) = ws') (h2 : va_nd is = true) (h3 : is.map (fun i => ws[i]?) = ws'.map some) (k : kR R y D cA A mc ms Qc pc lv st ws' cells slots) : kR R y D cA A mc ms Qc pc lv st ws cells slots :=
  fun p l e s m args below meth c H locs ls C Wd hl => k p l e s m args below meth c H locs ls C ⟨Wd.1, Wd.2.1.sub is h1, Wd.2.2.1.sub is h2 h3, Wd.2.2.2⟩ hl
def kII (own : String) (idx : Nat) (y' : jMI) (n : Nat) : Prop := Cond.methodLink own idx y'.1 ∈ lw_good ∧ Cond.instanceMethod y'.1 ∈ lw_good ∧ Cond.initialized y'.1.cls ∈ lw_good ∧ Cond.code y'.1 y'.2.1 y'.2.2.1 none ∈ lw_good ∧ y'.2.2.2 = none ∧ y'.1.name = "<init>" ∧ (y'.1.cls ≠ "java/lang/invoke/MethodHandle" ∧ y'.1.cls ≠ "java/lang/invoke/VarHandle" ∧ (parseMethodDescriptor y'.1.desc).map (fun d => d.parameters.length) = some n)
theorem w_C {w0 : va_W} {x : Nat × va_E} : [w0.length].map (fun i => (w0 ++ [x])[i]?) = [x].map some := by simp
theorem w_R {w0 : va_W} {x : Nat × va_E} : (List.range w0.length).map (fun i => (w0 ++ [x])[i]?) = w0.map some := by
  apply List.ext_getElem?
  intro i
  rw [List.getElem?_map, List.getElem?_map]
  by_cases h : i < w0.length
  · rw [List.getElem?_range h, Option.map_some, List.getElem?_append_left h, List.getElem?_eq_getElem h]; rfl
  · rw [List.getElem?_eq_none (by rw [List.length_range]; omega), List.getElem?_eq_none (by omega)]; rfl
theorem nd_of : ∀ (l : List Nat), l.Nodup → va_nd l = true
  | [], _ => rfl
  | a :: l, h => by
    rw [va_nd, nd_of l (List.nodup_cons.mp h).2]
    have := (List.nodup_cons.mp h).1
    simp [this]
/-- a constructor is called on the newest cell -/
theorem k_init {idx n ci q mc2 ms2 : Nat} {y' : jMI} {as : List Value} {fs : List Value} {rm : Room} {w0 : va_W} {st0 : List Value} {Post : Nat → (Nat → ClassId) → va_W → Prop} (hd : decode y.2.1 pc = .ok (.invokespecial idx, 3)) (hw : kII y.1.cls idx y' n) (hM : Cn rm mc2 ms2 y' as ci fs Post) (hst : st0 = as.reverse ++ .ref q :: st) (hn : as.length = n) (hcat : (st.map fun v => v.category).sum ≤ 8) (hrc : rm.cells = mc2) (hrs : rm.slots = ms2) (hR : rm.frames + 1 ≤ R.frames ∧ 8 + (y'.2.2.1 + 11) + rm.locals ≤ R.locals) (hc : cells + mc2 ≤ R.cells ∧ slots + ms2 ≤ R.slots)
    (k : ∀ wc, Post q cA wc → kR R y D cA A mc ms Qc (pc + 3) lv st (w0 ++ wc) (cells + mc2) (slots + ms2)) : kR R y D cA A mc ms Qc pc lv st0 (w0 ++ [(q, .inr (ci, fs))]) cells slots := by
  intro p l e s m args below meth c H locs ls C Wd hl
  obtain ⟨c1, c2, c3, c4, c5, c6, c7⟩ := hw
  subst hst
  have hG : GoodIn lw_good (jW y') := lw_good_good (fun w h => by
    rcases List.mem_cons.mp h with rfl | h
    · rw [c5]; exact c4
    · exact h)
  have hFc := va_free (wc := [(q, .inr (ci, fs))]) Wd.2.2.1 Wd.2.2.2.1 Wd.2.2.2.2.1 [w0.length] w_C
  have hPc : va_P D vwCl [(q, .inr (ci, fs))] H := Wd.2.1.sub [w0.length] (by simp)
  have hDc : va_D A [(q, .inr (ci, fs))] := Wd.2.2.1.sub [w0.length] (by simp [va_nd]) w_C
  have hw2 : jW y' = Cond.code y'.1 y'.2.1 y'.2.2.1 none :: lw_good := by unfold jW; rw [c5]
  refine va_callv (va_runI (As := as) (b := q) (rest := st) ⟨C.1.1, C.1.2.1, C.1.2.2.2.1, C.1.2.2.2.2.1, C.1.2.2.2.2.2.1⟩ (hM l D cA q H.size) (cwI n C.1.2.2.2.2.2.1 hG hw2 hrc hrs (C.1.2.2.2.2.2.1 _ c3) (C.1.2.2.2.2.2.1 _ c1) (C.1.2.2.2.2.2.1 _ c2) c6 c7 hR)
    ⟨fun a U g mk z => ⟨z.1, z.2.1, z.2.2.1.same rfl, z.2.2.2.1, va_K.moved (u := U) (U := U.calling g mk a) (Vm.Alike.refl U.vm) z.2.2.2.2.1, z.2.2.2.2.2⟩, fun U hU hW => ⟨rfl, by rw [hU], Wd.2.2.2.2.2.warm hW, by rw [hU]; exact hPc, va_K.moved hW.alike Wd.1, hDc.weaken (fun _ _ _ _ => trivial)⟩⟩ rfl hn hl.1 rfl (lv_room hcat) hd hc) Wd.2.2.2.1 (fun x _ h => hFc x h) hFc (fun wc t H1 locs1 ht hvm hw hB hz1 hk1 hS => ?_)
  obtain ⟨hP1, hK1, hD1⟩ := hB
  rw [ht] at hP1
  obtain ⟨hP, hD⟩ := va_join (wr := w0) (w1 := wc) Wd.2.1 Wd.2.2.1 [w0.length] (List.range w0.length) w_C w_R (nd_of _ List.nodup_range) (fun i hi hj => by
    have a := List.mem_range.mp hi
    have b := List.mem_singleton.mp hj
    omega) hk1 hFc hP1 hD1
  exact k wc hw p l e s m args below meth c H1 locs1 ls C ⟨Wd.1, hP, hD, hS, Wd.2.2.2.2⟩ hl
def kIN (own : String) (idx : Nat) (y' : jMI) (n : Nat) : Prop := (own, idx, y'.1) ∈ kNL ∧ Cond.instanceMethod y'.1 ∈ lw_good ∧ Cond.initialized y'.1.cls ∈ lw_good ∧ Cond.code y'.1 y'.2.1 y'.2.2.1 none ∈ lw_good ∧ y'.2.2.2 = none ∧ y'.1.name = "<init>" ∧ (y'.1.cls ≠ "java/lang/invoke/MethodHandle" ∧ y'.1.cls ≠ "java/lang/invoke/VarHandle" ∧ (parseMethodDescriptor y'.1.desc).map (fun d => d.parameters.length) = some n)
/-- a nest mate's constructor -/
theorem k_initN {idx n ci q mc2 ms2 : Nat} {y' : jMI} {as : List Value} {fs : List Value} {rm : Room} {w0 : va_W} {st0 : List Value} {Post : Nat → (Nat → ClassId) → va_W → Prop} (hd : decode y.2.1 pc = .ok (.invokespecial idx, 3)) (hw : kIN y.1.cls idx y' n) (hM : Cn rm mc2 ms2 y' as ci fs Post) (hst : st0 = as.reverse ++ .ref q :: st) (hn : as.length = n) (hcat : (st.map fun v => v.category).sum ≤ 8) (hrc : rm.cells = mc2) (hrs : rm.slots = ms2) (hR : rm.frames + 1 ≤ R.frames ∧ 8 + (y'.2.2.1 + 11) + rm.locals ≤ R.locals) (hc : cells + mc2 ≤ R.cells ∧ slots + ms2 ≤ R.slots)
    (k : ∀ wc, Post q cA wc → kR R y D cA A mc ms Qc (pc + 3) lv st (w0 ++ wc) (cells + mc2) (slots + ms2)) : kR R y D cA A mc ms Qc pc lv st0 (w0 ++ [(q, .inr (ci, fs))]) cells slots := by
  intro p l e s m args below meth c H locs ls C Wd hl
  obtain ⟨c1, c2, c3, c4, c5, c6, c7⟩ := hw
  subst hst
  have hG : GoodIn lw_good (jW y') := lw_good_good (fun w h => by
    rcases List.mem_cons.mp h with rfl | h
    · rw [c5]; exact c4
    · exact h)
  have hFc := va_free (wc := [(q, .inr (ci, fs))]) Wd.2.2.1 Wd.2.2.2.1 Wd.2.2.2.2.1 [w0.length] w_C
  have hPc : va_P D vwCl [(q, .inr (ci, fs))] H := Wd.2.1.sub [w0.length] (by simp)
  have hDc : va_D A [(q, .inr (ci, fs))] := Wd.2.2.1.sub [w0.length] (by simp [va_nd]) w_C
  have hw2 : jW y' = Cond.code y'.1 y'.2.1 y'.2.2.1 none :: lw_good := by unfold jW; rw [c5]
  refine va_callv (va_runIN (As := as) (b := q) (rest := st) ⟨C.1.1, C.1.2.1, C.1.2.2.2.1, C.1.2.2.2.2.1, C.1.2.2.2.2.2.1⟩ (hM l D cA q H.size) ⟨va_cnB (host := "PegBands") n C.1.2.2.2.2.2.1 hG hw2 hrc hrs (Wd.2.2.2.2.2.1 _ c1) (C.1.2.2.2.2.2.1 _ c3) c7 hR, c6, C.1.2.2.2.2.2.1 _ c2⟩
    ⟨fun a U g mk z => ⟨z.1, z.2.1, z.2.2.1.same rfl, z.2.2.2.1, va_K.moved (u := U) (U := U.calling g mk a) (Vm.Alike.refl U.vm) z.2.2.2.2.1, z.2.2.2.2.2⟩, fun U hU hW => ⟨rfl, by rw [hU], Wd.2.2.2.2.2.warm hW, by rw [hU]; exact hPc, va_K.moved hW.alike Wd.1, hDc.weaken (fun _ _ _ _ => trivial)⟩⟩ rfl hn hl.1 rfl (lv_room hcat) hd hc) Wd.2.2.2.1 (fun x _ h => hFc x h) hFc (fun wc t H1 locs1 ht hvm hw hB hz1 hk1 hS => ?_)
  obtain ⟨hP1, hK1, hD1⟩ := hB
  rw [ht] at hP1
  obtain ⟨hP, hD⟩ := va_join (wr := w0) (w1 := wc) Wd.2.1 Wd.2.2.1 [w0.length] (List.range w0.length) w_C w_R (nd_of _ List.nodup_range) (fun i hi hj => by
    have a := List.mem_range.mp hi
    have b := List.mem_singleton.mp hj
    omega) hk1 hFc hP1 hD1
  exact k wc hw p l e s m args below meth c H1 locs1 ls C ⟨Wd.1, hP, hD, hS, Wd.2.2.2.2⟩ hl
/-- a cell laid into a row of cells -/
theorem k_ast {t ci a v n i0 : Nat} {E : vw_C} {z : Int} {vs : List Value} {f : Nat → Option Nat} (iA iV : Nat) (hd : decode y.2.1 pc = .ok (.aastore, 1)) (hA : ws[iA]? = some (a, .inl (cA t, n, .inr (.inr (.inr (.inr f)))))) (hV : ws[iV]? = some (v, .inr (ci, vs))) (hc : vwCl[ci]? = some E) (ht : (jTys cA)[t]? = some (cA t, .object E.1)) (hin : vp_in (Int32.ofInt z) n) (hz : (Int32.ofInt z).toNatClampNeg = i0)
    (k : kR R y D cA A mc ms Qc (pc + 1) lv st (ws.set iA (a, .inl (cA t, n, .inr (.inr (.inr (.inr (va_up f i0 (some v)))))))) cells slots) : kR R y D cA A mc ms Qc pc lv (.ref v :: vI z :: .ref a :: st) ws cells slots := by
  intro p l e s m args below meth c H locs ls C Wd hl
  subst hz
  exact va_astq (D := D) (cl := vwCl) (tys := jTys cA) (ws := ws) (r := E) C.1.1 C.1.2.1 Wd.1 Wd.2.1 Wd.2.2.1 Wd.2.2.2.1 iA t iV ci hA ht hV hc hin hd (fun H1 locs1 hP hD hS => k p l e s m args below meth c H1 locs1 ls C ⟨Wd.1, hP, hD, hS, Wd.2.2.2.2⟩ hl)
/-- Math.max of two whole numbers -/
theorem k_max {idx : Nat} {a b z : Int} (hd : decode y.2.1 pc = .ok (.invokestatic idx, 3)) (hw : Cond.methodLink y.1.cls idx Lib.Math.max.name ∈ lw_good ∧ Cond.static Lib.Math.max.name ∈ lw_good ∧ Cond.initialized "java/lang/Math" ∈ lw_good ∧ Cond.code Lib.Math.max.name Lib.Math.max.code 2 (some .int) ∈ lw_good) (hf : 1 ≤ R.frames) (hlo : (st.map fun v => v.category).sum + 13 ≤ R.locals) (hc : cells ≤ R.cells) (hs : slots ≤ R.slots) (hz : (if Int32.ofInt a < Int32.ofInt b then Int32.ofInt b else Int32.ofInt a) = Int32.ofInt z)
    (k : kR R y D cA A mc ms Qc (pc + 3) lv (vI z :: st) ws cells slots) : kR R y D cA A mc ms Qc pc lv (vI b :: vI a :: st) ws cells slots :=
  kR.go (fun p l e s m args below meth c H locs ls Q C h K => va_mmax C.1.1 C.1.2.1 (C.1.2.2.2.1.trans h.1.symm) C.1.2.2.2.2.1 (C.1.2.2.2.2.2.1 _ hw.1) (C.1.2.2.2.2.2.1 _ hw.2.1) (C.1.2.2.2.2.2.1 _ hw.2.2.1) (C.1.2.2.2.2.2.1 _ hw.2.2.2) hf hlo hc hs hd (by rw [hz]; exact K)) k
end KR
