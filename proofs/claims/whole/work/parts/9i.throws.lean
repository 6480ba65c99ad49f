/-! ===== what a throw asks for ===== -/
def nseN : String := "java/util/NoSuchElementException"
def oSp : List Cond := [.castable nseN nseN, .declares ⟨"java/lang/RuntimeException", "<init>", "()V"⟩, .declares ⟨"java/lang/Exception", "<init>", "()V"⟩, .declares ⟨"java/lang/Throwable", "<init>", "()V"⟩, .isRef (.static "java/lang/Throwable" "UNASSIGNED_STACK" "[Ljava/lang/StackTraceElement;"), .isRef (.static "java/lang/Throwable" "SUPPRESSED_SENTINEL" "Ljava/util/List;"), .laysStatic "java/lang/Throwable" "UNASSIGNED_STACK" "[Ljava/lang/StackTraceElement;", .laysStatic "java/lang/Throwable" "SUPPRESSED_SENTINEL" "Ljava/util/List;"]
set_option maxRecDepth 100000 in
theorem oa_all : (Jvm.Bundle.ownAtoms0 RX12 176 nseN ["java/lang/RuntimeException", "java/lang/Exception"]).all (fun w => (decide (w ∈ tables_1) && goodWord w) || decide (w ∈ oSp)) = true := by decide +kernel
/-- a static row and where it lies -/
def LSz (C n d : String) (A : Nat → Prop) (U : State) : Prop := ∃ (c : ClassId) (k : Class) (i : Nat) (f : Field) (a : Nat) (cell : Cell), U.vm.findClass C = some c ∧ U.fieldFound? C n d = some (c, k, i, f) ∧ f.isStatic = true ∧ k.statics = some a ∧ U.heap[a]? = some cell ∧ cell.vm.isStatics = true ∧ cell.cls = c ∧ f.slot < cell.slots.size ∧ k.staticTypes[f.slot]? = some f.type ∧ ¬ A a
theorem LSz.go {C n d : String} {A : Nat → Prop} {s U : State} (h : LSz C n d A s) (hv : s.vm.Alike U.vm) (hq : ∀ q : Nat, q < s.heap.size → ¬ A q → U.heap[q]? = s.heap[q]?) : LSz C n d A U := by
  obtain ⟨c, k, i, f, a, cell, h1, h2, h3, h4, h5, h6, h7, h8, h9, h10⟩ := h
  obtain ⟨k', hi', he⟩ := State.fieldFound?_setVm hv h2
  exact ⟨c, k', i, f, a, cell, by rw [hv.findClass]; exact h1, hi', h3, by rw [he]; exact h4, by rw [hq a (Array.getElem?_eq_some_iff.mp h5).1 h10]; exact h5, h6, h7, h8, by rw [he]; exact h9, h10⟩
theorem LSz.use {C n d : String} {A : Nat → Prop} {U : State} {args : Array Value} (h : LSz C n d A U) : (Cond.laysStatic C n d).before args U = true := by
  obtain ⟨c, k, i, f, a, cell, h1, h2, h3, h4, h5, h6, h7, h8, h9, h10⟩ := h
  exact Cond.laysStatic_of h1 h2 h3 h4 h5 h6 h7 h8 h9
theorem LSz.of {C n d : String} {A : Nat → Prop} {U : State} {args : Array Value} (h : (Cond.laysStatic C n d).before args U = true) (hA : ∀ a : Nat, a < U.heap.size → ¬ A a) : LSz C n d A U := by
  obtain ⟨c, k, i, f, a, cell, h1, h2, h3, h4, h5, h6, h7, h8, h9⟩ := Cond.laysStatic_spec h
  exact ⟨c, k, i, f, a, cell, h1, h2, h3, h4, h5, h6, h7, h8, h9, hA a (Array.getElem?_eq_some_iff.mp h5).1⟩
/-- what must be known of a state in which it is thrown -/
def thr (A : Nat → Prop) (U : State) : Prop := va_Nw (.castable nseN nseN) U ∧ va_Nw (.declares ⟨"java/lang/RuntimeException", "<init>", "()V"⟩) U ∧ va_Nw (.declares ⟨"java/lang/Exception", "<init>", "()V"⟩) U ∧ va_Nw (.declares ⟨"java/lang/Throwable", "<init>", "()V"⟩) U ∧ va_Zq "java/lang/Throwable" "UNASSIGNED_STACK" "[Ljava/lang/StackTraceElement;" A U U.heap ∧ va_Zq "java/lang/Throwable" "SUPPRESSED_SENTINEL" "Ljava/util/List;" A U U.heap ∧ LSz "java/lang/Throwable" "UNASSIGNED_STACK" "[Ljava/lang/StackTraceElement;" A U ∧ LSz "java/lang/Throwable" "SUPPRESSED_SENTINEL" "Ljava/util/List;" A U
theorem thr.go {A : Nat → Prop} {s U : State} (h : thr A s) (hW : s.WarmedH U.vm) (hq : ∀ q : Nat, q < s.heap.size → ¬ A q → U.heap[q]? = s.heap[q]?) : thr A U := ⟨va_Nw.warmC hW h.1, va_Nw.warmD hW h.2.1, va_Nw.warmD hW h.2.2.1, va_Nw.warmD hW h.2.2.2.1, (h.2.2.2.2.1.moved hW.alike).kept hq, (h.2.2.2.2.2.1.moved hW.alike).kept hq, h.2.2.2.2.2.2.1.go hW.alike hq, h.2.2.2.2.2.2.2.go hW.alike hq⟩
theorem thr.call {A : Nat → Prop} {U V : State} (h : thr A U) (hv : V.vm = U.vm) (hh : V.heap = U.heap) : thr A V := by
  have ha : U.vm.Alike V.vm := by rw [hv]; exact Vm.Alike.refl U.vm
  exact ⟨va_Nw.same rfl hv.symm h.1, va_Nw.same rfl hv.symm h.2.1, va_Nw.same rfl hv.symm h.2.2.1, va_Nw.same rfl hv.symm h.2.2.2.1, by rw [hh]; exact h.2.2.2.2.1.moved ha, by rw [hh]; exact h.2.2.2.2.2.1.moved ha, h.2.2.2.2.2.2.1.go ha (fun q _ _ => by rw [hh]), h.2.2.2.2.2.2.2.go ha (fun q _ _ => by rw [hh])⟩
theorem Zq_ref {C n d : String} {A : Nat → Prop} {U : State} {args : Array Value} (h : va_Zq C n d A U U.heap) : (Cond.isRef (.static C n d)).before args U = true := by
  have key : ∀ v : Value, va_Z C n d v A U U.heap → v.isRef = true → (Cond.isRef (.static C n d)).before args U = true := by
    intro v hz hv
    obtain ⟨cf, kf, fi, f, a, cell, h1, h2, h3, h4, h5, h6, h7, -⟩ := hz
    simp [Cond.before, Cond.holds, Cond.value, Term.eval, State.fieldNamed?, h1, h2, h4, h5, h6, h7]
    first | exact hv | (cases v <;> simp_all [Value.isRef])
  rcases h with h | ⟨t, h⟩
  · exact key _ h rfl
  · exact key _ h rfl
theorem oa_in {A : Nat → Prop} {U : State} {args : Array Value} (hw : ∀ w ∈ lw_good, w.before args U = true) (h : thr A U) : ∀ w ∈ Jvm.Bundle.ownAtoms0 RX12 176 nseN ["java/lang/RuntimeException", "java/lang/Exception"], w.before args U = true := by
  intro w hm
  have a := List.all_eq_true.mp oa_all w hm
  simp only [Bool.or_eq_true, Bool.and_eq_true, decide_eq_true_eq] at a
  rcases a with ⟨a1, a2⟩ | a
  · exact hw w (List.mem_filter.mpr ⟨tb_in a1, a2⟩)
  · simp only [oSp, List.mem_cons, List.not_mem_nil, or_false] at a
    rcases a with rfl | rfl | rfl | rfl | rfl | rfl | rfl | rfl
    · exact va_Nw.use rfl h.1
    · exact va_Nw.use rfl h.2.1
    · exact va_Nw.use rfl h.2.2.1
    · exact va_Nw.use rfl h.2.2.2.1
    · exact Zq_ref h.2.2.2.2.1
    · exact Zq_ref h.2.2.2.2.2.1
    · exact h.2.2.2.2.2.2.1.use
    · exact h.2.2.2.2.2.2.2.use
theorem st_T {s : State} {b : Nat} (hts : ∀ w ∈ lw_tbl, w.before #[Value.ref b] s = true) (hgv : (Jvm.Cond.and given_1 narrow_1).before #[Value.ref b] s = true) : thr (fun q : Nat => s.heap.size ≤ q) s := by
  have hs := flat_of_before _ hgv
  have hA : ∀ a : Nat, a < s.heap.size → ¬ (fun q : Nat => s.heap.size ≤ q) a := fun a h => Nat.not_le.mpr h
  exact ⟨va_Nw.of (A := #[Value.ref b]) rfl (hts _ (gt6 27 (by decide +kernel))), va_Nw.of (A := #[Value.ref b]) rfl (hts _ (gt6 28 (by decide +kernel))), va_Nw.of (A := #[Value.ref b]) rfl (hts _ (gt6 30 (by decide +kernel))), va_Nw.of (A := #[Value.ref b]) rfl (hts _ (gt6 32 (by decide +kernel))), va_Zqof (hts _ (gt6 52 (by decide +kernel))) (hts _ (gt1 21 (by decide +kernel))) (hs _ (by decide +kernel)) hA, va_Zqof (hts _ (gt6 54 (by decide +kernel))) (hts _ (gt1 21 (by decide +kernel))) (hs _ (by decide +kernel)) hA, LSz.of (hts _ (gt6 52 (by decide +kernel))) hA, LSz.of (hts _ (gt6 54 (by decide +kernel))) hA⟩
