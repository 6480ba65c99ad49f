/-! ===== the running world: numbered cells that hold whole numbers; references are cell numbers ===== -/
abbrev jS : Type := Nat → Int → Int
def vI (z : Int) : Value := .int (Int32.ofInt z)
def vL (z : Int) : Value := .long (Int64.ofInt z)
def jv (ad : Nat → Nat) : Value → Value
  | .ref k => .ref (ad k)
  | v => v
theorem jv_cat (ad : Nat → Nat) (v : Value) : (jv ad v).category = v.category := by cases v <;> rfl
abbrev jSh : Type := (Nat × Nat) ⊕ (Nat × List (Nat × Nat))
def jShp : List jSh := [
  .inr (11, [(2, 1), (2, 2), (2, 27), (2, 40), (2, 7), (2, 8), (0, 0), (2, 6), (2, 9), (2, 4), (2, 15), (2, 17), (2, 23), (0, 0), (0, 0)]),
  .inr (7, [(2, 2), (0, 0), (0, 0), (0, 0), (0, 0), (0, 0), (1, 0), (0, 0), (0, 0)]),
  .inr (2, [(2, 3), (0, 0)]),
  .inl (2, 640),
  .inr (2, [(2, 5), (0, 0)]),
  .inl (2, 79),
  .inl (0, 8),
  .inl (5, 2),
  .inl (4, 8),
  .inr (9, [(2, 10), (0, 0), (2, 11), (2, 12), (2, 13), (2, 14)]),
  .inl (0, 16),
  .inl (0, 16),
  .inl (0, 16),
  .inl (0, 8),
  .inl (0, 8),
  .inr (6, [(2, 16), (0, 0)]),
  .inl (0, 100),
  .inr (5, [(2, 18), (2, 19), (2, 20), (2, 21), (2, 22), (0, 0), (0, 0)]),
  .inl (1, 112),
  .inl (1, 112),
  .inl (1, 112),
  .inl (0, 36),
  .inl (3, 36),
  .inr (4, [(2, 24), (2, 25), (2, 26), (0, 0)]),
  .inl (0, 9),
  .inl (0, 36),
  .inl (1, 36),
  .inr (10, [(0, 0), (2, 28), (2, 34), (0, 0), (2, 37), (2, 38)]),
  .inr (1, [(0, 0), (0, 0), (0, 0), (0, 0), (1, 0), (1, 0), (0, 0), (0, 0), (2, 29), (2, 30)]),
  .inl (1, 8),
  .inr (0, [(0, 0), (2, 31), (2, 32), (2, 33)]),
  .inl (0, 8),
  .inl (0, 8),
  .inl (0, 64),
  .inr (3, [(0, 0), (0, 0), (0, 0), (2, 35), (2, 36)]),
  .inl (0, 8),
  .inl (0, 8),
  .inl (0, 4),
  .inr (8, [(0, 0), (0, 0), (2, 39)]),
  .inl (0, 40),
  .inr (10, [(0, 0), (2, 41), (2, 47), (0, 0), (2, 50), (2, 51)]),
  .inr (1, [(0, 0), (0, 0), (0, 0), (0, 0), (1, 0), (1, 0), (0, 0), (0, 0), (2, 42), (2, 43)]),
  .inl (1, 8),
  .inr (0, [(0, 0), (2, 44), (2, 45), (2, 46)]),
  .inl (0, 8),
  .inl (0, 8),
  .inl (0, 64),
  .inr (3, [(0, 0), (0, 0), (0, 0), (2, 48), (2, 49)]),
  .inl (0, 8),
  .inl (0, 8),
  .inl (0, 4),
  .inr (8, [(0, 0), (0, 0), (2, 52)]),
  .inl (0, 40),
  .inr (10, [(0, 0), (2, 54), (2, 60), (0, 0), (2, 63), (2, 64)]),
  .inr (1, [(0, 0), (0, 0), (0, 0), (0, 0), (1, 0), (1, 0), (0, 0), (0, 0), (2, 55), (2, 56)]),
  .inl (1, 8),
  .inr (0, [(0, 0), (2, 57), (2, 58), (2, 59)]),
  .inl (0, 8),
  .inl (0, 8),
  .inl (0, 64),
  .inr (3, [(0, 0), (0, 0), (0, 0), (2, 61), (2, 62)]),
  .inl (0, 8),
  .inl (0, 8),
  .inl (0, 4),
  .inr (8, [(0, 0), (0, 0), (2, 65)]),
  .inl (0, 40),
  .inr (10, [(0, 0), (2, 67), (2, 73), (0, 0), (2, 76), (2, 77)]),
  .inr (1, [(0, 0), (0, 0), (0, 0), (0, 0), (1, 0), (1, 0), (0, 0), (0, 0), (2, 68), (2, 69)]),
  .inl (1, 8),
  .inr (0, [(0, 0), (2, 70), (2, 71), (2, 72)]),
  .inl (0, 8),
  .inl (0, 8),
  .inl (0, 64),
  .inr (3, [(0, 0), (0, 0), (0, 0), (2, 74), (2, 75)]),
  .inl (0, 8),
  .inl (0, 8),
  .inl (0, 4),
  .inr (8, [(0, 0), (0, 0), (2, 78)]),
  .inl (0, 40),
  .inr (0, [(0, 0), (2, 80), (2, 81), (2, 82)]),
  .inl (0, 8),
  .inl (0, 8),
  .inl (0, 64),
  .inr (0, [(0, 0), (2, 84), (2, 85), (2, 86)]),
  .inl (0, 8),
  .inl (0, 8),
  .inl (0, 64),
  .inr (0, [(0, 0), (2, 88), (2, 89), (2, 90)]),
  .inl (0, 8),
  .inl (0, 8),
  .inl (0, 64),
  .inr (0, [(0, 0), (2, 92), (2, 93), (2, 94)]),
  .inl (0, 8),
  .inl (0, 8),
  .inl (0, 64),
  .inr (0, [(0, 0), (2, 96), (2, 97), (2, 98)]),
  .inl (0, 8),
  .inl (0, 8),
  .inl (0, 64),
  .inr (0, [(0, 0), (2, 100), (2, 101), (2, 102)]),
  .inl (0, 8),
  .inl (0, 8),
  .inl (0, 64),
  .inr (0, [(0, 0), (2, 104), (2, 105), (2, 106)]),
  .inl (0, 8),
  .inl (0, 8),
  .inl (0, 64),
  .inr (0, [(0, 0), (2, 108), (2, 109), (2, 110)]),
  .inl (0, 8),
  .inl (0, 8),
  .inl (0, 64),
  .inr (12, [(0, 0), (2, 112), (0, 0), (0, 0), (0, 0), (0, 0), (0, 0), (0, 0), (0, 0), (0, 0), (0, 0), (0, 0), (0, 0), (1, 0), (0, 0), (2, 113), (2, 114), (2, 115), (2, 116), (2, 117), (2, 118), (2, 119), (2, 120), (2, 121), (2, 122), (2, 123), (2, 124), (0, 0), (2, 125), (2, 126), (2, 127), (2, 128), (2, 129), (0, 0), (0, 0), (2, 130), (0, 0), (0, 0), (2, 131), (2, 132), (2, 133), (2, 134), (2, 135), (2, 136), (2, 137), (2, 138), (0, 0), (0, 0), (0, 0), (0, 0), (0, 0)]),
  .inl (0, 640),
  .inl (0, 512),
  .inl (0, 258),
  .inl (0, 20),
  .inl (0, 1024),
  .inl (0, 1928),
  .inl (1, 8),
  .inl (1, 8),
  .inl (1, 64),
  .inl (1, 20),
  .inl (1, 16),
  .inl (1, 40),
  .inl (3, 2),
  .inl (0, 16),
  .inl (0, 16),
  .inl (0, 16),
  .inl (0, 16),
  .inl (0, 16),
  .inl (0, 200),
  .inl (0, 100),
  .inl (0, 100),
  .inl (0, 100),
  .inl (0, 46656),
  .inl (0, 46656),
  .inl (0, 8),
  .inl (0, 240),
  .inl (1, 20),
  .inl (1, 1)]

def jFld (ad : Nat → Nat) (f : Int → Int) (j : Nat) (q : Nat × Nat) : Value :=
  match q.1 with
  | 0 => vI (f j)
  | 1 => vL (f j)
  | _ => .ref (ad q.2)
def jArr (ad : Nat → Nat) (f : Int → Int) (t : Nat) : (Nat → Int32) ⊕ (Nat → Int64) ⊕ (Nat → UInt32) ⊕ (Nat → UInt64) ⊕ (Nat → Option Nat) :=
  match t with
  | 1 => .inr (.inl (fun i => Int64.ofInt (f i)))
  | 4 => .inr (.inr (.inr (.inr (fun i => some (ad (f i).toNat)))))
  | 5 => .inr (.inr (.inr (.inr (fun i => some (ad (f i).toNat)))))
  | _ => .inl (fun i => Int32.ofInt (f i))
def jCell (ad : Nat → Nat) (cA : Nat → ClassId) (f : Int → Int) (h : jSh) : va_E :=
  match h with
  | .inl a => .inl (cA a.1, a.2, jArr ad f a.1)
  | .inr o => .inr (o.1, o.2.mapIdx (jFld ad f))
def jWs (ad : Nat → Nat) (cA : Nat → ClassId) (σ : jS) : va_W := jShp.mapIdx (fun k h => (ad k, jCell ad cA (σ k) h))
def jTys (cA : Nat → ClassId) : List (ClassId × FieldType) := [(cA 0, .int), (cA 1, .long), (cA 2, .byte), (cA 3, .boolean), (cA 4, .object RX0), (cA 5, .object RX11)]
/-- a field of a cell: its class, its kind (0 a number, 1 a long, 2 a cell), the cell -/
def jFd (k j : Nat) : Option (Nat × Nat × Nat) := match jShp[k]? with
  | some (.inr (ci, fs)) => (fs[j]?).map (fun f => (ci, f.1, f.2))
  | _ => none
/-- an array: its type, its length -/
def jAr (k : Nat) : Option (Nat × Nat) := match jShp[k]? with
  | some (.inl a) => some a
  | _ => none
/-- an object: its class -/
def jOb (k : Nat) : Option Nat := match jShp[k]? with
  | some (.inr o) => some o.1
  | _ => none
def ju (σ : jS) (k : Nat) (i z : Int) : jS := fun k' i' => if k' = k ∧ i' = i then z else σ k' i'
/-- a whole row laid anew -/
def jrow (σ : jS) (k : Nat) (f : Int → Int) : jS := fun k' => if k' = k then f else σ k'
theorem jWs_get {ad : Nat → Nat} {cA : Nat → ClassId} {σ : jS} {k : Nat} {h : jSh} (hk : jShp[k]? = some h) : (jWs ad cA σ)[k]? = some (ad k, jCell ad cA (σ k) h) := by
  unfold jWs
  rw [List.getElem?_mapIdx, hk]
  rfl
theorem jWs_set {ad : Nat → Nat} {cA : Nat → ClassId} {σ σ' : jS} {k : Nat} {h : jSh} (hk : jShp[k]? = some h) (ho : ∀ k', k' ≠ k → σ' k' = σ k') : (jWs ad cA σ).set k (ad k, jCell ad cA (σ' k) h) = jWs ad cA σ' := by
  apply List.ext_getElem?
  intro i
  by_cases hi : i = k
  · subst hi
    rw [List.getElem?_set_self (List.getElem?_eq_some_iff.mp (jWs_get (ad := ad) (cA := cA) (σ := σ) hk)).1, jWs_get hk]
  · rw [List.getElem?_set_ne (fun h => hi h.symm)]
    unfold jWs
    rw [List.getElem?_mapIdx, List.getElem?_mapIdx, ho i hi]
theorem jFd_spec {k j ci kd r : Nat} (h : jFd k j = some (ci, kd, r)) : ∃ fs, jShp[k]? = some (.inr (ci, fs)) ∧ fs[j]? = some (kd, r) := by
  unfold jFd at h
  split at h
  · rename_i c fs hs
    cases hf : fs[j]? with
    | none => rw [hf] at h; cases h
    | some q =>
      rw [hf] at h
      cases h
      exact ⟨fs, hs, hf⟩
  · cases h
theorem jAr_spec {k t n : Nat} (h : jAr k = some (t, n)) : jShp[k]? = some (.inl (t, n)) := by
  unfold jAr at h
  split at h
  · rename_i a hs
    cases h
    exact hs
  · cases h
theorem jOb_spec {k ci : Nat} (h : jOb k = some ci) : ∃ fs, jShp[k]? = some (.inr (ci, fs)) := by
  unfold jOb at h
  split at h
  · rename_i o hs
    cases h
    exact ⟨_, hs⟩
  · cases h
def jLv (ad : Nat → Nat) (lv : List (Nat × Value)) : List (Nat × Value) := lv.map (fun q => (q.1, jv ad q.2))
def lw_good : List Cond := lw_tbl.filter goodWord
theorem lw_good_in {w : Cond} (h : w ∈ lw_good) : w ∈ lw_tbl := (List.mem_filter.mp h).1
theorem lw_good_good {ws : List Cond} (h : ∀ w ∈ ws, w ∈ lw_good) : GoodIn lw_good ws := fun w hw => ⟨h w hw, good_of_word (List.mem_filter.mp (h w hw)).2⟩
def jW (y : jMI) : List Cond := Cond.code y.1 y.2.1 y.2.2.1 y.2.2.2 :: lw_good
def jRm (d : Nat) : Room := { frames := d, cells := 0, slots := 0, locals := 64 * d }
/-- what stands fixed in a walk of method y -/
def jCx (y : jMI) (p : Program) (s : State) (m : MethodId) (args : Array Value) (meth : Method) (c : Code) : Prop :=
  p.tables.exec = Jvm.exec ∧ c.code = y.2.1 ∧ meth.sig.returnType = y.2.2.2 ∧ c.maxLocals = y.2.2.1 ∧ s.vm.findClass y.1.cls = some m.cls ∧ (∀ w ∈ lw_good, w.before args s = true) ∧ meth.locks = false
/-! the text of the words, as the class has it, and what the JDK says of texts -/
def jTx : String := "board bell out band at by or and not in alike bent area on within corners right "
def jByt : List Int32 := [98, 111, 97, 114, 100, 32, 98, 101, 108, 108, 32, 111, 117, 116, 32, 98, 97, 110, 100, 32, 97, 116, 32, 98, 121, 32, 111, 114, 32, 97, 110, 100, 32, 110, 111, 116, 32, 105, 110, 32, 97, 108, 105, 107, 101, 32, 98, 101, 110, 116, 32, 97, 114, 101, 97, 32, 111, 110, 32, 119, 105, 116, 104, 105, 110, 32, 99, 111, 114, 110, 101, 114, 115, 32, 114, 105, 103, 104, 116, 32]
def jStr (ad : Nat → Nat) (A : Nat → Prop) (U : State) : Prop := vk_R RX8 78 jTx (ad 1000) U ∧ vk_S 1 [80] [jByt] (fun _ => ad 1000) (fun _ => ad 1001) A U U.heap ∧ va_Z "java/lang/String" "COMPACT_STRINGS" "Z" (.int 1) A U U.heap ∧ (va_Z "jdk/internal/util/Preconditions" "SIOOBE_FORMATTER" "Ljava/util/function/BiFunction;" .null A U U.heap ∨ va_Z "jdk/internal/util/Preconditions" "SIOOBE_FORMATTER" "Ljava/util/function/BiFunction;" (.ref (ad 1002)) A U U.heap)
theorem jStr.go {ad : Nat → Nat} {A : Nat → Prop} {s U : State} (h : jStr ad A s) (hW : s.WarmedH U.vm) (hq : ∀ q : Nat, q < s.heap.size → ¬ A q → U.heap[q]? = s.heap[q]?) : jStr ad A U := by
  obtain ⟨h1, h2, h3, h4⟩ := h
  exact ⟨h1.warm hW, (h2.moved hW.alike).kept hq, (h3.moved hW.alike).kept hq, h4.imp (fun z => (z.moved hW.alike).kept hq) (fun z => (z.moved hW.alike).kept hq)⟩
theorem jStr.call {ad : Nat → Nat} {A : Nat → Prop} {U V : State} (h : jStr ad A U) (hv : V.vm = U.vm) (hh : V.heap = U.heap) : jStr ad A V := by
  obtain ⟨h1, h2, h3, h4⟩ := h
  have ha : U.vm.Alike V.vm := by rw [hv]; exact Vm.Alike.refl U.vm
  exact ⟨vk_R.same hv h1, by rw [hh]; exact h2.moved ha, by rw [hh]; exact h3.moved ha, by rw [hh]; exact h4.imp (fun z => z.moved ha) (fun z => z.moved ha)⟩
def jK (ad : Nat → Nat) (A : Nat → Prop) (D : va_G) (cA : Nat → ClassId) (U : State) : Prop := va_K D vwCl (jTys cA) U ∧ jStr ad A U
theorem jK.go {ad : Nat → Nat} {A : Nat → Prop} {D : va_G} {cA : Nat → ClassId} {s U : State} (h : jK ad A D cA s) (hW : s.WarmedH U.vm) (hq : ∀ q : Nat, q < s.heap.size → ¬ A q → U.heap[q]? = s.heap[q]?) : jK ad A D cA U := ⟨va_K.moved hW.alike h.1, h.2.go hW hq⟩
/-- the world at a state -/
def jAt (ad : Nat → Nat) (A : Nat → Prop) (D : va_G) (cA : Nat → ClassId) (σ : jS) (U : State) : Prop :=
  va_P D vwCl (jWs ad cA σ) U.heap ∧ jK ad A D cA U ∧ va_D A (jWs ad cA σ)
/-- the world within a walk -/
def jWd (ad : Nat → Nat) (A : Nat → Prop) (D : va_G) (cA : Nat → ClassId) (σ : jS) (s : State) (H : Heap) (locs : List Loc) : Prop :=
  jK ad A D cA s ∧ va_P D vwCl (jWs ad cA σ) H ∧ va_D A (jWs ad cA σ) ∧ va_S A s.heap H locs
def jQ (ad : Nat → Nat) (A : Nat → Prop) (D : va_G) (cA : Nat → ClassId) (Po : Option Value → jS → Prop) : Array Value → State → Outcome → State → Prop :=
  fun _ st oc t => (∃ (r : Option Value) (σ' : jS), oc = .returned (r.map (jv ad)) ∧ Po r σ' ∧ jAt ad A D cA σ' t) ∧ va_F A st t
/-- THE CONTRACT of a method: with these arguments in this world it returns, and its answer and the world behind it are as told -/
def Jm (d : Nat) (y : jMI) (as : List Value) (σ : jS) (Po : Option Value → jS → Prop) : Prop :=
  ∀ (l : Launch) (ad : Nat → Nat) (A : Nat → Prop) (D : va_G) (cA : Nat → ClassId),
    Met l y.1 (jW y) (jRm d) (va_Pc (as.map (jv ad)) (jAt ad A D cA σ)) (jQ ad A D cA Po) 0 0 A
/-- THE WALK: at pc with these locals, this stack, this world, the method comes to its end as told -/
def jR (d : Nat) (y : jMI) (Po : Option Value → jS → Prop) (pc : Nat) (lv : List (Nat × Value)) (st : List Value) (σ : jS) : Prop :=
  ∀ (p : Program) (l : Launch) (e : Env) (s : State) (m : MethodId) (args : Array Value) (below : List Frame) (meth : Method) (c : Code) (ad : Nat → Nat) (A : Nat → Prop) (D : va_G) (cA : Nat → ClassId) (H : Heap) (locs : List Loc) (ls : Array Slot),
    jCx y p s m args meth c → jWd ad A D cA σ s H locs → lv_has ls y.2.2.1 (jLv ad lv) →
    W p l e (jRm d) s m args below meth c H locs 0 0 (MQ below (jQ ad A D cA Po) args s 0 0 A) (F0 m pc ls (st.map (jv ad)))
/-- a pure method: an answer, the world as it was -/
def Jp (d : Nat) (y : jMI) (as : List Value) (σ : jS) (v : Value) : Prop := Jm d y as σ (fun r σ' => r = some v ∧ σ' = σ)
/-- the end of a pure method -/
def jP (v : Value) (σ : jS) : Option Value → jS → Prop := fun r σ' => r = some v ∧ σ' = σ
