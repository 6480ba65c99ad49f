/-! ===== the rows of the walk ===== -/
theorem jLv_at {ad : Nat → Nat} {lv : List (Nat × Value)} {ls : Array Slot} {n i : Nat} {v : Value} (h : lv_has ls n (jLv ad lv)) (hi : lv.lookup i = some v) : ls[i]? = some (.val (jv ad v)) := by
  have hm : (i, v) ∈ lv := by
    induction lv with
    | nil => simp at hi
    | cons q t ih =>
      rw [List.lookup_cons] at hi
      by_cases hq : i = q.1
      · subst hq
        rw [show (q.1 == q.1) = true from beq_self_eq_true _] at hi
        cases hi
        exact List.mem_cons_self
      · rw [show (i == q.1) = false from beq_false_of_ne hq] at hi
        refine List.mem_cons_of_mem _ (ih ⟨h.1, h.2.1, fun z hz => h.2.2 z ?_⟩ hi)
        exact List.mem_cons_of_mem _ hz
  exact h.2.2 (i, jv ad v) (List.mem_map.mpr ⟨(i, v), hm, rfl⟩)
section JR
variable {d : Nat} {y : jMI} {Po : Option Value → jS → Prop} {pc pc2 : Nat} {lv lv' : List (Nat × Value)} {st st2 : List Value} {σ : jS}
/-- a row that changes neither world nor locals -/
theorem jR.go (h : ∀ (p : Program) (l : Launch) (e : Env) (s : State) (m : MethodId) (args : Array Value) (below : List Frame) (meth : Method) (c : Code) (ad : Nat → Nat) (H : Heap) (locs : List Loc) (ls : Array Slot) (Q : State → Prop),
      jCx y p s m args meth c → lv_has ls y.2.2.1 (jLv ad lv) → W p l e (jRm d) s m args below meth c H locs 0 0 Q (F0 m pc2 ls (st2.map (jv ad))) → W p l e (jRm d) s m args below meth c H locs 0 0 Q (F0 m pc ls (st.map (jv ad))))
    (k : jR d y Po pc2 lv st2 σ) : jR d y Po pc lv st σ :=
  fun p l e s m args below meth c ad A D cA H locs ls C Wd hl => h p l e s m args below meth c ad H locs ls _ C hl (k p l e s m args below meth c ad A D cA H locs ls C Wd hl)
theorem r_iload {i : Nat} {z : Int} (hd : decode y.2.1 pc = .ok (.iload i, 2)) (hl : lv.lookup i = some (vI z)) (k : jR d y Po (pc + 2) lv (vI z :: st) σ) : jR d y Po pc lv st σ :=
  jR.go (fun p l e s m args below meth c ad H locs ls Q C h K => lv_iload C.1 C.2.1 hd (jLv_at h hl) K) k
theorem r_iload_n {i : Fin 4} {z : Int} (hd : decode y.2.1 pc = .ok (.iload_n i, 1)) (hl : lv.lookup (i : Nat) = some (vI z)) (k : jR d y Po (pc + 1) lv (vI z :: st) σ) : jR d y Po pc lv st σ :=
  jR.go (fun p l e s m args below meth c ad H locs ls Q C h K => lv_iload_n C.1 C.2.1 hd rfl (jLv_at h hl) K) k
theorem r_lload {i : Nat} {z : Int} (hd : decode y.2.1 pc = .ok (.lload i, 2)) (hl : lv.lookup i = some (vL z)) (k : jR d y Po (pc + 2) lv (vL z :: st) σ) : jR d y Po pc lv st σ :=
  jR.go (fun p l e s m args below meth c ad H locs ls Q C h K => lv_lload C.1 C.2.1 hd (jLv_at h hl) K) k
theorem r_lload_n {i : Fin 4} {z : Int} (hd : decode y.2.1 pc = .ok (.lload_n i, 1)) (hl : lv.lookup (i : Nat) = some (vL z)) (k : jR d y Po (pc + 1) lv (vL z :: st) σ) : jR d y Po pc lv st σ :=
  jR.go (fun p l e s m args below meth c ad H locs ls Q C h K => lv_lload_n C.1 C.2.1 hd rfl (jLv_at h hl) K) k
theorem r_aload {i a : Nat} (hd : decode y.2.1 pc = .ok (.aload i, 2)) (hl : lv.lookup i = some (.ref a)) (k : jR d y Po (pc + 2) lv (.ref a :: st) σ) : jR d y Po pc lv st σ :=
  jR.go (fun p l e s m args below meth c ad H locs ls Q C h K => lv_aload C.1 C.2.1 hd (jLv_at h hl) K) k
theorem r_aload_n {i : Fin 4} {a : Nat} (hd : decode y.2.1 pc = .ok (.aload_n i, 1)) (hl : lv.lookup (i : Nat) = some (.ref a)) (k : jR d y Po (pc + 1) lv (.ref a :: st) σ) : jR d y Po pc lv st σ :=
  jR.go (fun p l e s m args below meth c ad H locs ls Q C h K => lv_aload_n C.1 C.2.1 hd rfl (jLv_at h hl) K) k
/-- the locals behind a store -/
def jSt (i : Nat) (v : Value) (lv : List (Nat × Value)) : List (Nat × Value) := (i, v) :: lv.filter (fun q => !(q.1 == i) && !(q.1 + 1 == i && q.2.category == 2))
def jSt2 (i : Nat) (v : Value) (lv : List (Nat × Value)) : List (Nat × Value) := (i, v) :: lv.filter (fun q => !(q.1 == i) && (!(q.1 == i + 1) && !(q.1 + 1 == i && q.2.category == 2)))
theorem jSt_map (ad : Nat → Nat) (i : Nat) (v : Value) (lv : List (Nat × Value)) : (i, jv ad v) :: (jLv ad lv).filter (fun q => !(q.1 == i) && !(q.1 + 1 == i && q.2.category == 2)) = jLv ad (jSt i v lv) := by
  unfold jLv jSt
  rw [List.map_cons, List.filter_map]
  congr 2
  apply List.filter_congr
  intro q _
  simp [Function.comp, jv_cat]
theorem jSt2_map (ad : Nat → Nat) (i : Nat) (v : Value) (lv : List (Nat × Value)) : (i, jv ad v) :: (jLv ad lv).filter (fun q => !(q.1 == i) && (!(q.1 == i + 1) && !(q.1 + 1 == i && q.2.category == 2))) = jLv ad (jSt2 i v lv) := by
  unfold jLv jSt2
  rw [List.map_cons, List.filter_map]
  congr 2
  apply List.filter_congr
  intro q _
  simp [Function.comp, jv_cat]
theorem r_istore {i : Nat} {z : Int} (hd : decode y.2.1 pc = .ok (.istore i, 2)) (hn : i < y.2.2.1) (hl : jSt i (vI z) lv = lv') (k : jR d y Po (pc + 2) lv' st σ) : jR d y Po pc lv (vI z :: st) σ :=
  fun p l e s m args below meth c ad A D cA H locs ls C Wd h => lv_istore C.1 C.2.1 hd h hn ((jSt_map ad i (vI z) lv).trans (by rw [hl])) (fun ls' h' => k p l e s m args below meth c ad A D cA H locs ls' C Wd h')
theorem r_istore_n {i : Fin 4} {z : Int} (hd : decode y.2.1 pc = .ok (.istore_n i, 1)) (hn : (i : Nat) < y.2.2.1) (hl : jSt (i : Nat) (vI z) lv = lv') (k : jR d y Po (pc + 1) lv' st σ) : jR d y Po pc lv (vI z :: st) σ :=
  fun p l e s m args below meth c ad A D cA H locs ls C Wd h => lv_istore_n C.1 C.2.1 hd rfl h hn ((jSt_map ad i (vI z) lv).trans (by rw [hl])) (fun ls' h' => k p l e s m args below meth c ad A D cA H locs ls' C Wd h')
theorem r_astore {i a : Nat} (hd : decode y.2.1 pc = .ok (.astore i, 2)) (hn : i < y.2.2.1) (hl : jSt i (.ref a) lv = lv') (k : jR d y Po (pc + 2) lv' st σ) : jR d y Po pc lv (.ref a :: st) σ :=
  fun p l e s m args below meth c ad A D cA H locs ls C Wd h => lv_astore C.1 C.2.1 hd h hn ((jSt_map ad i (.ref a) lv).trans (by rw [hl])) (fun ls' h' => k p l e s m args below meth c ad A D cA H locs ls' C Wd h')
theorem r_astore_n {i : Fin 4} {a : Nat} (hd : decode y.2.1 pc = .ok (.astore_n i, 1)) (hn : (i : Nat) < y.2.2.1) (hl : jSt (i : Nat) (.ref a) lv = lv') (k : jR d y Po (pc + 1) lv' st σ) : jR d y Po pc lv (.ref a :: st) σ :=
  fun p l e s m args below meth c ad A D cA H locs ls C Wd h => lv_astore_n C.1 C.2.1 hd rfl h hn ((jSt_map ad i (.ref a) lv).trans (by rw [hl])) (fun ls' h' => k p l e s m args below meth c ad A D cA H locs ls' C Wd h')
theorem r_lstore {i : Nat} {z : Int} (hd : decode y.2.1 pc = .ok (.lstore i, 2)) (hn : i + 1 < y.2.2.1) (hl : jSt2 i (vL z) lv = lv') (k : jR d y Po (pc + 2) lv' st σ) : jR d y Po pc lv (vL z :: st) σ :=
  fun p l e s m args below meth c ad A D cA H locs ls C Wd h => lv_lstore C.1 C.2.1 hd h hn ((jSt2_map ad i (vL z) lv).trans (by rw [hl])) (fun ls' h' => k p l e s m args below meth c ad A D cA H locs ls' C Wd h')
theorem r_lstore_n {i : Fin 4} {z : Int} (hd : decode y.2.1 pc = .ok (.lstore_n i, 1)) (hn : (i : Nat) + 1 < y.2.2.1) (hl : jSt2 (i : Nat) (vL z) lv = lv') (k : jR d y Po (pc + 1) lv' st σ) : jR d y Po pc lv (vL z :: st) σ :=
  fun p l e s m args below meth c ad A D cA H locs ls C Wd h => lv_lstore_n C.1 C.2.1 hd rfl h hn ((jSt2_map ad i (vL z) lv).trans (by rw [hl])) (fun ls' h' => k p l e s m args below meth c ad A D cA H locs ls' C Wd h')
theorem jLk {i : Nat} {v : Value} {lv : List (Nat × Value)} (h : lv.lookup i = some v) : ∃ k : Nat, lv[k]? = some (i, v) := by
  induction lv with
  | nil => simp at h
  | cons q t ih =>
    rw [List.lookup_cons] at h
    by_cases hq : i = q.1
    · subst hq
      rw [show (q.1 == q.1) = true from beq_self_eq_true _] at h
      cases h
      exact ⟨0, rfl⟩
    · rw [show (i == q.1) = false from beq_false_of_ne hq] at h
      obtain ⟨k, hk⟩ := ih h
      exact ⟨k + 1, hk⟩
theorem r_iinc {i : Nat} {n z : Int} (hd : decode y.2.1 pc = .ok (.iinc i n, 3)) (hn : i < y.2.2.1) (hi : lv.lookup i = some (vI z)) (hl : jSt i (vI (z + n)) lv = lv') (k : jR d y Po (pc + 3) lv' st σ) : jR d y Po pc lv st σ := by
  intro p l e s m args below meth c ad A D cA H locs ls C Wd h
  obtain ⟨q, hq⟩ := jLk hi
  refine lv_iinc (k := q) (x := Int32.ofInt z) (v := Int32.ofInt (z + n)) C.1 C.2.1 hd h ?_ (by rw [Int32.ofInt_add]) hn ((jSt_map ad i (vI (z + n)) lv).trans (by rw [hl])) (fun ls' h' => k p l e s m args below meth c ad A D cA H locs ls' C Wd h')
  unfold jLv
  rw [List.getElem?_map, hq]
  rfl
theorem r_iconst {n : Int} (hd : decode y.2.1 pc = .ok (.iconst n, 1)) (k : jR d y Po (pc + 1) lv (vI n :: st) σ) : jR d y Po pc lv st σ :=
  jR.go (fun p l e s m args below meth c ad H locs ls Q C h K => lv_iconst C.1 C.2.1 hd rfl K) k
theorem r_bipush {n : Int} (hd : decode y.2.1 pc = .ok (.bipush n, 2)) (hn : (Int8.ofInt n).toInt32 = Int32.ofInt n) (k : jR d y Po (pc + 2) lv (vI n :: st) σ) : jR d y Po pc lv st σ :=
  jR.go (fun p l e s m args below meth c ad H locs ls Q C h K => lv_bipush C.1 C.2.1 hd hn K) k
theorem r_sipush {n : Int} (hd : decode y.2.1 pc = .ok (.sipush n, 3)) (hn : (Int16.ofInt n).toInt32 = Int32.ofInt n) (k : jR d y Po (pc + 3) lv (vI n :: st) σ) : jR d y Po pc lv st σ :=
  jR.go (fun p l e s m args below meth c ad H locs ls Q C h K => lv_sipush C.1 C.2.1 hd hn K) k
theorem r_lconst {n : Fin 2} {z : Int} (hd : decode y.2.1 pc = .ok (.lconst n, 1)) (hz : Int64.ofNat (n : Nat) = Int64.ofInt z) (k : jR d y Po (pc + 1) lv (vL z :: st) σ) : jR d y Po pc lv st σ :=
  jR.go (fun p l e s m args below meth c ad H locs ls Q C h K => lv_lconst C.1 C.2.1 hd hz K) k
theorem r_ldc {idx : Nat} {v : Int32} {z : Int} (hd : decode y.2.1 pc = .ok (.ldc idx, 2)) (hw : Cond.constant y.1.cls idx v ∈ lw_good) (hz : v = Int32.ofInt z) (k : jR d y Po (pc + 2) lv (vI z :: st) σ) : jR d y Po pc lv st σ :=
  jR.go (fun p l e s m args below meth c ad H locs ls Q C h K => lv_ldc (v := Int32.ofInt z) C.1 C.2.1 C.2.2.2.2.1 (C.2.2.2.2.2.1 _ (hz ▸ hw)) hd K) k
theorem r_ldc2 {idx : Nat} {v : Int64} {z : Int} (hd : decode y.2.1 pc = .ok (.ldc2_w idx, 3)) (hw : Cond.constantLong y.1.cls idx v ∈ lw_good) (hz : v = Int64.ofInt z) (k : jR d y Po (pc + 3) lv (vL z :: st) σ) : jR d y Po pc lv st σ :=
  jR.go (fun p l e s m args below meth c ad H locs ls Q C h K => lv_ldc2 (v := Int64.ofInt z) C.1 C.2.1 C.2.2.2.2.1 (C.2.2.2.2.2.1 _ (hz ▸ hw)) hd K) k
theorem r_iadd {a b : Int} (hd : decode y.2.1 pc = .ok (.iadd, 1)) (k : jR d y Po (pc + 1) lv (vI (a + b) :: st) σ) : jR d y Po pc lv (vI b :: vI a :: st) σ :=
  jR.go (fun p l e s m args below meth c ad H locs ls Q C h K => lv_iadd C.1 C.2.1 hd (by rw [← Int32.ofInt_add]; exact K)) k
theorem r_isub {a b : Int} (hd : decode y.2.1 pc = .ok (.isub, 1)) (k : jR d y Po (pc + 1) lv (vI (a - b) :: st) σ) : jR d y Po pc lv (vI b :: vI a :: st) σ :=
  jR.go (fun p l e s m args below meth c ad H locs ls Q C h K => lv_isub C.1 C.2.1 hd (by rw [← Int32.ofInt_sub]; exact K)) k
theorem r_imul {a b : Int} (hd : decode y.2.1 pc = .ok (.imul, 1)) (k : jR d y Po (pc + 1) lv (vI (a * b) :: st) σ) : jR d y Po pc lv (vI b :: vI a :: st) σ :=
  jR.go (fun p l e s m args below meth c ad H locs ls Q C h K => lv_imul C.1 C.2.1 hd (by rw [← Int32.ofInt_mul]; exact K)) k
theorem r_ineg {a : Int} (hd : decode y.2.1 pc = .ok (.ineg, 1)) (k : jR d y Po (pc + 1) lv (vI (-a) :: st) σ) : jR d y Po pc lv (vI a :: st) σ :=
  jR.go (fun p l e s m args below meth c ad H locs ls Q C h K => lv_ineg C.1 C.2.1 hd (by first | (rw [← Int32.ofInt_neg]; exact K) | (rw [show (0 : Int32) - Int32.ofInt a = Int32.ofInt (-a) by rw [Int32.ofInt_neg]; simp]; exact K))) k
theorem r_ladd {a b : Int} (hd : decode y.2.1 pc = .ok (.ladd, 1)) (k : jR d y Po (pc + 1) lv (vL (a + b) :: st) σ) : jR d y Po pc lv (vL b :: vL a :: st) σ :=
  jR.go (fun p l e s m args below meth c ad H locs ls Q C h K => lv_ladd C.1 C.2.1 hd (by rw [← Int64.ofInt_add]; exact K)) k
theorem r_lsub {a b : Int} (hd : decode y.2.1 pc = .ok (.lsub, 1)) (k : jR d y Po (pc + 1) lv (vL (a - b) :: st) σ) : jR d y Po pc lv (vL b :: vL a :: st) σ :=
  jR.go (fun p l e s m args below meth c ad H locs ls Q C h K => lv_lsub C.1 C.2.1 hd (by rw [← Int64.ofInt_sub]; exact K)) k
theorem r_lmul {a b : Int} (hd : decode y.2.1 pc = .ok (.lmul, 1)) (k : jR d y Po (pc + 1) lv (vL (a * b) :: st) σ) : jR d y Po pc lv (vL b :: vL a :: st) σ :=
  jR.go (fun p l e s m args below meth c ad H locs ls Q C h K => lv_lmul C.1 C.2.1 hd (by rw [← Int64.ofInt_mul]; exact K)) k
end JR
