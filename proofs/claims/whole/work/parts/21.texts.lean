/-! ===== texts: the one that the class has, the JDK's methods on it ===== -/
def jb (i : Int) : Int := (jByt.getD i.toNat 0).toInt
def jCEs (y : jMI) (n : Nat) : Prop := Cond.instanceMethod y.1 ∈ lw_good ∧ Cond.selects y.1.cls y.1 y.1 ∈ lw_good ∧ Cond.initialized y.1.cls ∈ lw_good ∧ Cond.code y.1 y.2.1 y.2.2.1 y.2.2.2 ∈ lw_good ∧ y.1.cls = "java/lang/String" ∧ (y.1.cls ≠ "java/lang/invoke/MethodHandle" ∧ y.1.cls ≠ "java/lang/invoke/VarHandle" ∧ (parseMethodDescriptor y.1.desc).map (fun d => d.parameters.length) = some n) ∧ y.2.2.1 ≤ 40
theorem i2c_256 : ∀ n, n < 256 → ((Int32.ofInt (n : Nat)).toUInt32 % 65536).toInt32 = Int32.ofInt (n : Nat) := by decide +kernel
theorem nc_256 : ∀ n, n < 256 → narrow .char (.int (Int32.ofInt (n : Nat))) = .int (Int32.ofInt (n : Nat)) := by decide +kernel
section JRS
variable {d dc : Nat} {y y' : jMI} {Po Po' : Option Value → jS → Prop} {pc : Nat} {lv lv' : List (Nat × Value)} {st st0 : List Value} {σ : jS}
theorem r_ldcS (hd : decode y.2.1 pc = .ok (.ldc 78, 2)) (hy : y.1.cls = RX8) (K : jR d y Po (pc + 2) lv (.ref 1000 :: st) σ) : jR d y Po pc lv st σ := by
  intro p l e s m args below meth c ad A D cA H locs ls C Wd hl
  exact va_ldcS C.1 C.2.1 (own := RX8) (by rw [← hy]; exact C.2.2.2.2.1) Wd.1.2.1 hd (K p l e s m args below meth c ad A D cA H locs ls C Wd hl)
theorem r_strV {idx : Nat} (hd : decode y.2.1 pc = .ok (.getfield idx, 3)) (hw : Cond.fieldLink y.1.cls idx "java/lang/String" "value" "[B" ∈ lw_good) (K : jR d y Po (pc + 3) lv (.ref 1001 :: st) σ) : jR d y Po pc lv (.ref 1000 :: st) σ := by
  intro p l e s m args below meth c ad A D cA H locs ls C Wd hl
  exact vk_getf (v := .ref (ad 1001)) (q := ad 1000) C.1 C.2.1 (Wd.1.2.2.1.1 0 (by decide)).2.2.1 Wd.2.2.2 C.2.2.2.2.1 (C.2.2.2.2.2.1 _ hw) (fun x h => h) hd (K p l e s m args below meth c ad A D cA H locs ls C Wd hl)
theorem r_strC {idx : Nat} (hd : decode y.2.1 pc = .ok (.getfield idx, 3)) (hw : Cond.fieldLink y.1.cls idx "java/lang/String" "coder" "B" ∈ lw_good) (K : jR d y Po (pc + 3) lv (vI 0 :: st) σ) : jR d y Po pc lv (.ref 1000 :: st) σ := by
  intro p l e s m args below meth c ad A D cA H locs ls C Wd hl
  refine vk_getf (v := .int 0) (q := ad 1000) C.1 C.2.1 (Wd.1.2.2.1.1 0 (by decide)).2.1 Wd.2.2.2 C.2.2.2.2.1 (C.2.2.2.2.2.1 _ hw) (fun x h => h) hd ?_
  rw [i_z]
  exact K p l e s m args below meth c ad A D cA H locs ls C Wd hl
theorem r_strG {idx : Nat} (hd : decode y.2.1 pc = .ok (.getstatic idx, 3)) (hw : Cond.fieldLink y.1.cls idx "java/lang/String" "COMPACT_STRINGS" "Z" ∈ lw_good) (K : jR d y Po (pc + 3) lv (vI 1 :: st) σ) : jR d y Po pc lv st σ := by
  intro p l e s m args below meth c ad A D cA H locs ls C Wd hl
  refine va_gets C.1 C.2.1 Wd.1.2.2.2.1 Wd.2.2.2 C.2.2.2.2.1 (C.2.2.2.2.2.1 _ hw) (fun x h => h) hd ?_
  rw [show (1 : Int32) = Int32.ofInt 1 by decide]
  exact K p l e s m args below meth c ad A D cA H locs ls C Wd hl
theorem r_strF {idx : Nat} (hd : decode y.2.1 pc = .ok (.getstatic idx, 3)) (hw : Cond.fieldLink y.1.cls idx "jdk/internal/util/Preconditions" "SIOOBE_FORMATTER" "Ljava/util/function/BiFunction;" ∈ lw_good) (K : ∀ v : Value, (v = .null ∨ v = .ref 1002) → jR d y Po (pc + 3) lv (v :: st) σ) : jR d y Po pc lv st σ := by
  intro p l e s m args below meth c ad A D cA H locs ls C Wd hl
  rcases Wd.1.2.2.2.2 with z | z
  · exact va_gets C.1 C.2.1 z Wd.2.2.2 C.2.2.2.2.1 (C.2.2.2.2.2.1 _ hw) (fun x h => h) hd (K .null (Or.inl rfl) p l e s m args below meth c ad A D cA H locs ls C Wd hl)
  · exact va_gets C.1 C.2.1 z Wd.2.2.2 C.2.2.2.2.1 (C.2.2.2.2.2.1 _ hw) (fun x h => h) hd (K (.ref 1002) (Or.inr rfl) p l e s m args below meth c ad A D cA H locs ls C Wd hl)
theorem r_strL (hd : decode y.2.1 pc = .ok (.arraylength, 1)) (K : jR d y Po (pc + 1) lv (vI 80 :: st) σ) : jR d y Po pc lv (.ref 1001 :: st) σ := by
  intro p l e s m args below meth c ad A D cA H locs ls C Wd hl
  exact va_tlen (t := ad 1001) (v := Int32.ofInt 80) C.1 C.2.1 (Wd.1.2.2.1.1 0 (by decide)).2.2.2 Wd.2.2.2 (by decide) hd (K p l e s m args below meth c ad A D cA H locs ls C Wd hl)
theorem r_strB {i : Int} (hd : decode y.2.1 pc = .ok (.baload, 1)) (hi : 0 ≤ i ∧ i < 80) (K : jR d y Po (pc + 1) lv (vI (jb i) :: st) σ) : jR d y Po pc lv (vI i :: .ref 1001 :: st) σ := by
  intro p l e s m args below meth c ad A D cA H locs ls C Wd hl
  obtain ⟨h1, h2⟩ := jix (n := 80) hi.1 hi.2 (by decide)
  refine va_tb (t := ad 1001) (v := vI (jb i)) C.1 C.2.1 (Wd.1.2.2.1.1 0 (by decide)).2.2.2 Wd.2.2.2 h1 ?_ hd (K p l e s m args below meth c ad A D cA H locs ls C Wd hl)
  rw [h2, jb, vI_of]
  rfl
theorem r_i2c {a : Int} (hd : decode y.2.1 pc = .ok (.i2c, 1)) (ha : 0 ≤ a ∧ a < 256) (k : jR d y Po (pc + 1) lv (vI a :: st) σ) : jR d y Po pc lv (vI a :: st) σ :=
  jR.go (fun p l e s m args below meth c ad H locs ls Q C h K => lv_i2c (v := Int32.ofInt a) C.1 C.2.1 hd (by obtain ⟨n, rfl⟩ := Int.eq_ofNat_of_zero_le ha.1; exact i2c_256 n (by omega)) K) k
theorem r_cret {z : Int} (hd : decode y.2.1 pc = .ok (.ireturn, 1)) (hr : y.2.2.2 = some .char) (hz : 0 ≤ z ∧ z < 256) (hp : Po (some (vI z)) σ) : jR d y Po pc lv [vI z] σ :=
  fun p l e s m args below meth c ad A D cA H locs ls C Wd hl => W.zret (v := Int32.ofInt z) (ty := .char) C.1 C.2.1 (C.2.2.1.trans hr) (by obtain ⟨n, rfl⟩ := Int.eq_ofNat_of_zero_le hz.1; exact nc_256 n (by omega)) (fun t ht hW => ⟨⟨some (vI z), σ, rfl, hp, by rw [ht]; exact Wd.2.1, jK.go Wd.1 hW (by rw [ht]; exact Wd.2.2.2.2.1), Wd.2.2.1⟩, Wd.2.2.2.F ht⟩) Wd.2.2.2.2.2 hd C.2.2.2.2.2.2
theorem r_bret0 (hd : decode y.2.1 pc = .ok (.ireturn, 1)) (hr : y.2.2.2 = some .byte) (hp : Po (some (vI 0)) σ) : jR d y Po pc lv [vI 0] σ :=
  fun p l e s m args below meth c ad A D cA H locs ls C Wd hl => W.zret (v := Int32.ofInt 0) (ty := .byte) C.1 C.2.1 (C.2.2.1.trans hr) (by decide +kernel) (fun t ht hW => ⟨⟨some (vI 0), σ, rfl, hp, by rw [ht]; exact Wd.2.1, jK.go Wd.1 hW (by rw [ht]; exact Wd.2.2.2.2.1), Wd.2.2.1⟩, Wd.2.2.2.F ht⟩) Wd.2.2.2.2.2 hd C.2.2.2.2.2.2
theorem r_callVs {idx n : Nat} {as : List Value} (hd : decode y.2.1 pc = .ok (.invokevirtual idx, 3)) (hw : Cond.methodLink y.1.cls idx y'.1 ∈ lw_good) (hc : jCEs y' n) (hdc : dc < d) (hst : st0 = as.reverse ++ .ref 1000 :: st) (hn : as.length = n) (hcat : (st.map fun v => v.category).sum ≤ 8) (hM : Jm dc y' (.ref 1000 :: as) σ Po')
    (K : ∀ r σ', Po' r σ' → jR d y Po (pc + 3) lv (r.toList ++ st) σ') : jR d y Po pc lv st0 σ := by
  intro p l e s m args below meth c ad A D cA H locs ls C Wd hl
  obtain ⟨c1, c2, c3, c4, c5, c6, c7⟩ := hc
  subst hst
  refine jR.behind (a := (Value.ref (ad 1000) :: as.map (jv ad)).toArray) ?_ C Wd hl K
  have hG : GoodIn lw_good (wsV y.1.cls idx y'.1.cls y'.1 (jW y')) := lw_good_good (fun w h => by
    simp only [wsV, jW, List.mem_append, List.mem_cons, List.not_mem_nil, or_false] at h
    rcases h with (rfl | rfl | rfl | rfl) | rfl | h
    · exact hw
    · exact c1
    · exact c2
    · exact c3
    · exact c4
    · exact h)
  refine va_runV (C := y'.1.cls) (b := ad 1000) (As := as.map (jv ad)) (n := n) ⟨C.1, C.2.1, C.2.2.2.1, C.2.2.2.2.1, C.2.2.2.2.2.1⟩ (hM l ad A D cA)
    (cwV n C.2.2.2.2.2.1 hG rfl rfl rfl ⟨rfl, c6⟩ ⟨hdc, by show 8 + (y'.2.2.1 + 11) + 64 * dc ≤ 64 * d; omega⟩)
    ⟨jblind _ _ _ _ _ _, ?_, fun U hU hW => ⟨rfl, by rw [hU]; exact Wd.2.1, jK.go Wd.1 hW (by rw [hU]; exact Wd.2.2.2.2.1), Wd.2.2.1⟩⟩ rfl (by rw [List.length_map]; exact hn) hl.1 ?_ (lv_room ?_) hd ⟨Nat.le_refl _, Nat.le_refl _⟩
  · rw [c5]
    exact vk_recv (i := 0) Wd.1.2.2.1 (by decide) Wd.2.2.2
  · show (as.reverse ++ .ref 1000 :: st).map (jv ad) = _
    rw [List.map_append, List.map_reverse]
    rfl
  · rw [List.map_map, show ((fun v : Value => v.category) ∘ jv ad) = fun v => v.category from funext (fun v => jv_cat ad v)]
    exact hcat
theorem r_sV0 {idx : Nat} {v : Value} (hd : decode y.2.1 pc = .ok (.invokevirtual idx, 3)) (hw : Cond.methodLink y.1.cls idx y'.1 ∈ lw_good) (hc : jCEs y' 0) (hdc : dc < d) (hcat : (st.map fun v => v.category).sum ≤ 8) (hM : Jp dc y' [.ref 1000] σ v) (K : jR d y Po (pc + 3) lv (v :: st) σ) : jR d y Po pc lv (.ref 1000 :: st) σ :=
  r_callVs (as := []) hd hw hc hdc rfl rfl hcat hM (fun r σ' h => by obtain ⟨rfl, rfl⟩ := h; exact K)
theorem r_sV1 {idx : Nat} {v v1 : Value} (hd : decode y.2.1 pc = .ok (.invokevirtual idx, 3)) (hw : Cond.methodLink y.1.cls idx y'.1 ∈ lw_good) (hc : jCEs y' 1) (hdc : dc < d) (hcat : (st.map fun v => v.category).sum ≤ 8) (hM : Jp dc y' [.ref 1000, v1] σ v) (K : jR d y Po (pc + 3) lv (v :: st) σ) : jR d y Po pc lv (v1 :: .ref 1000 :: st) σ :=
  r_callVs (as := [v1]) hd hw hc hdc rfl rfl hcat hM (fun r σ' h => by obtain ⟨rfl, rfl⟩ := h; exact K)
end JRS
def RJ0 : String := "java/lang/String"
def RJ1 : String := "java/lang/StringLatin1"
def RJ3 : String := "jdk/internal/util/Preconditions"
abbrev cJ0_length_8abf5 : ByteArray := prog_22_method_54_code
def yJ0_length_8abf5 : MethodName := ⟨RJ0, "length", "()I"⟩
abbrev miJ0_length_8abf5 : jMI := (yJ0_length_8abf5, cJ0_length_8abf5, 1, some .int)
def dlJ0_length_8abf5 : List (Nat × Instr × Nat) := [(0, .aload_n 0, 1), (1, .getfield 9, 3), (4, .arraylength, 1), (5, .aload_n 0, 1), (6, .invokevirtual 335, 3), (9, .ishr, 1), (10, .ireturn, 1)]
theorem dkJ0_length_8abf5 : dlJ0_length_8abf5.all (fun q => dok cJ0_length_8abf5 q.1 q.2.1 q.2.2) = true := by decide +kernel
theorem ceJ0_length_8abf5 : jCEs miJ0_length_8abf5 0 := ⟨gm2 202 (by decide +kernel), gm2 203 (by decide +kernel), gm1 15 (by decide +kernel), gm2 204 ⟨rfl, rfl⟩, rfl, ⟨by decide +kernel, by decide +kernel, by decide +kernel⟩, by decide⟩
abbrev cJ0_charAt_5068e : ByteArray := prog_22_method_56_code
def yJ0_charAt_5068e : MethodName := ⟨RJ0, "charAt", "(I)C"⟩
abbrev miJ0_charAt_5068e : jMI := (yJ0_charAt_5068e, cJ0_charAt_5068e, 2, some .char)
def dlJ0_charAt_5068e : List (Nat × Instr × Nat) := [(0, .aload_n 0, 1), (1, .invokevirtual 492, 3), (4, .ifCond .eq 12, 3), (7, .aload_n 0, 1), (8, .getfield 9, 3), (11, .iload_n 1, 1), (12, .invokestatic 495, 3), (15, .ireturn, 1), (16, .aload_n 0, 1), (17, .getfield 9, 3), (20, .iload_n 1, 1), (21, .invokestatic 498, 3), (24, .ireturn, 1)]
theorem dkJ0_charAt_5068e : dlJ0_charAt_5068e.all (fun q => dok cJ0_charAt_5068e q.1 q.2.1 q.2.2) = true := by decide +kernel
theorem ceJ0_charAt_5068e : jCEs miJ0_charAt_5068e 1 := ⟨gm2 212 (by decide +kernel), gm2 213 (by decide +kernel), gm1 15 (by decide +kernel), gm2 214 ⟨rfl, rfl⟩, rfl, ⟨by decide +kernel, by decide +kernel, by decide +kernel⟩, by decide⟩
abbrev cJ0_coder_7d493 : ByteArray := prog_22_method_152_code
def yJ0_coder_7d493 : MethodName := ⟨RJ0, "coder", "()B"⟩
abbrev miJ0_coder_7d493 : jMI := (yJ0_coder_7d493, cJ0_coder_7d493, 1, some .byte)
def dlJ0_coder_7d493 : List (Nat × Instr × Nat) := [(0, .getstatic 38, 3), (3, .ifCond .eq 10, 3), (6, .aload_n 0, 1), (7, .getfield 15, 3), (10, .goto 4, 3), (13, .iconst 1, 1), (14, .ireturn, 1)]
theorem dkJ0_coder_7d493 : dlJ0_coder_7d493.all (fun q => dok cJ0_coder_7d493 q.1 q.2.1 q.2.2) = true := by decide +kernel
theorem ceJ0_coder_7d493 : jCEs miJ0_coder_7d493 0 := ⟨gm2 206 (by decide +kernel), gm2 207 (by decide +kernel), gm1 15 (by decide +kernel), gm2 208 ⟨rfl, rfl⟩, rfl, ⟨by decide +kernel, by decide +kernel, by decide +kernel⟩, by decide⟩
abbrev cJ0_isLatin1_aae02 : ByteArray := prog_22_method_154_code
def yJ0_isLatin1_aae02 : MethodName := ⟨RJ0, "isLatin1", "()Z"⟩
abbrev miJ0_isLatin1_aae02 : jMI := (yJ0_isLatin1_aae02, cJ0_isLatin1_aae02, 1, some .boolean)
def dlJ0_isLatin1_aae02 : List (Nat × Instr × Nat) := [(0, .getstatic 38, 3), (3, .ifCond .eq 14, 3), (6, .aload_n 0, 1), (7, .getfield 15, 3), (10, .ifCond .ne 7, 3), (13, .iconst 1, 1), (14, .goto 4, 3), (17, .iconst 0, 1), (18, .ireturn, 1)]
theorem dkJ0_isLatin1_aae02 : dlJ0_isLatin1_aae02.all (fun q => dok cJ0_isLatin1_aae02 q.1 q.2.1 q.2.2) = true := by decide +kernel
theorem ceJ0_isLatin1_aae02 : jCEs miJ0_isLatin1_aae02 0 := ⟨gm2 216 (by decide +kernel), gm2 217 (by decide +kernel), gm1 15 (by decide +kernel), gm2 218 ⟨rfl, rfl⟩, rfl, ⟨by decide +kernel, by decide +kernel, by decide +kernel⟩, by decide⟩
abbrev cJ0_checkIndex_df160 : ByteArray := prog_22_method_155_code
def yJ0_checkIndex_df160 : MethodName := ⟨RJ0, "checkIndex", "(II)V"⟩
abbrev miJ0_checkIndex_df160 : jMI := (yJ0_checkIndex_df160, cJ0_checkIndex_df160, 2, none)
def dlJ0_checkIndex_df160 : List (Nat × Instr × Nat) := [(0, .iload_n 0, 1), (1, .iload_n 1, 1), (2, .getstatic 1053, 3), (5, .invokestatic 1059, 3), (8, .pop, 1), (9, .return_, 1)]
theorem dkJ0_checkIndex_df160 : dlJ0_checkIndex_df160.all (fun q => dok cJ0_checkIndex_df160 q.1 q.2.1 q.2.2) = true := by decide +kernel
theorem seJ0_checkIndex_df160 : jSE miJ0_checkIndex_df160 2 := ⟨gm2 223 (by decide +kernel), gm1 15 (by decide +kernel), gm2 224 ⟨rfl, rfl⟩, ⟨by decide +kernel, by decide +kernel, by decide +kernel⟩, by decide⟩
abbrev cJ1_charAt_3b067 : ByteArray := prog_23_method_2_code
def yJ1_charAt_3b067 : MethodName := ⟨RJ1, "charAt", "([BI)C"⟩
abbrev miJ1_charAt_3b067 : jMI := (yJ1_charAt_3b067, cJ1_charAt_3b067, 2, some .char)
def dlJ1_charAt_3b067 : List (Nat × Instr × Nat) := [(0, .iload_n 1, 1), (1, .aload_n 0, 1), (2, .arraylength, 1), (3, .invokestatic 9, 3), (6, .aload_n 0, 1), (7, .iload_n 1, 1), (8, .baload, 1), (9, .sipush 255, 3), (12, .iand, 1), (13, .i2c, 1), (14, .ireturn, 1)]
theorem dkJ1_charAt_3b067 : dlJ1_charAt_3b067.all (fun q => dok cJ1_charAt_3b067 q.1 q.2.1 q.2.2) = true := by decide +kernel
theorem seJ1_charAt_3b067 : jSE miJ1_charAt_3b067 2 := ⟨gm2 220 (by decide +kernel), gm1 16 (by decide +kernel), gm2 221 ⟨rfl, rfl⟩, ⟨by decide +kernel, by decide +kernel, by decide +kernel⟩, by decide⟩
abbrev cJ3_checkIndex_8e157 : ByteArray := prog_31_method_11_code
def yJ3_checkIndex_8e157 : MethodName := ⟨RJ3, "checkIndex", "(IILjava/util/function/BiFunction;)I"⟩
abbrev miJ3_checkIndex_8e157 : jMI := (yJ3_checkIndex_8e157, cJ3_checkIndex_8e157, 3, some .int)
def dlJ3_checkIndex_8e157 : List (Nat × Instr × Nat) := [(0, .iload_n 0, 1), (1, .ifCond .lt 8, 3), (4, .iload_n 0, 1), (5, .iload_n 1, 1), (6, .if_icmp .lt 10, 3), (9, .aload_n 2, 1), (10, .iload_n 0, 1), (11, .iload_n 1, 1), (12, .invokestatic 95, 3), (15, .athrow, 1), (16, .iload_n 0, 1), (17, .ireturn, 1)]
theorem dkJ3_checkIndex_8e157 : dlJ3_checkIndex_8e157.all (fun q => dok cJ3_checkIndex_8e157 q.1 q.2.1 q.2.2) = true := by decide +kernel
theorem seJ3_checkIndex_8e157 : jSE miJ3_checkIndex_8e157 3 := ⟨gm2 228 (by decide +kernel), gm1 17 (by decide +kernel), gm2 229 ⟨rfl, rfl⟩, ⟨by decide +kernel, by decide +kernel, by decide +kernel⟩, by decide⟩
theorem mlX8_80 : Cond.methodLink RX8 80 yJ0_length_8abf5 ∈ lw_good := gm2 201 (by decide +kernel)
theorem mlX8_85 : Cond.methodLink RX8 85 yJ0_charAt_5068e ∈ lw_good := gm2 211 (by decide +kernel)
theorem mlJ0_335 : Cond.methodLink RJ0 335 yJ0_coder_7d493 ∈ lw_good := gm2 205 (by decide +kernel)
theorem mlJ0_492 : Cond.methodLink RJ0 492 yJ0_isLatin1_aae02 ∈ lw_good := gm2 215 (by decide +kernel)
theorem mlJ0_495 : Cond.methodLink RJ0 495 yJ1_charAt_3b067 ∈ lw_good := gm2 219 (by decide +kernel)
theorem mlJ0_1059 : Cond.methodLink RJ0 1059 yJ3_checkIndex_8e157 ∈ lw_good := gm2 227 (by decide +kernel)
theorem mlJ1_9 : Cond.methodLink RJ1 9 yJ0_checkIndex_df160 ∈ lw_good := gm2 222 (by decide +kernel)
theorem fwJ0_9 : Cond.fieldLink RJ0 9 "java/lang/String" "value" "[B" ∈ lw_good := gm9 90 (by decide +kernel)
theorem fwJ0_15 : Cond.fieldLink RJ0 15 "java/lang/String" "coder" "B" ∈ lw_good := gm9 91 (by decide +kernel)
theorem fwJ0_38 : Cond.fieldLink RJ0 38 "java/lang/String" "COMPACT_STRINGS" "Z" ∈ lw_good := gm2 209 (by decide +kernel)
theorem fwJ0_1053 : Cond.fieldLink RJ0 1053 "jdk/internal/util/Preconditions" "SIOOBE_FORMATTER" "Ljava/util/function/BiFunction;" ∈ lw_good := gm2 225 (by decide +kernel)

theorem c_J0_coder {σ : jS} : Jp 1 miJ0_coder_7d493 [.ref 1000] σ (vI 0) := by
  refine jm_ofF (Po := jP (vI 0) σ) (plainFor_of_name (by decide)) (Nat.le_of_ble_eq_true rfl) (lv := [(0, _)]) rfl ?_
  refine r_strG (dc dkJ0_coder_7d493 0 rfl) fwJ0_38 (np 3 rfl ?_)
  refine r_if_eq (tgt := 13) (dc dkJ0_coder_7d493 1 rfl) rfl (by decide) (fun h => absurd h (by decide)) (fun _ => np 6 rfl ?_)
  refine r_aload_n (dc dkJ0_coder_7d493 2 rfl) rfl (np 7 rfl ?_)
  refine r_strC (dc dkJ0_coder_7d493 3 rfl) fwJ0_15 (np 10 rfl ?_)
  refine r_goto (tgt := 14) (dc dkJ0_coder_7d493 4 rfl) rfl ?_
  exact r_bret0 (dc dkJ0_coder_7d493 6 rfl) rfl ⟨rfl, rfl⟩
theorem c_J0_isLatin1 {σ : jS} : Jp 1 miJ0_isLatin1_aae02 [.ref 1000] σ (vI 1) := by
  refine jm_ofF (Po := jP (vI 1) σ) (plainFor_of_name (by decide)) (Nat.le_of_ble_eq_true rfl) (lv := [(0, _)]) rfl ?_
  refine r_strG (dc dkJ0_isLatin1_aae02 0 rfl) fwJ0_38 (np 3 rfl ?_)
  refine r_if_eq (tgt := 17) (dc dkJ0_isLatin1_aae02 1 rfl) rfl (by decide) (fun h => absurd h (by decide)) (fun _ => np 6 rfl ?_)
  refine r_aload_n (dc dkJ0_isLatin1_aae02 2 rfl) rfl (np 7 rfl ?_)
  refine r_strC (dc dkJ0_isLatin1_aae02 3 rfl) fwJ0_15 (np 10 rfl ?_)
  refine r_if_ne (tgt := 17) (dc dkJ0_isLatin1_aae02 4 rfl) rfl (by decide) (fun h => absurd rfl h) (fun _ => np 13 rfl ?_)
  refine r_iconst (dc dkJ0_isLatin1_aae02 5 rfl) (np 14 rfl ?_)
  refine r_goto (tgt := 18) (dc dkJ0_isLatin1_aae02 6 rfl) rfl ?_
  exact r_zret (dc dkJ0_isLatin1_aae02 8 rfl) rfl (Or.inr rfl) ⟨rfl, rfl⟩
theorem c_J0_length {σ : jS} : Jp 2 miJ0_length_8abf5 [.ref 1000] σ (vI 80) := by
  refine jm_ofF (Po := jP (vI 80) σ) (plainFor_of_name (by decide)) (Nat.le_of_ble_eq_true rfl) (lv := [(0, _)]) rfl ?_
  refine r_aload_n (dc dkJ0_length_8abf5 0 rfl) rfl (np 1 rfl ?_)
  refine r_strV (dc dkJ0_length_8abf5 1 rfl) fwJ0_9 (np 4 rfl ?_)
  refine r_strL (dc dkJ0_length_8abf5 2 rfl) (np 5 rfl ?_)
  refine r_aload_n (dc dkJ0_length_8abf5 3 rfl) rfl (np 6 rfl ?_)
  refine r_sV0 (y' := miJ0_coder_7d493) (dc dkJ0_length_8abf5 4 rfl) mlJ0_335 ceJ0_coder_7d493 (Nat.le_of_ble_eq_true rfl) (Nat.le_of_ble_eq_true rfl) c_J0_coder (np 9 rfl ?_)
  refine r_ishr (dc dkJ0_length_8abf5 5 rfl) (np 10 rfl ?_)
  refine r_eqI 80 (by decide) ?_
  exact r_iret (dc dkJ0_length_8abf5 6 rfl) rfl ⟨rfl, rfl⟩
theorem c_J3_check {σ : jS} {i n : Int} {v : Value} (hv : v = .null ∨ v = .ref 1002) (hi : 0 ≤ i ∧ i < n ∧ n ≤ 1000) : Jp 1 miJ3_checkIndex_8e157 [vI i, vI n, v] σ (vI i) := by
  refine jm_ofF (Po := jP (vI i) σ) (plainFor_of_name (by decide)) (by rcases hv with rfl | rfl <;> exact Nat.le_of_ble_eq_true rfl) (lv := [(0, vI i), (1, vI n), (2, v)]) rfl ?_
  refine r_iload_n (dc dkJ3_checkIndex_8e157 0 rfl) rfl (np 1 rfl ?_)
  refine r_if_lt (tgt := 9) (dc dkJ3_checkIndex_8e157 1 rfl) rfl (by omega) (fun h => by omega) (fun _ => np 4 rfl ?_)
  refine r_iload_n (dc dkJ3_checkIndex_8e157 2 rfl) rfl (np 5 rfl ?_)
  refine r_iload_n (dc dkJ3_checkIndex_8e157 3 rfl) rfl (np 6 rfl ?_)
  refine r_icmp_lt (tgt := 16) (dc dkJ3_checkIndex_8e157 4 rfl) rfl (by omega) (by omega) (fun _ => ?_) (fun h => by omega)
  refine r_iload_n (dc dkJ3_checkIndex_8e157 10 rfl) rfl (np 17 rfl ?_)
  exact r_iret (dc dkJ3_checkIndex_8e157 11 rfl) rfl ⟨rfl, rfl⟩
theorem c_J0_check {σ : jS} {i n : Int} (hi : 0 ≤ i ∧ i < n ∧ n ≤ 1000) : Jm 2 miJ0_checkIndex_df160 [vI i, vI n] σ (fun r τ => r = none ∧ τ = σ) := by
  refine jm_ofF (Po := fun r τ => r = none ∧ τ = σ) (plainFor_of_name (by decide)) (Nat.le_of_ble_eq_true rfl) (lv := [(0, _), (1, _)]) rfl ?_
  refine r_iload_n (dc dkJ0_checkIndex_df160 0 rfl) rfl (np 1 rfl ?_)
  refine r_iload_n (dc dkJ0_checkIndex_df160 1 rfl) rfl (np 2 rfl ?_)
  refine r_strF (dc dkJ0_checkIndex_df160 2 rfl) fwJ0_1053 (fun v hv => np 5 rfl ?_)
  refine r_pS3 (y' := miJ3_checkIndex_8e157) (dc dkJ0_checkIndex_df160 3 rfl) mlJ0_1059 seJ3_checkIndex_8e157 (Nat.le_of_ble_eq_true rfl) (Nat.le_of_ble_eq_true rfl) (c_J3_check hv hi) (np 8 rfl ?_)
  refine r_pop (dc dkJ0_checkIndex_df160 4 rfl) rfl (np 9 rfl ?_)
  exact r_vret (dc dkJ0_checkIndex_df160 5 rfl) rfl ⟨rfl, rfl⟩
theorem jb_all : ∀ n, n < 80 → 32 ≤ jb (n : Nat) ∧ jb (n : Nat) ≤ 122 ∧ iAnd (jb (n : Nat)) 255 = jb (n : Nat) := by decide +kernel
theorem jb_b (i : Int) (h : 0 ≤ i ∧ i < 80) : 32 ≤ jb i ∧ jb i ≤ 122 := by
  obtain ⟨n, rfl⟩ := Int.eq_ofNat_of_zero_le h.1
  have := jb_all n (by omega)
  exact ⟨this.1, this.2.1⟩
theorem jb_and (i : Int) (h : 0 ≤ i ∧ i < 80) : iAnd (jb i) 255 = jb i := by
  obtain ⟨n, rfl⟩ := Int.eq_ofNat_of_zero_le h.1
  exact (jb_all n (by omega)).2.2
theorem c_J1_charAt {σ : jS} {i : Int} (hi : 0 ≤ i ∧ i < 80) : Jp 3 miJ1_charAt_3b067 [.ref 1001, vI i] σ (vI (jb i)) := by
  have hb := jb_b i hi
  refine jm_ofF (Po := jP (vI (jb i)) σ) (plainFor_of_name (by decide)) (Nat.le_of_ble_eq_true rfl) (lv := [(0, _), (1, _)]) rfl ?_
  refine r_iload_n (dc dkJ1_charAt_3b067 0 rfl) rfl (np 1 rfl ?_)
  refine r_aload_n (dc dkJ1_charAt_3b067 1 rfl) rfl (np 2 rfl ?_)
  refine r_strL (dc dkJ1_charAt_3b067 2 rfl) (np 3 rfl ?_)
  refine r_cS2 (y' := miJ0_checkIndex_df160) (dc dkJ1_charAt_3b067 3 rfl) mlJ1_9 seJ0_checkIndex_df160 (Nat.le_of_ble_eq_true rfl) (Nat.le_of_ble_eq_true rfl) (c_J0_check (by omega)) (fun r τ hp => np 6 rfl ?_)
  obtain ⟨rfl, rfl⟩ := hp
  refine r_aload_n (dc dkJ1_charAt_3b067 4 rfl) rfl (np 7 rfl ?_)
  refine r_iload_n (dc dkJ1_charAt_3b067 5 rfl) rfl (np 8 rfl ?_)
  refine r_strB (dc dkJ1_charAt_3b067 6 rfl) hi (np 9 rfl ?_)
  refine r_sipush (dc dkJ1_charAt_3b067 7 rfl) sp_255 (np 12 rfl ?_)
  refine r_iand (dc dkJ1_charAt_3b067 8 rfl) (np 13 rfl ?_)
  refine r_eqI (jb i) (jb_and i hi) ?_
  refine r_i2c (dc dkJ1_charAt_3b067 9 rfl) (by omega) (np 14 rfl ?_)
  exact r_cret (dc dkJ1_charAt_3b067 10 rfl) rfl (by omega) ⟨rfl, rfl⟩
theorem c_J0_charAt {σ : jS} {i : Int} (hi : 0 ≤ i ∧ i < 80) : Jp 4 miJ0_charAt_5068e [.ref 1000, vI i] σ (vI (jb i)) := by
  have hb := jb_b i hi
  refine jm_ofF (Po := jP (vI (jb i)) σ) (plainFor_of_name (by decide)) (Nat.le_of_ble_eq_true rfl) (lv := [(0, _), (1, _)]) rfl ?_
  refine r_aload_n (dc dkJ0_charAt_5068e 0 rfl) rfl (np 1 rfl ?_)
  refine r_sV0 (y' := miJ0_isLatin1_aae02) (dc dkJ0_charAt_5068e 1 rfl) mlJ0_492 ceJ0_isLatin1_aae02 (Nat.le_of_ble_eq_true rfl) (Nat.le_of_ble_eq_true rfl) c_J0_isLatin1 (np 4 rfl ?_)
  refine r_if_eq (tgt := 16) (dc dkJ0_charAt_5068e 2 rfl) rfl (by decide) (fun h => absurd h (by decide)) (fun _ => np 7 rfl ?_)
  refine r_aload_n (dc dkJ0_charAt_5068e 3 rfl) rfl (np 8 rfl ?_)
  refine r_strV (dc dkJ0_charAt_5068e 4 rfl) fwJ0_9 (np 11 rfl ?_)
  refine r_iload_n (dc dkJ0_charAt_5068e 5 rfl) rfl (np 12 rfl ?_)
  refine r_pS2 (y' := miJ1_charAt_3b067) (dc dkJ0_charAt_5068e 6 rfl) mlJ0_495 seJ1_charAt_3b067 (Nat.le_of_ble_eq_true rfl) (Nat.le_of_ble_eq_true rfl) (c_J1_charAt hi) (np 15 rfl ?_)
  exact r_cret (dc dkJ0_charAt_5068e 7 rfl) rfl (by omega) ⟨rfl, rfl⟩
/-! the words' numbers -/
def scN : Nat → Int × Int
  | 0 => (0, 0)
  | n + 1 => if jb n = 32 then ((scN n).1 + 1, 0) else ((scN n).1, (scN n).2 * 27 + (jb n - 97 + 1))
def wcs : List Int := [1359346, 43347, 11522, 40477, 47, 79, 423, 1111, 10631, 257, 774500, 43409, 32941, 419, 335207579, 1387340722, 9748424]
def wc (k : Int) : Int := wcs.getD k.toNat (-1)
noncomputable def kdW (w : Int) : Int := if fi (fun k => wc k = w) 17 = -1 then 3 else 100 + fi (fun k => wc k = w) 17
theorem scN_s {i : Int} (h : 0 ≤ i) : scN (i + 1).toNat = if jb i = 32 then ((scN i.toNat).1 + 1, 0) else ((scN i.toNat).1, (scN i.toNat).2 * 27 + (jb i - 97 + 1)) := by
  rw [show (i + 1).toNat = i.toNat + 1 by omega, scN, Int.toNat_of_nonneg h]
theorem sc_all : ∀ n, n < 81 → 0 ≤ (scN n).1 ∧ (scN n).1 ≤ 17 ∧ 0 ≤ (scN n).2 ∧ (scN n).2 ≤ 1000000000000 := by decide +kernel
theorem sc_b (i : Int) (h : 0 ≤ i ∧ i ≤ 80) : 0 ≤ (scN i.toNat).1 ∧ (scN i.toNat).1 ≤ 17 ∧ 0 ≤ (scN i.toNat).2 ∧ (scN i.toNat).2 ≤ 1000000000000 := sc_all i.toNat (by omega)
theorem sc_e : (17 : Int) ≤ (scN (80 : Int).toNat).1 := by decide +kernel
theorem sc_w_all : ∀ n, n < 80 → jb (n : Nat) = 32 → (scN n).2 = wc (scN n).1 ∧ (scN n).1 < 17 := by decide +kernel
theorem sc_w (i : Int) (h : 0 ≤ i ∧ i < 80) (h2 : jb i = 32) : (scN i.toNat).2 = wc (scN i.toNat).1 := by
  obtain ⟨n, rfl⟩ := Int.eq_ofNat_of_zero_le h.1
  exact (sc_w_all n (by omega) h2).1
theorem sc_l (i : Int) (h : 0 ≤ i ∧ i < 80) (h2 : jb i = 32) : (scN i.toNat).1 < 17 := by
  obtain ⟨n, rfl⟩ := Int.eq_ofNat_of_zero_le h.1
  exact (sc_w_all n (by omega) h2).2
set_option maxRecDepth 100000 in
set_option maxHeartbeats 4000000 in
theorem c_X8_kindOf {σ : jS} {w : Int} (hw : 0 ≤ w ∧ w ≤ 10460353203) : Jp 6 miX8_kindOf [vL w] σ (vI (kdW w)) := by
  have hwl : lR w := by omega
  refine jm_ofF (Po := (jP (vI (kdW w)) σ)) (plainFor_of_name (by decide)) (Nat.le_of_ble_eq_true rfl) (lv := [(0, _)]) rfl ?_
  refine r_iconst (dc dkX8_kindOf 0 rfl) (np 1 rfl ?_)
  refine r_istore_n (lv' := [(2, _), (0, _)]) (dc dkX8_kindOf 1 rfl) (Nat.le_of_ble_eq_true rfl) rfl (np 2 rfl ?_)
  refine r_lconst (dc dkX8_kindOf 2 rfl) lc_0 (np 3 rfl ?_)
  refine r_lstore_n (lv' := [(3, _), (2, _), (0, _)]) (dc dkX8_kindOf 3 rfl) (Nat.le_of_ble_eq_true rfl) rfl (np 4 rfl ?_)
  refine r_iconst (dc dkX8_kindOf 4 rfl) (np 5 rfl ?_)
  refine r_istore (lv' := [(5, _), (3, _), (2, _), (0, _)]) (dc dkX8_kindOf 5 rfl) (Nat.le_of_ble_eq_true rfl) rfl (np 7 rfl ?_)
  refine r_pick [3, 2, 1, 0] (lv' := [(0, _), (2, _), (3, _), (5, _)]) rfl ?_
  refine jlp3 (P := fun (u : Int) (v : Int) (i : Int) => jR _ _ _ 7 [(0, vL w), (2, vI u), (3, vL v), (5, vI i)] [] σ) (I := fun (u : Int) (v : Int) (i : Int) => (0 ≤ i ∧ i ≤ 80) ∧ u = (scN i.toNat).1 ∧ v = (scN i.toNat).2 ∧ fi (fun k => wc k = w) 17 = fiF (fun k => wc k = w) (17 - u).toNat u) (fun (u : Int) (v : Int) (i : Int) => (80 - i).toNat) ?_ _ _ _ ⟨by omega, rfl, rfl, fi_def _ _⟩
  intro u v i hI7 ih7
  obtain ⟨hi0, hu, hv, hf⟩ := hI7
  have hsc := sc_b i hi0
  rw [← hu, ← hv] at hsc
  refine r_iload (dc dkX8_kindOf 6 rfl) rfl (np 9 rfl ?_)
  refine r_ldcS (dc dkX8_kindOf 7 rfl) rfl (np 11 rfl ?_)
  refine r_sV0 (y' := miJ0_length_8abf5) (dc dkX8_kindOf 8 rfl) mlX8_80 ceJ0_length_8abf5 (Nat.le_of_ble_eq_true rfl) (Nat.le_of_ble_eq_true rfl) (c_J0_length ) (np 14 rfl ?_)
  refine r_icmp_ge (tgt := 73) (dc dkX8_kindOf 9 rfl) rfl (by first | assumption | decide | omega) (by first | assumption | decide | omega) (fun h14 => ?_) (fun h14 => (np 17 rfl ?_))
  · skip
    refine r_iconst (dc dkX8_kindOf 42 rfl) (np 74 rfl ?_)
    exact r_iret (dc dkX8_kindOf 43 rfl) rfl ⟨congrArg (fun z => some (vI z)) (by unfold kdW; rw [hf, fiF_e (by have := sc_e; rw [show i = 80 by omega] at hu; rw [hu]; exact this), if_pos rfl]), rfl⟩
  have hjb := jb_b i (by omega)
  refine r_ldcS (dc dkX8_kindOf 10 rfl) rfl (np 19 rfl ?_)
  refine r_iload (dc dkX8_kindOf 11 rfl) rfl (np 21 rfl ?_)
  refine r_sV1 (y' := miJ0_charAt_5068e) (dc dkX8_kindOf 12 rfl) mlX8_85 ceJ0_charAt_5068e (Nat.le_of_ble_eq_true rfl) (Nat.le_of_ble_eq_true rfl) (c_J0_charAt (by omega)) (np 24 rfl ?_)
  refine r_istore (lv' := [(6, _), (0, _), (2, _), (3, _), (5, _)]) (dc dkX8_kindOf 13 rfl) (Nat.le_of_ble_eq_true rfl) rfl (np 26 rfl ?_)
  refine r_iload (dc dkX8_kindOf 14 rfl) rfl (np 28 rfl ?_)
  refine r_bipush (dc dkX8_kindOf 15 rfl) bp_32 (np 30 rfl ?_)
  refine r_icmp_eq (tgt := 51) (dc dkX8_kindOf 16 rfl) rfl (by omega) (by first | assumption | decide | omega) (fun h30 => ?_) (fun h30 => (np 33 rfl ?_))
  · skip
    refine r_lload_n (dc dkX8_kindOf 29 rfl) rfl (np 52 rfl ?_)
    refine r_lload_n (dc dkX8_kindOf 30 rfl) rfl (np 53 rfl ?_)
    refine r_lcmp (dc dkX8_kindOf 31 rfl) (by omega) hwl (np 54 rfl ?_)
    refine r_if_ne (tgt := 62) (dc dkX8_kindOf 32 rfl) rfl (by unfold jcmp; omega) (fun h54 => ?_) (fun h54 => (np 57 rfl ?_))
    · skip
      replace h54 : ¬ v = w := by unfold jcmp at h54; omega
      refine r_iinc (lv' := [(2, _), (6, _), (0, _), (3, _), (5, _)]) (dc dkX8_kindOf 37 rfl) (Nat.le_of_ble_eq_true rfl) rfl rfl (np 65 rfl ?_)
      refine r_lconst (dc dkX8_kindOf 38 rfl) lc_0 (np 66 rfl ?_)
      refine r_lstore_n (lv' := [(3, _), (2, _), (6, _), (0, _), (5, _)]) (dc dkX8_kindOf 39 rfl) (Nat.le_of_ble_eq_true rfl) rfl (np 67 rfl ?_)
      refine r_iinc (lv' := [(5, _), (3, _), (2, _), (6, _), (0, _)]) (dc dkX8_kindOf 40 rfl) (Nat.le_of_ble_eq_true rfl) rfl rfl (np 70 rfl ?_)
      refine r_goto (tgt := 7) (dc dkX8_kindOf 41 rfl) rfl ?_
      refine r_pick [4, 2, 1, 0] rfl ?_
      exact ih7 _ _ _ (by first | exact ⟨by omega, by rw [scN_s (by omega), if_neg h30]; exact hu, by rw [scN_s (by omega), if_neg h30, ← hv], hf⟩ | exact ⟨by omega, by rw [scN_s (by omega), if_pos h30, ← hu], by rw [scN_s (by omega), if_pos h30], by rw [hf, fiF_n (P := fun k => wc k = w) (by have := sc_l i (by omega) h30; omega) (by rw [hu, ← sc_w i (by omega) h30, ← hv]; exact h54)]⟩) (by omega)
    replace h54 : v = w := by unfold jcmp at h54; omega
    refine r_bipush (dc dkX8_kindOf 33 rfl) bp_100 (np 59 rfl ?_)
    refine r_iload_n (dc dkX8_kindOf 34 rfl) rfl (np 60 rfl ?_)
    refine r_iadd (dc dkX8_kindOf 35 rfl) (np 61 rfl ?_)
    exact r_iret (dc dkX8_kindOf 36 rfl) rfl ⟨congrArg (fun z => some (vI z)) (by unfold kdW; rw [hf, fiF_t (P := fun k => wc k = w) (by have := sc_l i (by omega) h30; omega) (by rw [hu, ← sc_w i (by omega) h30, ← hv]; exact h54), if_neg (by omega)]), rfl⟩
  refine r_lload_n (dc dkX8_kindOf 17 rfl) rfl (np 34 rfl ?_)
  refine r_ldc2 (z := 27) (dc dkX8_kindOf 18 rfl) ckX8_72 (by decide) (np 37 rfl ?_)
  refine r_lmul (dc dkX8_kindOf 19 rfl) (np 38 rfl ?_)
  refine r_iload (dc dkX8_kindOf 20 rfl) rfl (np 40 rfl ?_)
  refine r_bipush (dc dkX8_kindOf 21 rfl) bp_97 (np 42 rfl ?_)
  refine r_isub (dc dkX8_kindOf 22 rfl) (np 43 rfl ?_)
  refine r_iconst (dc dkX8_kindOf 23 rfl) (np 44 rfl ?_)
  refine r_iadd (dc dkX8_kindOf 24 rfl) (np 45 rfl ?_)
  refine r_i2l (dc dkX8_kindOf 25 rfl) (by omega) (np 46 rfl ?_)
  refine r_ladd (dc dkX8_kindOf 26 rfl) (np 47 rfl ?_)
  refine r_lstore_n (lv' := [(3, _), (6, _), (0, _), (2, _), (5, _)]) (dc dkX8_kindOf 27 rfl) (Nat.le_of_ble_eq_true rfl) rfl (np 48 rfl ?_)
  refine r_goto (tgt := 67) (dc dkX8_kindOf 28 rfl) rfl ?_
  refine r_iinc (lv' := [(5, _), (3, _), (6, _), (0, _), (2, _)]) (dc dkX8_kindOf 40 rfl) (Nat.le_of_ble_eq_true rfl) rfl rfl (np 70 rfl ?_)
  refine r_goto (tgt := 7) (dc dkX8_kindOf 41 rfl) rfl ?_
  refine r_pick [3, 4, 1, 0] rfl ?_
  exact ih7 _ _ _ (by first | exact ⟨by omega, by rw [scN_s (by omega), if_neg h30]; exact hu, by rw [scN_s (by omega), if_neg h30, ← hv], hf⟩ | exact ⟨by omega, by rw [scN_s (by omega), if_pos h30, ← hu], by rw [scN_s (by omega), if_pos h30], by rw [hf, fiF_n (P := fun k => wc k = w) (by have := sc_l i (by omega) h30; omega) (by rw [hu, ← sc_w i (by omega) h30, ← hv]; exact h54)]⟩) (by omega)
