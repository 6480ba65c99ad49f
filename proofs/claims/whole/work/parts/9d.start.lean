/-! ===== what the start gives ===== -/
theorem jCli : ∀ (ci : Nat) (q : vw_C), vwCl[ci]? = some q → Cond.instantiable q.1 q.2.2 ∈ lw_good := by
  intro ci q h
  match ci, h with
  | 0, h => cases h; exact gm1 112 (by decide +kernel)
  | 1, h => cases h; exact gm1 106 (by decide +kernel)
  | 2, h => cases h; exact gm1 41 (by decide +kernel)
  | 3, h => cases h; exact gm1 180 (by decide +kernel)
  | 4, h => cases h; exact gm2 81 (by decide +kernel)
  | 5, h => cases h; exact gm2 52 (by decide +kernel)
  | 6, h => cases h; exact gm2 39 (by decide +kernel)
  | 7, h => cases h; exact gm1 35 (by decide +kernel)
  | 8, h => cases h; exact gm1 203 (by decide +kernel)
  | 9, h => cases h; exact gm2 10 (by decide +kernel)
  | 10, h => cases h; exact gm1 100 (by decide +kernel)
  | 11, h => cases h; exact gm1 27 (by decide +kernel)
  | 12, h => cases h; exact gm6 96 (by decide +kernel)
  | n + 13, h => simp [vwCl] at h
theorem tb_in {w : Cond} (h : w ∈ tables_1) : w ∈ lw_tbl := List.mem_append_right _ h
theorem gt1 {w : Cond} (i : Nat) (h : tables_1_1[i]? = some w) : w ∈ lw_tbl := by
  have h := List.mem_of_getElem? h
  refine tb_in ?_
  show w ∈ tables_1
  exact List.mem_append_left _ h
theorem gt2 {w : Cond} (i : Nat) (h : tables_1_2[i]? = some w) : w ∈ lw_tbl := by
  have h := List.mem_of_getElem? h
  refine tb_in ?_
  show w ∈ tables_1
  exact List.mem_append_right _ (List.mem_append_left _ h)
theorem gt3 {w : Cond} (i : Nat) (h : tables_1_3[i]? = some w) : w ∈ lw_tbl := by
  have h := List.mem_of_getElem? h
  refine tb_in ?_
  show w ∈ tables_1
  exact List.mem_append_right _ (List.mem_append_right _ (List.mem_append_left _ h))
theorem gt4 {w : Cond} (i : Nat) (h : tables_1_4[i]? = some w) : w ∈ lw_tbl := by
  have h := List.mem_of_getElem? h
  refine tb_in ?_
  show w ∈ tables_1
  exact List.mem_append_right _ (List.mem_append_right _ (List.mem_append_right _ (List.mem_append_left _ h)))
theorem gt5 {w : Cond} (i : Nat) (h : tables_1_5[i]? = some w) : w ∈ lw_tbl := by
  have h := List.mem_of_getElem? h
  refine tb_in ?_
  show w ∈ tables_1
  exact List.mem_append_right _ (List.mem_append_right _ (List.mem_append_right _ (List.mem_append_right _ (List.mem_append_left _ h))))
theorem gt6 {w : Cond} (i : Nat) (h : tables_1_6[i]? = some w) : w ∈ lw_tbl := by
  have h := List.mem_of_getElem? h
  refine tb_in ?_
  show w ∈ tables_1
  exact List.mem_append_right _ (List.mem_append_right _ (List.mem_append_right _ (List.mem_append_right _ (List.mem_append_right _ (List.mem_append_left _ h)))))
theorem gt7 {w : Cond} (i : Nat) (h : tables_1_7[i]? = some w) : w ∈ lw_tbl := by
  have h := List.mem_of_getElem? h
  refine tb_in ?_
  show w ∈ tables_1
  exact List.mem_append_right _ (List.mem_append_right _ (List.mem_append_right _ (List.mem_append_right _ (List.mem_append_right _ (List.mem_append_right _ (List.mem_append_left _ h))))))
theorem gt8 {w : Cond} (i : Nat) (h : tables_1_8[i]? = some w) : w ∈ lw_tbl := by
  have h := List.mem_of_getElem? h
  refine tb_in ?_
  show w ∈ tables_1
  exact List.mem_append_right _ (List.mem_append_right _ (List.mem_append_right _ (List.mem_append_right _ (List.mem_append_right _ (List.mem_append_right _ (List.mem_append_right _ (List.mem_append_left _ h)))))))
theorem gt9 {w : Cond} (i : Nat) (h : tables_1_9[i]? = some w) : w ∈ lw_tbl := by
  have h := List.mem_of_getElem? h
  refine tb_in ?_
  show w ∈ tables_1
  exact List.mem_append_right _ (List.mem_append_right _ (List.mem_append_right _ (List.mem_append_right _ (List.mem_append_right _ (List.mem_append_right _ (List.mem_append_right _ (List.mem_append_right _ (h))))))))
theorem st_arr {s : State} {b : Nat} {ty : FieldType} (h : (Cond.arrayClass ty).before #[Value.ref b] s = true) (hra : ∀ c, s.vm.findClass ("[" ++ ty.toString) = some c → va_RA s c ty) : ∃ c : ClassId, ArrOfT s c ty ∧ va_RA s c ty := by
  obtain ⟨c, k, comp, h1, h2, h3⟩ := Cond.arrayClass_spec h
  exact ⟨c, fun n z => ⟨fun k h => (by cases h), k, h2, comp, h3⟩, hra c h1⟩
theorem st_arq {s : State} {E : String} (h : va_AO E s) : ∃ c : ClassId, ArrOfT s c (.object E) ∧ va_RA s c (.object E) := by
  obtain ⟨comp, c, k, h1, _, h3, h4, h5⟩ := Cond.arrayOver_spec h
  exact ⟨c, fun n z => ⟨fun k h => (by cases h), k, h3, comp, h4⟩, k, comp, h3, h4, h1, h5⟩
theorem st_AO {s : State} {b : Nat} (hts : ∀ w ∈ lw_tbl, w.before #[Value.ref b] s = true) : va_AO RX11 s ∧ va_AO RX0 s := ⟨va_AO.of (hts _ (gt2 6 (by decide +kernel))), va_AO.of (hts _ (gt2 8 (by decide +kernel)))⟩
theorem st_K {s : State} {b : Nat} (hts : ∀ w ∈ lw_tbl, w.before #[Value.ref b] s = true) : ∃ (D : va_G) (cA : Nat → ClassId), va_K D vwCl (jTys cA) s := by
  have h1 : ∀ k : Nat, ∃ x : ClassId × (Nat → Nat), ∀ q, vwCl[k]? = some q → u_Kn s q.1 q.2.1 q.2.2 x.1 x.2 := by
    intro k
    cases hk : vwCl[k]? with
    | none => exact ⟨(0, fun _ => 0), fun q h => by cases h⟩
    | some q0 =>
      obtain ⟨c, iS, hKn⟩ := u_known (C := q0.1) (T := q0.2.1) (N := q0.2.2) (n := q0.2.2) hts (fun w hw => lw_good_in (jClw k q0 hk w hw)) (hts _ (lw_good_in (jCli k q0 hk)))
      exact ⟨(c, iS), fun q h => by cases h; exact hKn⟩
  obtain ⟨f, hf⟩ := Classical.axiomOfChoice h1
  obtain ⟨a0, p0, r0⟩ := st_arr (ty := .int) (hts _ (lw_good_in aw_int)) (fun c h => h)
  obtain ⟨a1, p1, r1⟩ := st_arr (ty := .long) (hts _ (lw_good_in aw_long)) (fun c h => h)
  obtain ⟨a2, p2, r2⟩ := st_arr (ty := .byte) (hts _ (lw_good_in aw_byte)) (fun c h => h)
  obtain ⟨a3, p3, r3⟩ := st_arr (ty := .boolean) (hts _ (lw_good_in aw_boolean)) (fun c h => h)
  obtain ⟨a4, p4, r4⟩ := st_arq (st_AO hts).2
  obtain ⟨a5, p5, r5⟩ := st_arq (st_AO hts).1
  refine ⟨(fun k => (f k).1, fun k => (f k).2), fun t => [a0, a1, a2, a3, a4, a5].getD t 0, fun c q h => hf c q h, fun k q h => ?_⟩
  match k, h with
  | 0, h => cases h; exact ⟨p0, r0⟩
  | 1, h => cases h; exact ⟨p1, r1⟩
  | 2, h => cases h; exact ⟨p2, r2⟩
  | 3, h => cases h; exact ⟨p3, r3⟩
  | 4, h => cases h; exact ⟨p4, r4⟩
  | 5, h => cases h; exact ⟨p5, r5⟩
  | n + 6, h => simp [jTys] at h
theorem st_N {s : State} {b : Nat} (hts : ∀ w ∈ lw_tbl, w.before #[Value.ref b] s = true) : kNs s := by
  refine ⟨fun x hx => ?_, (st_AO hts).1, (st_AO hts).2⟩
  refine va_Nw.of (A := #[Value.ref b]) rfl ?_
  simp only [kNL, List.mem_cons, List.not_mem_nil, or_false] at hx
  rcases hx with rfl | rfl | rfl | rfl | rfl | rfl | rfl | rfl | rfl | rfl | rfl
  · exact hts _ (gt1 36 (by decide +kernel))
  · exact hts _ (gt1 101 (by decide +kernel))
  · exact hts _ (gt1 107 (by decide +kernel))
  · exact hts _ (gt1 113 (by decide +kernel))
  · exact hts _ (gt1 181 (by decide +kernel))
  · exact hts _ (gt1 204 (by decide +kernel))
  · exact hts _ (gt2 11 (by decide +kernel))
  · exact hts _ (gt2 40 (by decide +kernel))
  · exact hts _ (gt2 53 (by decide +kernel))
  · exact hts _ (gt2 82 (by decide +kernel))
  · exact hts _ (gt2 99 (by decide +kernel))
theorem st_el : (List.range 80).all (fun j => decide (Cond.eq (.elem (.field (.string "PegBands$Reader" 78) "java/lang/String" "value" "[B") (.int (Int32.ofNat j))) (.int (jByt.getD j 0)) ∈ flatC (Jvm.Cond.and given_1 narrow_1))) = true := by decide +kernel
theorem st_S {s : State} {b : Nat} (hts : ∀ w ∈ lw_tbl, w.before #[Value.ref b] s = true) (hgv : (Jvm.Cond.and given_1 narrow_1).before #[Value.ref b] s = true) : ∃ x0 x1 x2 : Nat, ∀ ad : Nat → Nat, ad 1000 = x0 → ad 1001 = x1 → ad 1002 = x2 → jStr ad (fun q : Nat => s.heap.size ≤ q) s := by
  have hs := flat_of_before _ hgv
  have hA : ∀ a : Nat, a < s.heap.size → ¬ (fun q : Nat => s.heap.size ≤ q) a := fun a h => Nat.not_le.mpr h
  obtain ⟨adK, adV, h1, h2⟩ := vk_Sof (args := #[Value.ref b]) (s := s) (N := 1) (tm := fun _ => .string "PegBands$Reader" 78) (len := [80]) (byt := [jByt]) (A := fun q : Nat => s.heap.size ≤ q)
    (fun i hi => by rw [show i = 0 by omega]; decide) (fun i hi => hs _ (by decide +kernel)) (fun i hi => hs _ (by decide +kernel)) (fun i hi => hs _ (by decide +kernel)) (fun i hi => by rw [show i = 0 by omega]; exact hs _ (by decide +kernel))
    (fun i hi j hj => by
      have e0 : i = 0 := by omega
      subst e0
      exact hs _ (of_decide_eq_true (List.all_eq_true.mp st_el j (List.mem_range.mpr hj)))) (fun i j hi hj hij => absurd (show i = j by omega) hij) hA
  have hZ1 := va_Zof (A := fun q : Nat => s.heap.size ≤ q) (hts (.laysStatic "java/lang/String" "COMPACT_STRINGS" "Z") (gt2 210 (by decide +kernel))) (hts (.initialized "java/lang/String") (gt1 15 (by decide +kernel))) (va_eqi (z := 1) (hs _ (by decide +kernel))) hA
  obtain ⟨v, hv, hvr⟩ := Cond.isRef_spec (t := .static "jdk/internal/util/Preconditions" "SIOOBE_FORMATTER" "Ljava/util/function/BiFunction;") (hs _ (by decide +kernel))
  have hZ2 := fun w hw => va_Zof (v := w) (A := fun q : Nat => s.heap.size ≤ q) (hts (.laysStatic "jdk/internal/util/Preconditions" "SIOOBE_FORMATTER" "Ljava/util/function/BiFunction;") (gt2 226 (by decide +kernel))) (hts (.initialized "jdk/internal/util/Preconditions") (gt1 17 (by decide +kernel))) hw hA
  have hR := vk_R.of (own := RX8) (k := 78) (tx := jTx) (a := adK 0) (hts (.stringRef RX8 78 jTx) (gt2 200 (by decide +kernel))) (h2 0 (by decide))
  have hS : ∀ ad : Nat → Nat, ad 1000 = adK 0 → ad 1001 = adV 0 → vk_S 1 [80] [jByt] (fun _ => ad 1000) (fun _ => ad 1001) (fun q : Nat => s.heap.size ≤ q) s s.heap := fun ad e1 e2 => ⟨fun i hi => by
    have e0 : i = 0 := by omega
    subst e0
    simp only
    rw [e1, e2]
    exact h1.1 0 (by decide), fun i j hi hj _ => by omega⟩
  cases v with
  | null => exact ⟨adK 0, adV 0, 0, fun ad e1 e2 e3 => ⟨by rw [e1]; exact hR, hS ad e1 e2, hZ1, Or.inl (hZ2 _ hv)⟩⟩
  | ref t => exact ⟨adK 0, adV 0, t, fun ad e1 e2 e3 => ⟨by rw [e1]; exact hR, hS ad e1 e2, hZ1, Or.inr (by rw [e3]; exact hZ2 _ hv)⟩⟩
  | _ => simp [Value.isRef] at hvr
