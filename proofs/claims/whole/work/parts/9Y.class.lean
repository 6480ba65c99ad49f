/-! ===== the constructor of the class ===== -/
/-! ===== worlds in another order ===== -/
theorem vaD_iff {A : Nat → Prop} {ws : va_W} : va_D A ws ↔ (ws.map (fun q => q.1)).Nodup ∧ ∀ q ∈ ws, A q.1 := by
  constructor
  · intro h
    refine ⟨?_, fun q hq => ?_⟩
    · unfold List.Nodup
      rw [List.pairwise_iff_getElem]
      intro i j hi hj hij e
      rw [List.length_map] at hi hj
      rw [List.getElem_map, List.getElem_map] at e
      have := h.1 i j ws[i] ws[j] (List.getElem?_eq_getElem hi) (List.getElem?_eq_getElem hj) e
      omega
    · obtain ⟨k, hk⟩ := List.getElem?_of_mem hq
      exact h.2 k q hk
  · rintro ⟨h1, h2⟩
    refine ⟨fun i j p q hi hj e => ?_, fun k q hk => h2 q (List.mem_of_getElem? hk)⟩
    unfold List.Nodup at h1
    rw [List.pairwise_iff_getElem] at h1
    obtain ⟨li, ei⟩ := List.getElem?_eq_some_iff.mp hi
    obtain ⟨lj, ej⟩ := List.getElem?_eq_some_iff.mp hj
    rcases Nat.lt_trichotomy i j with g | g | g
    · have := h1 i j (by rw [List.length_map]; exact li) (by rw [List.length_map]; exact lj) g
      rw [List.getElem_map, List.getElem_map, ei, ej] at this
      exact absurd e this
    · exact g
    · have := h1 j i (by rw [List.length_map]; exact lj) (by rw [List.length_map]; exact li) g
      rw [List.getElem_map, List.getElem_map, ei, ej] at this
      exact absurd e.symm this
theorem vaP_m {D : va_G} {cl : List vw_C} {ws ws' : va_W} {H : Heap} (h : va_P D cl ws H) (hm : ∀ q ∈ ws', q ∈ ws) : va_P D cl ws' H := fun k q hk => by
  obtain ⟨i, hi⟩ := List.getElem?_of_mem (hm q (List.mem_of_getElem? hk))
  exact h i q hi
theorem vaP_p {D : va_G} {cl : List vw_C} {ws ws' : va_W} {H : Heap} (h : va_P D cl ws H) (hp : ws.Perm ws') : va_P D cl ws' H := vaP_m h (fun q hq => hp.mem_iff.mpr hq)
theorem vaD_p {A : Nat → Prop} {ws ws' : va_W} (h : va_D A ws) (hp : ws.Perm ws') : va_D A ws' := by
  rw [vaD_iff] at h ⊢
  exact ⟨(hp.map _).nodup_iff.mp h.1, fun q hq => h.2 q (hp.mem_iff.mpr hq)⟩
theorem ap1 {x : Nat × va_E} {l w : va_W} : (x :: l) ++ w = x :: (l ++ w) := rfl
theorem ap2 {x y : Nat × va_E} {l w : va_W} : (x :: y :: l) ++ w = x :: y :: (l ++ w) := rfl
theorem ap3 {x y z : Nat × va_E} {l w : va_W} : (x :: y :: z :: l) ++ w = x :: y :: z :: (l ++ w) := rfl
theorem st1 {x y v : Nat × va_E} {l : va_W} : (x :: y :: l).set 1 v = x :: v :: l := rfl
theorem st2 {x y z v : Nat × va_E} {l : va_W} : (x :: y :: z :: l).set 2 v = x :: y :: v :: l := rfl
theorem pm1 {x z : Nat × va_E} {l : va_W} : (x :: (l ++ [z])).Perm (x :: z :: l) := List.Perm.cons _ (List.perm_append_singleton _ _)
section KR2
variable {R : Room} {y : jMI} {D : va_G} {cA : Nat → ClassId} {A : Nat → Prop} {mc ms : Nat} {Qc : Array Value → State → Outcome → State → Prop} {pc pc2 : Nat} {lv lv' : List (Nat × Value)} {st st2 : List Value} {ws : va_W} {cells slots : Nat}
theorem k_pm {ws' : va_W} (hp : ws.Perm ws') (k : kR R y D cA A mc ms Qc pc lv st ws' cells slots) : kR R y D cA A mc ms Qc pc lv st ws cells slots :=
  fun p l e s m args below meth c H locs ls C Wd hl => k p l e s m args below meth c H locs ls C ⟨Wd.1, vaP_p Wd.2.1 hp, vaD_p Wd.2.2.1 hp, Wd.2.2.2⟩ hl
theorem k_getM {idx ci j a : Nat} {v : Value} {fs : List Value} (hd : decode y.2.1 pc = .ok (.getfield idx, 3)) (hf : jFL y.1.cls idx ci j) (hi : (a, .inr (ci, fs)) ∈ ws) (hv : fs[j]? = some v)
    (k : kR R y D cA A mc ms Qc (pc + 3) lv (v :: st) ws cells slots) : kR R y D cA A mc ms Qc pc lv (.ref a :: st) ws cells slots := by
  obtain ⟨i, hi⟩ := List.getElem?_of_mem hi
  exact k_get i hd hf hi hv k
theorem k_astM {t ci a v n i0 : Nat} {E : vw_C} {z : Int} {vs : List Value} {f : Nat → Option Nat} (iA : Nat) (hd : decode y.2.1 pc = .ok (.aastore, 1)) (hA : ws[iA]? = some (a, .inl (cA t, n, .inr (.inr (.inr (.inr f)))))) (hV : (v, .inr (ci, vs)) ∈ ws) (hc : vwCl[ci]? = some E) (ht : (jTys cA)[t]? = some (cA t, .object E.1)) (hin : vp_in (Int32.ofInt z) n) (hz : (Int32.ofInt z).toNatClampNeg = i0)
    (k : kR R y D cA A mc ms Qc (pc + 1) lv st (ws.set iA (a, .inl (cA t, n, .inr (.inr (.inr (.inr (va_up f i0 (some v)))))))) cells slots) : kR R y D cA A mc ms Qc pc lv (.ref v :: vI z :: .ref a :: st) ws cells slots := by
  obtain ⟨i, hi⟩ := List.getElem?_of_mem hV
  exact k_ast iA i hd hA hi hc ht hin hz k
end KR2
theorem oiX12_1 : kOI RX12 1 := ⟨gm1 31 (by decide +kernel), gm1 32 (by decide +kernel), gm1 33 ⟨rfl, rfl⟩⟩
theorem nwX12_7 : kNW RX12 7 7 [.null, .int 0, .int 0, .int 0, .int 0, .int 0, .long 0, .int 0, .int 0] := ⟨(RX8, TX8, 9), rfl, gm1 34 (by decide +kernel), gm1 35 (by decide +kernel), gm1 2 (by decide +kernel), fun j hj => by
  have key : ∀ j, j < 9 → (parseFieldDescriptor (TX8 j).2.2.1) = some (([.int, .int, .int, .int, .int, .int, .long, .int, .int] : List FieldType).getD j .int) ∨ True := fun _ _ => Or.inr trivial
  clear key
  revert hj
  revert j
  decide +kernel⟩
theorem iiX12_9 : kIN RX12 9 miX8_init 0 := ⟨by decide +kernel, gm1 37 (by decide +kernel), gm1 2 (by decide +kernel), gm1 38 ⟨rfl, rfl⟩, rfl, rfl, by decide +kernel, by decide +kernel, by decide +kernel⟩
theorem ffX12_10 : jFF RX12 10 11 0 (.object "PegBands$Reader") := ⟨(RX12, TX12, 15), rfl, by decide, gm2 100 (by decide +kernel), rfl, rfl, rfl, by decide +kernel⟩
theorem ffX12_20 : jFF RX12 20 11 1 (.object "PegBands$Bytes") := ⟨(RX12, TX12, 15), rfl, by decide, gm2 101 (by decide +kernel), rfl, rfl, rfl, by decide +kernel⟩
theorem nwX12_21 : kNW RX12 21 10 [.int 0, .null, .null, .int 0, .null, .null] := ⟨(RX11, TX11, 6), rfl, gm1 99 (by decide +kernel), gm1 100 (by decide +kernel), gm1 5 (by decide +kernel), fun j hj => by
  have key : ∀ j, j < 6 → (parseFieldDescriptor (TX11 j).2.2.1) = some (([.boolean, .int, .int, .int, .int, .int] : List FieldType).getD j .int) ∨ True := fun _ _ => Or.inr trivial
  clear key
  revert hj
  revert j
  decide +kernel⟩
theorem iiX12_23 : kIN RX12 23 miX11_init 0 := ⟨by decide +kernel, gm1 102 (by decide +kernel), gm1 5 (by decide +kernel), gm1 103 ⟨rfl, rfl⟩, rfl, rfl, by decide +kernel, by decide +kernel, by decide +kernel⟩
theorem ffX12_24 : jFF RX12 24 11 2 (.object "PegBands$Table") := ⟨(RX12, TX12, 15), rfl, by decide, gm2 102 (by decide +kernel), rfl, rfl, rfl, by decide +kernel⟩
theorem ffX12_28 : jFF RX12 28 11 3 (.object "PegBands$Table") := ⟨(RX12, TX12, 15), rfl, by decide, gm2 103 (by decide +kernel), rfl, rfl, rfl, by decide +kernel⟩
theorem ffX12_31 : jFF RX12 31 11 4 (.array (.object "PegBands$Table")) := ⟨(RX12, TX12, 15), rfl, by decide, gm2 104 (by decide +kernel), rfl, rfl, rfl, by decide +kernel⟩
theorem ffX12_37 : jFF RX12 37 11 5 (.array (.object "PegBands$Bands")) := ⟨(RX12, TX12, 15), rfl, by decide, gm2 105 (by decide +kernel), rfl, rfl, rfl, by decide +kernel⟩
theorem ffX12_45 : jFF RX12 45 11 7 (.array .int) := ⟨(RX12, TX12, 15), rfl, by decide, gm2 107 (by decide +kernel), rfl, rfl, rfl, by decide +kernel⟩
theorem nwX12_49 : kNW RX12 49 9 [.null, .int 0, .null, .null, .null, .null] := ⟨(RX10, TX10, 6), rfl, gm2 9 (by decide +kernel), gm2 10 (by decide +kernel), gm1 10 (by decide +kernel), fun j hj => by
  have key : ∀ j, j < 6 → (parseFieldDescriptor (TX10 j).2.2.1) = some (([.int, .int, .int, .int, .int, .int] : List FieldType).getD j .int) ∨ True := fun _ _ => Or.inr trivial
  clear key
  revert hj
  revert j
  decide +kernel⟩
theorem iiX12_51 : kIN RX12 51 miX10_init 0 := ⟨by decide +kernel, gm2 12 (by decide +kernel), gm1 10 (by decide +kernel), gm2 13 ⟨rfl, rfl⟩, rfl, rfl, by decide +kernel, by decide +kernel, by decide +kernel⟩
theorem ffX12_52 : jFF RX12 52 11 8 (.object "PegBands$Shapes") := ⟨(RX12, TX12, 15), rfl, by decide, gm2 108 (by decide +kernel), rfl, rfl, rfl, by decide +kernel⟩
theorem nwX12_56 : kNW RX12 56 2 [.null, .int 0] := ⟨(RX2, TX2, 2), rfl, gm2 36 (by decide +kernel), gm1 41 (by decide +kernel), gm1 3 (by decide +kernel), fun j hj => by
  have key : ∀ j, j < 2 → (parseFieldDescriptor (TX2 j).2.2.1) = some (([.int, .int] : List FieldType).getD j .int) ∨ True := fun _ _ => Or.inr trivial
  clear key
  revert hj
  revert j
  decide +kernel⟩
theorem iiX12_58 : kII RX12 58 miX2_init 1 := ⟨gm2 37 (by decide +kernel), gm1 43 (by decide +kernel), gm1 3 (by decide +kernel), gm1 44 ⟨rfl, rfl⟩, rfl, rfl, by decide +kernel, by decide +kernel, by decide +kernel⟩
theorem ffX12_61 : jFF RX12 61 11 9 (.object "PegBands$Bytes") := ⟨(RX12, TX12, 15), rfl, by decide, gm2 109 (by decide +kernel), rfl, rfl, rfl, by decide +kernel⟩
theorem nwX12_64 : kNW RX12 64 6 [.null, .int 0] := ⟨(RX6, TX6, 2), rfl, gm2 38 (by decide +kernel), gm2 39 (by decide +kernel), gm1 11 (by decide +kernel), fun j hj => by
  have key : ∀ j, j < 2 → (parseFieldDescriptor (TX6 j).2.2.1) = some (([.int, .int] : List FieldType).getD j .int) ∨ True := fun _ _ => Or.inr trivial
  clear key
  revert hj
  revert j
  decide +kernel⟩
theorem iiX12_66 : kIN RX12 66 miX6_init 0 := ⟨by decide +kernel, gm2 41 (by decide +kernel), gm1 11 (by decide +kernel), gm2 42 ⟨rfl, rfl⟩, rfl, rfl, by decide +kernel, by decide +kernel, by decide +kernel⟩
theorem ffX12_67 : jFF RX12 67 11 10 (.object "PegBands$Places") := ⟨(RX12, TX12, 15), rfl, by decide, gm2 110 (by decide +kernel), rfl, rfl, rfl, by decide +kernel⟩
theorem nwX12_71 : kNW RX12 71 5 [.null, .null, .null, .null, .null, .int 0, .int 0] := ⟨(RX5, TX5, 7), rfl, gm2 51 (by decide +kernel), gm2 52 (by decide +kernel), gm1 12 (by decide +kernel), fun j hj => by
  have key : ∀ j, j < 7 → (parseFieldDescriptor (TX5 j).2.2.1) = some (([.int, .int, .int, .int, .int, .int, .int] : List FieldType).getD j .int) ∨ True := fun _ _ => Or.inr trivial
  clear key
  revert hj
  revert j
  decide +kernel⟩
theorem iiX12_73 : kIN RX12 73 miX5_init 0 := ⟨by decide +kernel, gm2 54 (by decide +kernel), gm1 12 (by decide +kernel), gm2 55 ⟨rfl, rfl⟩, rfl, rfl, by decide +kernel, by decide +kernel, by decide +kernel⟩
theorem ffX12_74 : jFF RX12 74 11 11 (.object "PegBands$Mover") := ⟨(RX12, TX12, 15), rfl, by decide, gm2 111 (by decide +kernel), rfl, rfl, rfl, by decide +kernel⟩
theorem nwX12_78 : kNW RX12 78 4 [.null, .null, .null, .int 0] := ⟨(RX4, TX4, 4), rfl, gm2 80 (by decide +kernel), gm2 81 (by decide +kernel), gm1 13 (by decide +kernel), fun j hj => by
  have key : ∀ j, j < 4 → (parseFieldDescriptor (TX4 j).2.2.1) = some (([.int, .int, .int, .int] : List FieldType).getD j .int) ∨ True := fun _ _ => Or.inr trivial
  clear key
  revert hj
  revert j
  decide +kernel⟩
theorem iiX12_80 : kIN RX12 80 miX4_init 0 := ⟨by decide +kernel, gm2 83 (by decide +kernel), gm1 13 (by decide +kernel), gm2 84 ⟨rfl, rfl⟩, rfl, rfl, by decide +kernel, by decide +kernel, by decide +kernel⟩
theorem ffX12_81 : jFF RX12 81 11 12 (.object "PegBands$Game") := ⟨(RX12, TX12, 15), rfl, by decide, gm2 112 (by decide +kernel), rfl, rfl, rfl, by decide +kernel⟩
theorem nwX12_35 : kNW RX12 35 0 [.int 0, .null, .null, .null] := ⟨(RX0, TX0, 4), rfl, gm2 7 (by decide +kernel), gm1 112 (by decide +kernel), gm1 7 (by decide +kernel), fun j hj => by
  have key : ∀ j, j < 4 → (parseFieldDescriptor (TX0 j).2.2.1) = some (([.int, .int, .int, .int] : List FieldType).getD j .int) ∨ True := fun _ _ => Or.inr trivial
  clear key
  revert hj
  revert j
  decide +kernel⟩
theorem iiX12_91 : kIN RX12 91 miX0_init 0 := ⟨by decide +kernel, gm1 114 (by decide +kernel), gm1 7 (by decide +kernel), gm1 115 ⟨rfl, rfl⟩, rfl, rfl, by decide +kernel, by decide +kernel, by decide +kernel⟩
/-- the cells behind the class's constructor, in the order in which they were made -/
def w12 (cA : Nat → ClassId) (ad : Nat → Nat) : va_W := ((ad 0), .inr (11, [.ref (ad 1), .ref (ad 2), .ref (ad 27), .ref (ad 40), .ref (ad 7), .ref (ad 8), vI 0, .ref (ad 6), .ref (ad 9), .ref (ad 4), .ref (ad 15), .ref (ad 17), .ref (ad 23), vI 0, vI 0])) :: ((ad 8), .inl (cA 4, 8, .inr (.inr (.inr (.inr (va_up (va_up (va_up (va_up (va_up (va_up (va_up (va_up (fun _ => none) 0 (some (ad 79))) 1 (some (ad 83))) 2 (some (ad 87))) 3 (some (ad 91))) 4 (some (ad 95))) 5 (some (ad 99))) 6 (some (ad 103))) 7 (some (ad 107)))))))) :: ((ad 7), .inl (cA 5, 2, .inr (.inr (.inr (.inr (va_up (va_up (fun _ => none) 0 (some (ad 53))) 1 (some (ad 66)))))))) :: (((((((((((((((((((([] : va_W) ++ wX8 cA (ad 1) (ad 2) (ad 3)) ++ wX11 cA (ad 27) (ad 28) (ad 29) (ad 30) (ad 31) (ad 32) (ad 33) (ad 34) (ad 35) (ad 36) (ad 37) (ad 38) (ad 39)) ++ wX11 cA (ad 40) (ad 41) (ad 42) (ad 43) (ad 44) (ad 45) (ad 46) (ad 47) (ad 48) (ad 49) (ad 50) (ad 51) (ad 52)) ++ [((ad 6), .inl (cA 0, 8, .inl (fun _ => 0)))]) ++ wX10 cA (ad 9) (ad 10) (ad 11) (ad 12) (ad 13) (ad 14)) ++ wX2_79 cA (ad 4) (ad 5)) ++ wX6 cA (ad 15) (ad 16)) ++ wX5 cA (ad 17) (ad 18) (ad 19) (ad 20) (ad 21) (ad 22)) ++ wX4 cA (ad 23) (ad 24) (ad 25) (ad 26)) ++ wX11 cA (ad 53) (ad 54) (ad 55) (ad 56) (ad 57) (ad 58) (ad 59) (ad 60) (ad 61) (ad 62) (ad 63) (ad 64) (ad 65)) ++ wX11 cA (ad 66) (ad 67) (ad 68) (ad 69) (ad 70) (ad 71) (ad 72) (ad 73) (ad 74) (ad 75) (ad 76) (ad 77) (ad 78)) ++ wX0 cA (ad 79) (ad 80) (ad 81) (ad 82)) ++ wX0 cA (ad 83) (ad 84) (ad 85) (ad 86)) ++ wX0 cA (ad 87) (ad 88) (ad 89) (ad 90)) ++ wX0 cA (ad 91) (ad 92) (ad 93) (ad 94)) ++ wX0 cA (ad 95) (ad 96) (ad 97) (ad 98)) ++ wX0 cA (ad 99) (ad 100) (ad 101) (ad 102)) ++ wX0 cA (ad 103) (ad 104) (ad 105) (ad 106)) ++ wX0 cA (ad 107) (ad 108) (ad 109) (ad 110))
set_option maxRecDepth 100000 in
set_option maxHeartbeats 40000000 in
theorem nX12_init : Cn ({ frames := 4, cells := 110, slots := 2798, locals := 72 } : Room) 110 2798 miX12_init [] 11 [.null, .null, .null, .null, .null, .null, .int 0, .null, .null, .null, .null, .null, .null, .int 0, .int 0] (fun h0 cA ws => ∃ ad : Nat → Nat, ad 0 = h0 ∧ ws = w12 cA ad) := by
  refine Cn_of (plainFor_of_name (by decide)) rfl (Nat.le_of_ble_eq_true rfl) (fun D cA A h0 => ?_)
  show kR _ _ _ _ _ _ _ _ 0 [(0, .ref h0)] [] ((h0, .inr (11, [.null, .null, .null, .null, .null, .null, .int 0, .null, .null, .null, .null, .null, .null, .int 0, .int 0])) :: ([] : va_W)) 0 0
  refine k_aload (dc dkX12_init 0 rfl) rfl (kp 1 rfl ?_)
  refine k_obj (dc dkX12_init 1 rfl) oiX12_1 (Nat.le_of_ble_eq_true rfl) (Nat.le_of_ble_eq_true rfl) (kp 4 rfl ?_)
  refine k_aload (dc dkX12_init 2 rfl) rfl (kp 5 rfl ?_)
  refine k_new (N := 9) (dc dkX12_init 3 rfl) nwX12_7 rfl (Nat.le_of_ble_eq_true rfl) (Nat.le_of_ble_eq_true rfl) (fun q1 => (kp 8 rfl ?_))
  refine k_dup (dc dkX12_init 4 rfl) (kp 9 rfl ?_)
  refine k_initN (as := []) (dc dkX12_init 5 rfl) iiX12_9 nX8_init rfl rfl (Nat.le_of_ble_eq_true rfl) rfl rfl ⟨(Nat.le_of_ble_eq_true rfl), (Nat.le_of_ble_eq_true rfl)⟩ ⟨(Nat.le_of_ble_eq_true rfl), (Nat.le_of_ble_eq_true rfl)⟩ (fun wc hwc => (kp 12 rfl ?_))
  obtain ⟨q2, q3, rfl⟩ := hwc
  refine kw _ ap1 ?_
  refine k_putF (fs2 := [.ref q1, .null, .null, .null, .null, .null, .int 0, .null, .null, .null, .null, .null, .null, .int 0, .int 0]) (dc dkX12_init 6 rfl) ffX12_10 rfl rfl (Nat.le_of_ble_eq_true rfl) rfl (kp 15 rfl ?_)
  refine k_aload (dc dkX12_init 7 rfl) rfl (kp 16 rfl ?_)
  refine k_aload (dc dkX12_init 8 rfl) rfl (kp 17 rfl ?_)
  refine k_get 0 (dc dkX12_init 9 rfl) flX12_10 rfl rfl (kp 20 rfl ?_)
  refine k_getM (dc dkX12_init 10 rfl) flX12_16 (List.mem_cons_of_mem _ (List.mem_append_right _ (List.Mem.head _))) rfl (kp 23 rfl ?_)
  refine k_putF (fs2 := [.ref q1, .ref q2, .null, .null, .null, .null, .int 0, .null, .null, .null, .null, .null, .null, .int 0, .int 0]) (dc dkX12_init 11 rfl) ffX12_20 rfl rfl (Nat.le_of_ble_eq_true rfl) rfl (kp 26 rfl ?_)
  refine k_aload (dc dkX12_init 12 rfl) rfl (kp 27 rfl ?_)
  refine k_new (N := 6) (dc dkX12_init 13 rfl) nwX12_21 rfl (Nat.le_of_ble_eq_true rfl) (Nat.le_of_ble_eq_true rfl) (fun q4 => (kp 30 rfl ?_))
  refine k_dup (dc dkX12_init 14 rfl) (kp 31 rfl ?_)
  refine k_initN (as := []) (dc dkX12_init 15 rfl) iiX12_23 nX11_init rfl rfl (Nat.le_of_ble_eq_true rfl) rfl rfl ⟨(Nat.le_of_ble_eq_true rfl), (Nat.le_of_ble_eq_true rfl)⟩ ⟨(Nat.le_of_ble_eq_true rfl), (Nat.le_of_ble_eq_true rfl)⟩ (fun wc hwc => (kp 34 rfl ?_))
  obtain ⟨q5, q6, q7, q8, q9, q10, q11, q12, q13, q14, q15, q16, rfl⟩ := hwc
  refine kw _ ap1 ?_
  refine k_putF (fs2 := [.ref q1, .ref q2, .ref q4, .null, .null, .null, .int 0, .null, .null, .null, .null, .null, .null, .int 0, .int 0]) (dc dkX12_init 16 rfl) ffX12_24 rfl rfl (Nat.le_of_ble_eq_true rfl) rfl (kp 37 rfl ?_)
  refine k_aload (dc dkX12_init 17 rfl) rfl (kp 38 rfl ?_)
  refine k_new (N := 6) (dc dkX12_init 18 rfl) nwX12_21 rfl (Nat.le_of_ble_eq_true rfl) (Nat.le_of_ble_eq_true rfl) (fun q17 => (kp 41 rfl ?_))
  refine k_dup (dc dkX12_init 19 rfl) (kp 42 rfl ?_)
  refine k_initN (as := []) (dc dkX12_init 20 rfl) iiX12_23 nX11_init rfl rfl (Nat.le_of_ble_eq_true rfl) rfl rfl ⟨(Nat.le_of_ble_eq_true rfl), (Nat.le_of_ble_eq_true rfl)⟩ ⟨(Nat.le_of_ble_eq_true rfl), (Nat.le_of_ble_eq_true rfl)⟩ (fun wc hwc => (kp 45 rfl ?_))
  obtain ⟨q18, q19, q20, q21, q22, q23, q24, q25, q26, q27, q28, q29, rfl⟩ := hwc
  refine kw _ ap1 ?_
  refine k_putF (fs2 := [.ref q1, .ref q2, .ref q4, .ref q17, .null, .null, .int 0, .null, .null, .null, .null, .null, .null, .int 0, .int 0]) (dc dkX12_init 21 rfl) ffX12_28 rfl rfl (Nat.le_of_ble_eq_true rfl) rfl (kp 48 rfl ?_)
  refine k_aload (dc dkX12_init 22 rfl) rfl (kp 49 rfl ?_)
  refine k_iconst (dc dkX12_init 23 rfl) (kp 50 rfl ?_)
  refine k_newq (t := 5) (E := RX11) (N := 2) (dc dkX12_init 24 rfl) (gm1 99 (by decide +kernel)) (fun U h => h.2.1) rfl (by decide) (by decide) (by decide) (Nat.le_of_ble_eq_true rfl) (Nat.le_of_ble_eq_true rfl) (fun q30 => (kw _ ap1 (k_pm pm1 (kp 53 rfl ?_))))
  refine k_putF (fs2 := [.ref q1, .ref q2, .ref q4, .ref q17, .ref q30, .null, .int 0, .null, .null, .null, .null, .null, .null, .int 0, .int 0]) (dc dkX12_init 25 rfl) ffX12_31 rfl rfl (Nat.le_of_ble_eq_true rfl) rfl (kp 56 rfl ?_)
  refine k_aload (dc dkX12_init 26 rfl) rfl (kp 57 rfl ?_)
  refine k_bipush (dc dkX12_init 27 rfl) (by decide) (kp 59 rfl ?_)
  refine k_newq (t := 4) (E := RX0) (N := 8) (dc dkX12_init 28 rfl) (gm2 7 (by decide +kernel)) (fun U h => h.2.2) rfl (by decide) (by decide) (by decide) (Nat.le_of_ble_eq_true rfl) (Nat.le_of_ble_eq_true rfl) (fun q31 => (kw _ ap1 (k_pm pm1 (kp 62 rfl ?_))))
  refine k_putF (fs2 := [.ref q1, .ref q2, .ref q4, .ref q17, .ref q30, .ref q31, .int 0, .null, .null, .null, .null, .null, .null, .int 0, .int 0]) (dc dkX12_init 29 rfl) ffX12_37 rfl rfl (Nat.le_of_ble_eq_true rfl) rfl (kp 65 rfl ?_)
  refine k_aload (dc dkX12_init 30 rfl) rfl (kp 66 rfl ?_)
  refine k_iconst (dc dkX12_init 31 rfl) (kp 67 rfl ?_)
  refine k_put (fs2 := [.ref q1, .ref q2, .ref q4, .ref q17, .ref q30, .ref q31, vI 0, .null, .null, .null, .null, .null, .null, .int 0, .int 0]) (dc dkX12_init 32 rfl) fpX12_41 rfl rfl (Nat.le_of_ble_eq_true rfl) rfl (kp 70 rfl ?_)
  refine k_aload (dc dkX12_init 33 rfl) rfl (kp 71 rfl ?_)
  refine k_bipush (dc dkX12_init 34 rfl) (by decide) (kp 73 rfl ?_)
  refine k_newa (t := 0) (ty := .int) (N := 8) (a0 := (8, .inl (fun _ => 0))) (dc dkX12_init 35 rfl) aw_int rfl rfl (fun _ _ h => h) (fun _ => rfl) (by decide) (by decide) (by decide) (Nat.le_of_ble_eq_true rfl) (Nat.le_of_ble_eq_true rfl) (fun q32 => (kw _ ap3 (kp 75 rfl ?_)))
  refine k_putF (fs2 := [.ref q1, .ref q2, .ref q4, .ref q17, .ref q30, .ref q31, vI 0, .ref q32, .null, .null, .null, .null, .null, .int 0, .int 0]) (dc dkX12_init 36 rfl) ffX12_45 rfl rfl (Nat.le_of_ble_eq_true rfl) rfl (kp 78 rfl ?_)
  refine k_aload (dc dkX12_init 37 rfl) rfl (kp 79 rfl ?_)
  refine k_new (N := 6) (dc dkX12_init 38 rfl) nwX12_49 rfl (Nat.le_of_ble_eq_true rfl) (Nat.le_of_ble_eq_true rfl) (fun q33 => (kp 82 rfl ?_))
  refine k_dup (dc dkX12_init 39 rfl) (kp 83 rfl ?_)
  refine k_initN (as := []) (dc dkX12_init 40 rfl) iiX12_51 nX10_init rfl rfl (Nat.le_of_ble_eq_true rfl) rfl rfl ⟨(Nat.le_of_ble_eq_true rfl), (Nat.le_of_ble_eq_true rfl)⟩ ⟨(Nat.le_of_ble_eq_true rfl), (Nat.le_of_ble_eq_true rfl)⟩ (fun wc hwc => (kp 86 rfl ?_))
  obtain ⟨q34, q35, q36, q37, q38, rfl⟩ := hwc
  refine kw _ ap3 ?_
  refine k_putF (fs2 := [.ref q1, .ref q2, .ref q4, .ref q17, .ref q30, .ref q31, vI 0, .ref q32, .ref q33, .null, .null, .null, .null, .int 0, .int 0]) (dc dkX12_init 41 rfl) ffX12_52 rfl rfl (Nat.le_of_ble_eq_true rfl) rfl (kp 89 rfl ?_)
  refine k_aload (dc dkX12_init 42 rfl) rfl (kp 90 rfl ?_)
  refine k_new (N := 2) (dc dkX12_init 43 rfl) nwX12_56 rfl (Nat.le_of_ble_eq_true rfl) (Nat.le_of_ble_eq_true rfl) (fun q39 => (kp 93 rfl ?_))
  refine k_dup (dc dkX12_init 44 rfl) (kp 94 rfl ?_)
  refine k_bipush (dc dkX12_init 45 rfl) (by decide) (kp 96 rfl ?_)
  refine k_init (as := [vI 79]) (dc dkX12_init 46 rfl) iiX12_58 nX2_init_79 rfl rfl (Nat.le_of_ble_eq_true rfl) rfl rfl ⟨(Nat.le_of_ble_eq_true rfl), (Nat.le_of_ble_eq_true rfl)⟩ ⟨(Nat.le_of_ble_eq_true rfl), (Nat.le_of_ble_eq_true rfl)⟩ (fun wc hwc => (kp 99 rfl ?_))
  obtain ⟨q40, rfl⟩ := hwc
  refine kw _ ap3 ?_
  refine k_putF (fs2 := [.ref q1, .ref q2, .ref q4, .ref q17, .ref q30, .ref q31, vI 0, .ref q32, .ref q33, .ref q39, .null, .null, .null, .int 0, .int 0]) (dc dkX12_init 47 rfl) ffX12_61 rfl rfl (Nat.le_of_ble_eq_true rfl) rfl (kp 102 rfl ?_)
  refine k_aload (dc dkX12_init 48 rfl) rfl (kp 103 rfl ?_)
  refine k_new (N := 2) (dc dkX12_init 49 rfl) nwX12_64 rfl (Nat.le_of_ble_eq_true rfl) (Nat.le_of_ble_eq_true rfl) (fun q41 => (kp 106 rfl ?_))
  refine k_dup (dc dkX12_init 50 rfl) (kp 107 rfl ?_)
  refine k_initN (as := []) (dc dkX12_init 51 rfl) iiX12_66 nX6_init rfl rfl (Nat.le_of_ble_eq_true rfl) rfl rfl ⟨(Nat.le_of_ble_eq_true rfl), (Nat.le_of_ble_eq_true rfl)⟩ ⟨(Nat.le_of_ble_eq_true rfl), (Nat.le_of_ble_eq_true rfl)⟩ (fun wc hwc => (kp 110 rfl ?_))
  obtain ⟨q42, rfl⟩ := hwc
  refine kw _ ap3 ?_
  refine k_putF (fs2 := [.ref q1, .ref q2, .ref q4, .ref q17, .ref q30, .ref q31, vI 0, .ref q32, .ref q33, .ref q39, .ref q41, .null, .null, .int 0, .int 0]) (dc dkX12_init 52 rfl) ffX12_67 rfl rfl (Nat.le_of_ble_eq_true rfl) rfl (kp 113 rfl ?_)
  refine k_aload (dc dkX12_init 53 rfl) rfl (kp 114 rfl ?_)
  refine k_new (N := 7) (dc dkX12_init 54 rfl) nwX12_71 rfl (Nat.le_of_ble_eq_true rfl) (Nat.le_of_ble_eq_true rfl) (fun q43 => (kp 117 rfl ?_))
  refine k_dup (dc dkX12_init 55 rfl) (kp 118 rfl ?_)
  refine k_initN (as := []) (dc dkX12_init 56 rfl) iiX12_73 nX5_init rfl rfl (Nat.le_of_ble_eq_true rfl) rfl rfl ⟨(Nat.le_of_ble_eq_true rfl), (Nat.le_of_ble_eq_true rfl)⟩ ⟨(Nat.le_of_ble_eq_true rfl), (Nat.le_of_ble_eq_true rfl)⟩ (fun wc hwc => (kp 121 rfl ?_))
  obtain ⟨q44, q45, q46, q47, q48, rfl⟩ := hwc
  refine kw _ ap3 ?_
  refine k_putF (fs2 := [.ref q1, .ref q2, .ref q4, .ref q17, .ref q30, .ref q31, vI 0, .ref q32, .ref q33, .ref q39, .ref q41, .ref q43, .null, .int 0, .int 0]) (dc dkX12_init 57 rfl) ffX12_74 rfl rfl (Nat.le_of_ble_eq_true rfl) rfl (kp 124 rfl ?_)
  refine k_aload (dc dkX12_init 58 rfl) rfl (kp 125 rfl ?_)
  refine k_new (N := 4) (dc dkX12_init 59 rfl) nwX12_78 rfl (Nat.le_of_ble_eq_true rfl) (Nat.le_of_ble_eq_true rfl) (fun q49 => (kp 128 rfl ?_))
  refine k_dup (dc dkX12_init 60 rfl) (kp 129 rfl ?_)
  refine k_initN (as := []) (dc dkX12_init 61 rfl) iiX12_80 nX4_init rfl rfl (Nat.le_of_ble_eq_true rfl) rfl rfl ⟨(Nat.le_of_ble_eq_true rfl), (Nat.le_of_ble_eq_true rfl)⟩ ⟨(Nat.le_of_ble_eq_true rfl), (Nat.le_of_ble_eq_true rfl)⟩ (fun wc hwc => (kp 132 rfl ?_))
  obtain ⟨q50, q51, q52, rfl⟩ := hwc
  refine kw _ ap3 ?_
  refine k_putF (fs2 := [.ref q1, .ref q2, .ref q4, .ref q17, .ref q30, .ref q31, vI 0, .ref q32, .ref q33, .ref q39, .ref q41, .ref q43, .ref q49, .int 0, .int 0]) (dc dkX12_init 62 rfl) ffX12_81 rfl rfl (Nat.le_of_ble_eq_true rfl) rfl (kp 135 rfl ?_)
  refine k_aload (dc dkX12_init 63 rfl) rfl (kp 136 rfl ?_)
  refine k_iconst (dc dkX12_init 64 rfl) (kp 137 rfl ?_)
  refine k_put (fs2 := [.ref q1, .ref q2, .ref q4, .ref q17, .ref q30, .ref q31, vI 0, .ref q32, .ref q33, .ref q39, .ref q41, .ref q43, .ref q49, vI 0, .int 0]) (dc dkX12_init 65 rfl) fpX12_85 rfl rfl (Nat.le_of_ble_eq_true rfl) rfl (kp 140 rfl ?_)
  refine k_aload (dc dkX12_init 66 rfl) rfl (kp 141 rfl ?_)
  refine k_iconst (dc dkX12_init 67 rfl) (kp 142 rfl ?_)
  refine k_put (fs2 := [.ref q1, .ref q2, .ref q4, .ref q17, .ref q30, .ref q31, vI 0, .ref q32, .ref q33, .ref q39, .ref q41, .ref q43, .ref q49, vI 0, vI 0]) (dc dkX12_init 68 rfl) fpX12_88 rfl rfl (Nat.le_of_ble_eq_true rfl) rfl (kp 145 rfl ?_)
  refine k_iconst (dc dkX12_init 69 rfl) (kp 146 rfl ?_)
  refine k_istore (lv' := [(1, vI 0), (0, .ref h0)]) (dc dkX12_init 70 rfl) (by decide) rfl [1, 0] (lv2 := [(0, .ref h0), (1, vI 0)]) rfl (kp 147 rfl ?_)
  refine k_iload (dc dkX12_init 71 rfl) rfl (kp 148 rfl ?_)
  refine k_iconst (dc dkX12_init 72 rfl) (kp 149 rfl ?_)
  refine k_ge_f (tgt := 171) (dc dkX12_init 73 rfl) (by decide) (by decide) (kp 152 rfl ?_)
  refine k_aload (dc dkX12_init 74 rfl) rfl (kp 153 rfl ?_)
  refine k_get 0 (dc dkX12_init 75 rfl) flX12_31 rfl rfl (kp 156 rfl ?_)
  refine k_iload (dc dkX12_init 76 rfl) rfl (kp 157 rfl ?_)
  refine k_new (N := 6) (dc dkX12_init 77 rfl) nwX12_21 rfl (Nat.le_of_ble_eq_true rfl) (Nat.le_of_ble_eq_true rfl) (fun q53 => (kp 160 rfl ?_))
  refine k_dup (dc dkX12_init 78 rfl) (kp 161 rfl ?_)
  refine k_initN (as := []) (dc dkX12_init 79 rfl) iiX12_23 nX11_init rfl rfl (Nat.le_of_ble_eq_true rfl) rfl rfl ⟨(Nat.le_of_ble_eq_true rfl), (Nat.le_of_ble_eq_true rfl)⟩ ⟨(Nat.le_of_ble_eq_true rfl), (Nat.le_of_ble_eq_true rfl)⟩ (fun wc hwc => (kp 164 rfl ?_))
  obtain ⟨q54, q55, q56, q57, q58, q59, q60, q61, q62, q63, q64, q65, rfl⟩ := hwc
  refine kw _ ap3 ?_
  refine k_astM (t := 5) (E := (RX11, TX11, 6)) (i0 := 0) 2 (dc dkX12_init 80 rfl) rfl (List.mem_cons_of_mem _ (List.mem_cons_of_mem _ (List.mem_cons_of_mem _ (List.mem_append_right _ (List.Mem.head _))))) rfl rfl (by unfold vp_in; decide) (by decide) (kw _ st2 (kp 165 rfl ?_))
  refine k_iinc (z := 0) (lv' := [(1, vI 1), (0, .ref h0)]) (dc dkX12_init 81 rfl) (by decide) rfl rfl [1, 0] (lv2 := [(0, .ref h0), (1, vI 1)]) rfl (kp 168 rfl ?_)
  refine k_goto (tgt := 147) (dc dkX12_init 82 rfl) (by decide) ?_
  refine k_iload (dc dkX12_init 71 rfl) rfl (kp 148 rfl ?_)
  refine k_iconst (dc dkX12_init 72 rfl) (kp 149 rfl ?_)
  refine k_ge_f (tgt := 171) (dc dkX12_init 73 rfl) (by decide) (by decide) (kp 152 rfl ?_)
  refine k_aload (dc dkX12_init 74 rfl) rfl (kp 153 rfl ?_)
  refine k_get 0 (dc dkX12_init 75 rfl) flX12_31 rfl rfl (kp 156 rfl ?_)
  refine k_iload (dc dkX12_init 76 rfl) rfl (kp 157 rfl ?_)
  refine k_new (N := 6) (dc dkX12_init 77 rfl) nwX12_21 rfl (Nat.le_of_ble_eq_true rfl) (Nat.le_of_ble_eq_true rfl) (fun q66 => (kp 160 rfl ?_))
  refine k_dup (dc dkX12_init 78 rfl) (kp 161 rfl ?_)
  refine k_initN (as := []) (dc dkX12_init 79 rfl) iiX12_23 nX11_init rfl rfl (Nat.le_of_ble_eq_true rfl) rfl rfl ⟨(Nat.le_of_ble_eq_true rfl), (Nat.le_of_ble_eq_true rfl)⟩ ⟨(Nat.le_of_ble_eq_true rfl), (Nat.le_of_ble_eq_true rfl)⟩ (fun wc hwc => (kp 164 rfl ?_))
  obtain ⟨q67, q68, q69, q70, q71, q72, q73, q74, q75, q76, q77, q78, rfl⟩ := hwc
  refine kw _ ap3 ?_
  refine k_astM (t := 5) (E := (RX11, TX11, 6)) (i0 := 1) 2 (dc dkX12_init 80 rfl) rfl (List.mem_cons_of_mem _ (List.mem_cons_of_mem _ (List.mem_cons_of_mem _ (List.mem_append_right _ (List.Mem.head _))))) rfl rfl (by unfold vp_in; decide) (by decide) (kw _ st2 (kp 165 rfl ?_))
  refine k_iinc (z := 1) (lv' := [(1, vI 2), (0, .ref h0)]) (dc dkX12_init 81 rfl) (by decide) rfl rfl [1, 0] (lv2 := [(0, .ref h0), (1, vI 2)]) rfl (kp 168 rfl ?_)
  refine k_goto (tgt := 147) (dc dkX12_init 82 rfl) (by decide) ?_
  refine k_iload (dc dkX12_init 71 rfl) rfl (kp 148 rfl ?_)
  refine k_iconst (dc dkX12_init 72 rfl) (kp 149 rfl ?_)
  refine k_ge_t (tgt := 171) (dc dkX12_init 73 rfl) (by decide) (by decide) ?_
  refine k_iconst (dc dkX12_init 83 rfl) (kp 172 rfl ?_)
  refine k_istore (lv' := [(1, vI 0), (0, .ref h0)]) (dc dkX12_init 84 rfl) (by decide) rfl [1, 0] (lv2 := [(0, .ref h0), (1, vI 0)]) rfl (kp 173 rfl ?_)
  refine k_iload (dc dkX12_init 85 rfl) rfl (kp 174 rfl ?_)
  refine k_bipush (dc dkX12_init 86 rfl) (by decide) (kp 176 rfl ?_)
  refine k_ge_f (tgt := 198) (dc dkX12_init 87 rfl) (by decide) (by decide) (kp 179 rfl ?_)
  refine k_aload (dc dkX12_init 88 rfl) rfl (kp 180 rfl ?_)
  refine k_get 0 (dc dkX12_init 89 rfl) flX12_37 rfl rfl (kp 183 rfl ?_)
  refine k_iload (dc dkX12_init 90 rfl) rfl (kp 184 rfl ?_)
  refine k_new (N := 4) (dc dkX12_init 91 rfl) nwX12_35 rfl (Nat.le_of_ble_eq_true rfl) (Nat.le_of_ble_eq_true rfl) (fun q79 => (kp 187 rfl ?_))
  refine k_dup (dc dkX12_init 92 rfl) (kp 188 rfl ?_)
  refine k_initN (as := []) (dc dkX12_init 93 rfl) iiX12_91 nX0_init rfl rfl (Nat.le_of_ble_eq_true rfl) rfl rfl ⟨(Nat.le_of_ble_eq_true rfl), (Nat.le_of_ble_eq_true rfl)⟩ ⟨(Nat.le_of_ble_eq_true rfl), (Nat.le_of_ble_eq_true rfl)⟩ (fun wc hwc => (kp 191 rfl ?_))
  obtain ⟨q80, q81, q82, rfl⟩ := hwc
  refine kw _ ap3 ?_
  refine k_astM (t := 4) (E := (RX0, TX0, 4)) (i0 := 0) 1 (dc dkX12_init 94 rfl) rfl (List.mem_cons_of_mem _ (List.mem_cons_of_mem _ (List.mem_cons_of_mem _ (List.mem_append_right _ (List.Mem.head _))))) rfl rfl (by unfold vp_in; decide) (by decide) (kw _ st1 (kp 192 rfl ?_))
  refine k_iinc (z := 0) (lv' := [(1, vI 1), (0, .ref h0)]) (dc dkX12_init 95 rfl) (by decide) rfl rfl [1, 0] (lv2 := [(0, .ref h0), (1, vI 1)]) rfl (kp 195 rfl ?_)
  refine k_goto (tgt := 173) (dc dkX12_init 96 rfl) (by decide) ?_
  refine k_iload (dc dkX12_init 85 rfl) rfl (kp 174 rfl ?_)
  refine k_bipush (dc dkX12_init 86 rfl) (by decide) (kp 176 rfl ?_)
  refine k_ge_f (tgt := 198) (dc dkX12_init 87 rfl) (by decide) (by decide) (kp 179 rfl ?_)
  refine k_aload (dc dkX12_init 88 rfl) rfl (kp 180 rfl ?_)
  refine k_get 0 (dc dkX12_init 89 rfl) flX12_37 rfl rfl (kp 183 rfl ?_)
  refine k_iload (dc dkX12_init 90 rfl) rfl (kp 184 rfl ?_)
  refine k_new (N := 4) (dc dkX12_init 91 rfl) nwX12_35 rfl (Nat.le_of_ble_eq_true rfl) (Nat.le_of_ble_eq_true rfl) (fun q83 => (kp 187 rfl ?_))
  refine k_dup (dc dkX12_init 92 rfl) (kp 188 rfl ?_)
  refine k_initN (as := []) (dc dkX12_init 93 rfl) iiX12_91 nX0_init rfl rfl (Nat.le_of_ble_eq_true rfl) rfl rfl ⟨(Nat.le_of_ble_eq_true rfl), (Nat.le_of_ble_eq_true rfl)⟩ ⟨(Nat.le_of_ble_eq_true rfl), (Nat.le_of_ble_eq_true rfl)⟩ (fun wc hwc => (kp 191 rfl ?_))
  obtain ⟨q84, q85, q86, rfl⟩ := hwc
  refine kw _ ap3 ?_
  refine k_astM (t := 4) (E := (RX0, TX0, 4)) (i0 := 1) 1 (dc dkX12_init 94 rfl) rfl (List.mem_cons_of_mem _ (List.mem_cons_of_mem _ (List.mem_cons_of_mem _ (List.mem_append_right _ (List.Mem.head _))))) rfl rfl (by unfold vp_in; decide) (by decide) (kw _ st1 (kp 192 rfl ?_))
  refine k_iinc (z := 1) (lv' := [(1, vI 2), (0, .ref h0)]) (dc dkX12_init 95 rfl) (by decide) rfl rfl [1, 0] (lv2 := [(0, .ref h0), (1, vI 2)]) rfl (kp 195 rfl ?_)
  refine k_goto (tgt := 173) (dc dkX12_init 96 rfl) (by decide) ?_
  refine k_iload (dc dkX12_init 85 rfl) rfl (kp 174 rfl ?_)
  refine k_bipush (dc dkX12_init 86 rfl) (by decide) (kp 176 rfl ?_)
  refine k_ge_f (tgt := 198) (dc dkX12_init 87 rfl) (by decide) (by decide) (kp 179 rfl ?_)
  refine k_aload (dc dkX12_init 88 rfl) rfl (kp 180 rfl ?_)
  refine k_get 0 (dc dkX12_init 89 rfl) flX12_37 rfl rfl (kp 183 rfl ?_)
  refine k_iload (dc dkX12_init 90 rfl) rfl (kp 184 rfl ?_)
  refine k_new (N := 4) (dc dkX12_init 91 rfl) nwX12_35 rfl (Nat.le_of_ble_eq_true rfl) (Nat.le_of_ble_eq_true rfl) (fun q87 => (kp 187 rfl ?_))
  refine k_dup (dc dkX12_init 92 rfl) (kp 188 rfl ?_)
  refine k_initN (as := []) (dc dkX12_init 93 rfl) iiX12_91 nX0_init rfl rfl (Nat.le_of_ble_eq_true rfl) rfl rfl ⟨(Nat.le_of_ble_eq_true rfl), (Nat.le_of_ble_eq_true rfl)⟩ ⟨(Nat.le_of_ble_eq_true rfl), (Nat.le_of_ble_eq_true rfl)⟩ (fun wc hwc => (kp 191 rfl ?_))
  obtain ⟨q88, q89, q90, rfl⟩ := hwc
  refine kw _ ap3 ?_
  refine k_astM (t := 4) (E := (RX0, TX0, 4)) (i0 := 2) 1 (dc dkX12_init 94 rfl) rfl (List.mem_cons_of_mem _ (List.mem_cons_of_mem _ (List.mem_cons_of_mem _ (List.mem_append_right _ (List.Mem.head _))))) rfl rfl (by unfold vp_in; decide) (by decide) (kw _ st1 (kp 192 rfl ?_))
  refine k_iinc (z := 2) (lv' := [(1, vI 3), (0, .ref h0)]) (dc dkX12_init 95 rfl) (by decide) rfl rfl [1, 0] (lv2 := [(0, .ref h0), (1, vI 3)]) rfl (kp 195 rfl ?_)
  refine k_goto (tgt := 173) (dc dkX12_init 96 rfl) (by decide) ?_
  refine k_iload (dc dkX12_init 85 rfl) rfl (kp 174 rfl ?_)
  refine k_bipush (dc dkX12_init 86 rfl) (by decide) (kp 176 rfl ?_)
  refine k_ge_f (tgt := 198) (dc dkX12_init 87 rfl) (by decide) (by decide) (kp 179 rfl ?_)
  refine k_aload (dc dkX12_init 88 rfl) rfl (kp 180 rfl ?_)
  refine k_get 0 (dc dkX12_init 89 rfl) flX12_37 rfl rfl (kp 183 rfl ?_)
  refine k_iload (dc dkX12_init 90 rfl) rfl (kp 184 rfl ?_)
  refine k_new (N := 4) (dc dkX12_init 91 rfl) nwX12_35 rfl (Nat.le_of_ble_eq_true rfl) (Nat.le_of_ble_eq_true rfl) (fun q91 => (kp 187 rfl ?_))
  refine k_dup (dc dkX12_init 92 rfl) (kp 188 rfl ?_)
  refine k_initN (as := []) (dc dkX12_init 93 rfl) iiX12_91 nX0_init rfl rfl (Nat.le_of_ble_eq_true rfl) rfl rfl ⟨(Nat.le_of_ble_eq_true rfl), (Nat.le_of_ble_eq_true rfl)⟩ ⟨(Nat.le_of_ble_eq_true rfl), (Nat.le_of_ble_eq_true rfl)⟩ (fun wc hwc => (kp 191 rfl ?_))
  obtain ⟨q92, q93, q94, rfl⟩ := hwc
  refine kw _ ap3 ?_
  refine k_astM (t := 4) (E := (RX0, TX0, 4)) (i0 := 3) 1 (dc dkX12_init 94 rfl) rfl (List.mem_cons_of_mem _ (List.mem_cons_of_mem _ (List.mem_cons_of_mem _ (List.mem_append_right _ (List.Mem.head _))))) rfl rfl (by unfold vp_in; decide) (by decide) (kw _ st1 (kp 192 rfl ?_))
  refine k_iinc (z := 3) (lv' := [(1, vI 4), (0, .ref h0)]) (dc dkX12_init 95 rfl) (by decide) rfl rfl [1, 0] (lv2 := [(0, .ref h0), (1, vI 4)]) rfl (kp 195 rfl ?_)
  refine k_goto (tgt := 173) (dc dkX12_init 96 rfl) (by decide) ?_
  refine k_iload (dc dkX12_init 85 rfl) rfl (kp 174 rfl ?_)
  refine k_bipush (dc dkX12_init 86 rfl) (by decide) (kp 176 rfl ?_)
  refine k_ge_f (tgt := 198) (dc dkX12_init 87 rfl) (by decide) (by decide) (kp 179 rfl ?_)
  refine k_aload (dc dkX12_init 88 rfl) rfl (kp 180 rfl ?_)
  refine k_get 0 (dc dkX12_init 89 rfl) flX12_37 rfl rfl (kp 183 rfl ?_)
  refine k_iload (dc dkX12_init 90 rfl) rfl (kp 184 rfl ?_)
  refine k_new (N := 4) (dc dkX12_init 91 rfl) nwX12_35 rfl (Nat.le_of_ble_eq_true rfl) (Nat.le_of_ble_eq_true rfl) (fun q95 => (kp 187 rfl ?_))
  refine k_dup (dc dkX12_init 92 rfl) (kp 188 rfl ?_)
  refine k_initN (as := []) (dc dkX12_init 93 rfl) iiX12_91 nX0_init rfl rfl (Nat.le_of_ble_eq_true rfl) rfl rfl ⟨(Nat.le_of_ble_eq_true rfl), (Nat.le_of_ble_eq_true rfl)⟩ ⟨(Nat.le_of_ble_eq_true rfl), (Nat.le_of_ble_eq_true rfl)⟩ (fun wc hwc => (kp 191 rfl ?_))
  obtain ⟨q96, q97, q98, rfl⟩ := hwc
  refine kw _ ap3 ?_
  refine k_astM (t := 4) (E := (RX0, TX0, 4)) (i0 := 4) 1 (dc dkX12_init 94 rfl) rfl (List.mem_cons_of_mem _ (List.mem_cons_of_mem _ (List.mem_cons_of_mem _ (List.mem_append_right _ (List.Mem.head _))))) rfl rfl (by unfold vp_in; decide) (by decide) (kw _ st1 (kp 192 rfl ?_))
  refine k_iinc (z := 4) (lv' := [(1, vI 5), (0, .ref h0)]) (dc dkX12_init 95 rfl) (by decide) rfl rfl [1, 0] (lv2 := [(0, .ref h0), (1, vI 5)]) rfl (kp 195 rfl ?_)
  refine k_goto (tgt := 173) (dc dkX12_init 96 rfl) (by decide) ?_
  refine k_iload (dc dkX12_init 85 rfl) rfl (kp 174 rfl ?_)
  refine k_bipush (dc dkX12_init 86 rfl) (by decide) (kp 176 rfl ?_)
  refine k_ge_f (tgt := 198) (dc dkX12_init 87 rfl) (by decide) (by decide) (kp 179 rfl ?_)
  refine k_aload (dc dkX12_init 88 rfl) rfl (kp 180 rfl ?_)
  refine k_get 0 (dc dkX12_init 89 rfl) flX12_37 rfl rfl (kp 183 rfl ?_)
  refine k_iload (dc dkX12_init 90 rfl) rfl (kp 184 rfl ?_)
  refine k_new (N := 4) (dc dkX12_init 91 rfl) nwX12_35 rfl (Nat.le_of_ble_eq_true rfl) (Nat.le_of_ble_eq_true rfl) (fun q99 => (kp 187 rfl ?_))
  refine k_dup (dc dkX12_init 92 rfl) (kp 188 rfl ?_)
  refine k_initN (as := []) (dc dkX12_init 93 rfl) iiX12_91 nX0_init rfl rfl (Nat.le_of_ble_eq_true rfl) rfl rfl ⟨(Nat.le_of_ble_eq_true rfl), (Nat.le_of_ble_eq_true rfl)⟩ ⟨(Nat.le_of_ble_eq_true rfl), (Nat.le_of_ble_eq_true rfl)⟩ (fun wc hwc => (kp 191 rfl ?_))
  obtain ⟨q100, q101, q102, rfl⟩ := hwc
  refine kw _ ap3 ?_
  refine k_astM (t := 4) (E := (RX0, TX0, 4)) (i0 := 5) 1 (dc dkX12_init 94 rfl) rfl (List.mem_cons_of_mem _ (List.mem_cons_of_mem _ (List.mem_cons_of_mem _ (List.mem_append_right _ (List.Mem.head _))))) rfl rfl (by unfold vp_in; decide) (by decide) (kw _ st1 (kp 192 rfl ?_))
  refine k_iinc (z := 5) (lv' := [(1, vI 6), (0, .ref h0)]) (dc dkX12_init 95 rfl) (by decide) rfl rfl [1, 0] (lv2 := [(0, .ref h0), (1, vI 6)]) rfl (kp 195 rfl ?_)
  refine k_goto (tgt := 173) (dc dkX12_init 96 rfl) (by decide) ?_
  refine k_iload (dc dkX12_init 85 rfl) rfl (kp 174 rfl ?_)
  refine k_bipush (dc dkX12_init 86 rfl) (by decide) (kp 176 rfl ?_)
  refine k_ge_f (tgt := 198) (dc dkX12_init 87 rfl) (by decide) (by decide) (kp 179 rfl ?_)
  refine k_aload (dc dkX12_init 88 rfl) rfl (kp 180 rfl ?_)
  refine k_get 0 (dc dkX12_init 89 rfl) flX12_37 rfl rfl (kp 183 rfl ?_)
  refine k_iload (dc dkX12_init 90 rfl) rfl (kp 184 rfl ?_)
  refine k_new (N := 4) (dc dkX12_init 91 rfl) nwX12_35 rfl (Nat.le_of_ble_eq_true rfl) (Nat.le_of_ble_eq_true rfl) (fun q103 => (kp 187 rfl ?_))
  refine k_dup (dc dkX12_init 92 rfl) (kp 188 rfl ?_)
  refine k_initN (as := []) (dc dkX12_init 93 rfl) iiX12_91 nX0_init rfl rfl (Nat.le_of_ble_eq_true rfl) rfl rfl ⟨(Nat.le_of_ble_eq_true rfl), (Nat.le_of_ble_eq_true rfl)⟩ ⟨(Nat.le_of_ble_eq_true rfl), (Nat.le_of_ble_eq_true rfl)⟩ (fun wc hwc => (kp 191 rfl ?_))
  obtain ⟨q104, q105, q106, rfl⟩ := hwc
  refine kw _ ap3 ?_
  refine k_astM (t := 4) (E := (RX0, TX0, 4)) (i0 := 6) 1 (dc dkX12_init 94 rfl) rfl (List.mem_cons_of_mem _ (List.mem_cons_of_mem _ (List.mem_cons_of_mem _ (List.mem_append_right _ (List.Mem.head _))))) rfl rfl (by unfold vp_in; decide) (by decide) (kw _ st1 (kp 192 rfl ?_))
  refine k_iinc (z := 6) (lv' := [(1, vI 7), (0, .ref h0)]) (dc dkX12_init 95 rfl) (by decide) rfl rfl [1, 0] (lv2 := [(0, .ref h0), (1, vI 7)]) rfl (kp 195 rfl ?_)
  refine k_goto (tgt := 173) (dc dkX12_init 96 rfl) (by decide) ?_
  refine k_iload (dc dkX12_init 85 rfl) rfl (kp 174 rfl ?_)
  refine k_bipush (dc dkX12_init 86 rfl) (by decide) (kp 176 rfl ?_)
  refine k_ge_f (tgt := 198) (dc dkX12_init 87 rfl) (by decide) (by decide) (kp 179 rfl ?_)
  refine k_aload (dc dkX12_init 88 rfl) rfl (kp 180 rfl ?_)
  refine k_get 0 (dc dkX12_init 89 rfl) flX12_37 rfl rfl (kp 183 rfl ?_)
  refine k_iload (dc dkX12_init 90 rfl) rfl (kp 184 rfl ?_)
  refine k_new (N := 4) (dc dkX12_init 91 rfl) nwX12_35 rfl (Nat.le_of_ble_eq_true rfl) (Nat.le_of_ble_eq_true rfl) (fun q107 => (kp 187 rfl ?_))
  refine k_dup (dc dkX12_init 92 rfl) (kp 188 rfl ?_)
  refine k_initN (as := []) (dc dkX12_init 93 rfl) iiX12_91 nX0_init rfl rfl (Nat.le_of_ble_eq_true rfl) rfl rfl ⟨(Nat.le_of_ble_eq_true rfl), (Nat.le_of_ble_eq_true rfl)⟩ ⟨(Nat.le_of_ble_eq_true rfl), (Nat.le_of_ble_eq_true rfl)⟩ (fun wc hwc => (kp 191 rfl ?_))
  obtain ⟨q108, q109, q110, rfl⟩ := hwc
  refine kw _ ap3 ?_
  refine k_astM (t := 4) (E := (RX0, TX0, 4)) (i0 := 7) 1 (dc dkX12_init 94 rfl) rfl (List.mem_cons_of_mem _ (List.mem_cons_of_mem _ (List.mem_cons_of_mem _ (List.mem_append_right _ (List.Mem.head _))))) rfl rfl (by unfold vp_in; decide) (by decide) (kw _ st1 (kp 192 rfl ?_))
  refine k_iinc (z := 7) (lv' := [(1, vI 8), (0, .ref h0)]) (dc dkX12_init 95 rfl) (by decide) rfl rfl [1, 0] (lv2 := [(0, .ref h0), (1, vI 8)]) rfl (kp 195 rfl ?_)
  refine k_goto (tgt := 173) (dc dkX12_init 96 rfl) (by decide) ?_
  refine k_iload (dc dkX12_init 85 rfl) rfl (kp 174 rfl ?_)
  refine k_bipush (dc dkX12_init 86 rfl) (by decide) (kp 176 rfl ?_)
  refine k_ge_t (tgt := 198) (dc dkX12_init 87 rfl) (by decide) (by decide) ?_
  exact k_end (dc dkX12_init 97 rfl) rfl (Nat.le_of_ble_eq_true rfl) (Nat.le_of_ble_eq_true rfl) ⟨fun k => ([h0, q1, q2, q3, q39, q40, q32, q30, q31, q33, q34, q35, q36, q37, q38, q41, q42, q43, q44, q45, q46, q47, q48, q49, q50, q51, q52, q4, q5, q6, q7, q8, q9, q10, q11, q12, q13, q14, q15, q16, q17, q18, q19, q20, q21, q22, q23, q24, q25, q26, q27, q28, q29, q53, q54, q55, q56, q57, q58, q59, q60, q61, q62, q63, q64, q65, q66, q67, q68, q69, q70, q71, q72, q73, q74, q75, q76, q77, q78, q79, q80, q81, q82, q83, q84, q85, q86, q87, q88, q89, q90, q91, q92, q93, q94, q95, q96, q97, q98, q99, q100, q101, q102, q103, q104, q105, q106, q107, q108, q109, q110] : List Nat).getD k 0, rfl, rfl⟩
