/-! ===== the small constructors ===== -/
theorem aw_int : Cond.arrayClass (newarray.typeOf .int) ∈ lw_good := gm1 133 (by decide +kernel)
theorem aw_long : Cond.arrayClass (newarray.typeOf .long) ∈ lw_good := gm1 132 (by decide +kernel)
theorem aw_byte : Cond.arrayClass (newarray.typeOf .byte) ∈ lw_good := gm1 59 (by decide +kernel)
theorem aw_boolean : Cond.arrayClass (newarray.typeOf .boolean) ∈ lw_good := gm2 79 (by decide +kernel)
theorem oiX0_3 : kOI RX0 3 := ⟨gm1 116 (by decide +kernel), gm1 32 (by decide +kernel), gm1 33 ⟨rfl, rfl⟩⟩
theorem ffX0_15 : jFF RX0 15 0 1 (.array .int) := ⟨(RX0, TX0, 4), rfl, by decide, gm1 120 (by decide +kernel), rfl, rfl, rfl, by decide +kernel⟩
theorem ffX0_19 : jFF RX0 19 0 2 (.array .int) := ⟨(RX0, TX0, 4), rfl, by decide, gm1 121 (by decide +kernel), rfl, rfl, rfl, by decide +kernel⟩
theorem ffX0_22 : jFF RX0 22 0 3 (.array .int) := ⟨(RX0, TX0, 4), rfl, by decide, gm1 122 (by decide +kernel), rfl, rfl, rfl, by decide +kernel⟩
theorem oiX1_3 : kOI RX1 3 := ⟨gm1 110 (by decide +kernel), gm1 32 (by decide +kernel), gm1 33 ⟨rfl, rfl⟩⟩
theorem ffX1_38 : jFF RX1 38 1 8 (.array .long) := ⟨(RX1, TX1, 10), rfl, by decide, gm1 153 (by decide +kernel), rfl, rfl, rfl, by decide +kernel⟩
theorem nwX1_42 : kNW RX1 42 0 [.int 0, .null, .null, .null] := ⟨(RX0, TX0, 4), rfl, gm1 111 (by decide +kernel), gm1 112 (by decide +kernel), gm1 7 (by decide +kernel), fun j hj => by
  have key : ∀ j, j < 4 → (parseFieldDescriptor (TX0 j).2.2.1) = some (([.int, .int, .int, .int] : List FieldType).getD j .int) ∨ True := fun _ _ => Or.inr trivial
  clear key
  revert hj
  revert j
  decide +kernel⟩
theorem iiX1_44 : kIN RX1 44 miX0_init 0 := ⟨by decide +kernel, gm1 114 (by decide +kernel), gm1 7 (by decide +kernel), gm1 115 ⟨rfl, rfl⟩, rfl, rfl, by decide +kernel, by decide +kernel, by decide +kernel⟩
theorem ffX1_45 : jFF RX1 45 1 9 (.object "PegBands$Bands") := ⟨(RX1, TX1, 10), rfl, by decide, gm1 154 (by decide +kernel), rfl, rfl, rfl, by decide +kernel⟩
theorem oiX2_3 : kOI RX2 3 := ⟨gm1 45 (by decide +kernel), gm1 32 (by decide +kernel), gm1 33 ⟨rfl, rfl⟩⟩
theorem ffX2_21 : jFF RX2 21 2 0 (.array .byte) := ⟨(RX2, TX2, 2), rfl, by decide, gm1 49 (by decide +kernel), rfl, rfl, rfl, by decide +kernel⟩
theorem oiX3_3 : kOI RX3 3 := ⟨gm1 184 (by decide +kernel), gm1 32 (by decide +kernel), gm1 33 ⟨rfl, rfl⟩⟩
theorem ffX3_21 : jFF RX3 21 3 3 (.array .int) := ⟨(RX3, TX3, 5), rfl, by decide, gm1 189 (by decide +kernel), rfl, rfl, rfl, by decide +kernel⟩
theorem ffX3_25 : jFF RX3 25 3 4 (.array .int) := ⟨(RX3, TX3, 5), rfl, by decide, gm1 190 (by decide +kernel), rfl, rfl, rfl, by decide +kernel⟩
theorem oiX4_3 : kOI RX4 3 := ⟨gm2 85 (by decide +kernel), gm1 32 (by decide +kernel), gm1 33 ⟨rfl, rfl⟩⟩
theorem ffX4_9 : jFF RX4 9 4 0 (.array .int) := ⟨(RX4, TX4, 4), rfl, by decide, gm2 86 (by decide +kernel), rfl, rfl, rfl, by decide +kernel⟩
theorem ffX4_15 : jFF RX4 15 4 1 (.array .int) := ⟨(RX4, TX4, 4), rfl, by decide, gm2 87 (by decide +kernel), rfl, rfl, rfl, by decide +kernel⟩
theorem ffX4_18 : jFF RX4 18 4 2 (.array .long) := ⟨(RX4, TX4, 4), rfl, by decide, gm2 88 (by decide +kernel), rfl, rfl, rfl, by decide +kernel⟩
theorem oiX5_3 : kOI RX5 3 := ⟨gm2 56 (by decide +kernel), gm1 32 (by decide +kernel), gm1 33 ⟨rfl, rfl⟩⟩
theorem ffX5_11 : jFF RX5 11 5 0 (.array .long) := ⟨(RX5, TX5, 7), rfl, by decide, gm2 57 (by decide +kernel), rfl, rfl, rfl, by decide +kernel⟩
theorem ffX5_15 : jFF RX5 15 5 1 (.array .long) := ⟨(RX5, TX5, 7), rfl, by decide, gm2 58 (by decide +kernel), rfl, rfl, rfl, by decide +kernel⟩
theorem ffX5_18 : jFF RX5 18 5 2 (.array .long) := ⟨(RX5, TX5, 7), rfl, by decide, gm2 59 (by decide +kernel), rfl, rfl, rfl, by decide +kernel⟩
theorem ffX5_21 : jFF RX5 21 5 3 (.array .int) := ⟨(RX5, TX5, 7), rfl, by decide, gm2 60 (by decide +kernel), rfl, rfl, rfl, by decide +kernel⟩
theorem ffX5_25 : jFF RX5 25 5 4 (.array .boolean) := ⟨(RX5, TX5, 7), rfl, by decide, gm2 61 (by decide +kernel), rfl, rfl, rfl, by decide +kernel⟩
theorem oiX6_3 : kOI RX6 3 := ⟨gm2 43 (by decide +kernel), gm1 32 (by decide +kernel), gm1 33 ⟨rfl, rfl⟩⟩
theorem ffX6_9 : jFF RX6 9 6 0 (.array .int) := ⟨(RX6, TX6, 2), rfl, by decide, gm2 44 (by decide +kernel), rfl, rfl, rfl, by decide +kernel⟩
theorem oiX8_3 : kOI RX8 3 := ⟨gm1 39 (by decide +kernel), gm1 32 (by decide +kernel), gm1 33 ⟨rfl, rfl⟩⟩
theorem nwX8_9 : kNW RX8 9 2 [.null, .int 0] := ⟨(RX2, TX2, 2), rfl, gm1 40 (by decide +kernel), gm1 41 (by decide +kernel), gm1 3 (by decide +kernel), fun j hj => by
  have key : ∀ j, j < 2 → (parseFieldDescriptor (TX2 j).2.2.1) = some (([.int, .int] : List FieldType).getD j .int) ∨ True := fun _ _ => Or.inr trivial
  clear key
  revert hj
  revert j
  decide +kernel⟩
theorem iiX8_11 : kII RX8 11 miX2_init 1 := ⟨gm1 42 (by decide +kernel), gm1 43 (by decide +kernel), gm1 3 (by decide +kernel), gm1 44 ⟨rfl, rfl⟩, rfl, rfl, by decide +kernel, by decide +kernel, by decide +kernel⟩
theorem ffX8_14 : jFF RX8 14 7 0 (.object "PegBands$Bytes") := ⟨(RX8, TX8, 9), rfl, by decide, gm1 60 (by decide +kernel), rfl, rfl, rfl, by decide +kernel⟩
theorem oiX9_3 : kOI RX9 3 := ⟨gm1 207 (by decide +kernel), gm1 32 (by decide +kernel), gm1 33 ⟨rfl, rfl⟩⟩
theorem ffX9_18 : jFF RX9 18 8 2 (.array .int) := ⟨(RX9, TX9, 3), rfl, by decide, gm1 212 (by decide +kernel), rfl, rfl, rfl, by decide +kernel⟩
theorem oiX10_3 : kOI RX10 3 := ⟨gm2 14 (by decide +kernel), gm1 32 (by decide +kernel), gm1 33 ⟨rfl, rfl⟩⟩
theorem ffX10_11 : jFF RX10 11 9 0 (.array .int) := ⟨(RX10, TX10, 6), rfl, by decide, gm2 15 (by decide +kernel), rfl, rfl, rfl, by decide +kernel⟩
theorem ffX10_19 : jFF RX10 19 9 2 (.array .int) := ⟨(RX10, TX10, 6), rfl, by decide, gm2 19 (by decide +kernel), rfl, rfl, rfl, by decide +kernel⟩
theorem ffX10_22 : jFF RX10 22 9 3 (.array .int) := ⟨(RX10, TX10, 6), rfl, by decide, gm2 20 (by decide +kernel), rfl, rfl, rfl, by decide +kernel⟩
theorem ffX10_25 : jFF RX10 25 9 4 (.array .int) := ⟨(RX10, TX10, 6), rfl, by decide, gm2 21 (by decide +kernel), rfl, rfl, rfl, by decide +kernel⟩
theorem ffX10_28 : jFF RX10 28 9 5 (.array .int) := ⟨(RX10, TX10, 6), rfl, by decide, gm2 22 (by decide +kernel), rfl, rfl, rfl, by decide +kernel⟩
theorem oiX11_3 : kOI RX11 3 := ⟨gm1 104 (by decide +kernel), gm1 32 (by decide +kernel), gm1 33 ⟨rfl, rfl⟩⟩
theorem nwX11_15 : kNW RX11 15 1 [.int 0, .int 0, .int 0, .int 0, .long 0, .long 0, .int 0, .int 0, .null, .null] := ⟨(RX1, TX1, 10), rfl, gm1 105 (by decide +kernel), gm1 106 (by decide +kernel), gm1 6 (by decide +kernel), fun j hj => by
  have key : ∀ j, j < 10 → (parseFieldDescriptor (TX1 j).2.2.1) = some (([.int, .int, .boolean, .int, .long, .long, .int, .int, .int, .int] : List FieldType).getD j .int) ∨ True := fun _ _ => Or.inr trivial
  clear key
  revert hj
  revert j
  decide +kernel⟩
theorem iiX11_17 : kIN RX11 17 miX1_init 0 := ⟨by decide +kernel, gm1 108 (by decide +kernel), gm1 6 (by decide +kernel), gm1 109 ⟨rfl, rfl⟩, rfl, rfl, by decide +kernel, by decide +kernel, by decide +kernel⟩
theorem ffX11_18 : jFF RX11 18 10 1 (.object "PegBands$Board") := ⟨(RX11, TX11, 6), rfl, by decide, gm1 222 (by decide +kernel), rfl, rfl, rfl, by decide +kernel⟩
theorem nwX11_22 : kNW RX11 22 3 [.int 0, .int 0, .int 0, .null, .null] := ⟨(RX3, TX3, 5), rfl, gm1 179 (by decide +kernel), gm1 180 (by decide +kernel), gm1 8 (by decide +kernel), fun j hj => by
  have key : ∀ j, j < 5 → (parseFieldDescriptor (TX3 j).2.2.1) = some (([.int, .int, .int, .int, .int] : List FieldType).getD j .int) ∨ True := fun _ _ => Or.inr trivial
  clear key
  revert hj
  revert j
  decide +kernel⟩
theorem iiX11_24 : kIN RX11 24 miX3_init 0 := ⟨by decide +kernel, gm1 182 (by decide +kernel), gm1 8 (by decide +kernel), gm1 183 ⟨rfl, rfl⟩, rfl, rfl, by decide +kernel, by decide +kernel, by decide +kernel⟩
theorem ffX11_25 : jFF RX11 25 10 2 (.object "PegBands$Calls") := ⟨(RX11, TX11, 6), rfl, by decide, gm1 224 (by decide +kernel), rfl, rfl, rfl, by decide +kernel⟩
theorem ffX11_33 : jFF RX11 33 10 4 (.array .int) := ⟨(RX11, TX11, 6), rfl, by decide, gm1 229 (by decide +kernel), rfl, rfl, rfl, by decide +kernel⟩
theorem nwX11_37 : kNW RX11 37 8 [.int 0, .int 0, .null] := ⟨(RX9, TX9, 3), rfl, gm1 202 (by decide +kernel), gm1 203 (by decide +kernel), gm1 9 (by decide +kernel), fun j hj => by
  have key : ∀ j, j < 3 → (parseFieldDescriptor (TX9 j).2.2.1) = some (([.int, .int, .int] : List FieldType).getD j .int) ∨ True := fun _ _ => Or.inr trivial
  clear key
  revert hj
  revert j
  decide +kernel⟩
theorem iiX11_39 : kIN RX11 39 miX9_init 0 := ⟨by decide +kernel, gm1 205 (by decide +kernel), gm1 9 (by decide +kernel), gm1 206 ⟨rfl, rfl⟩, rfl, rfl, by decide +kernel, by decide +kernel, by decide +kernel⟩
theorem ffX11_40 : jFF RX11 40 10 5 (.object "PegBands$Sentence") := ⟨(RX11, TX11, 6), rfl, by decide, gm1 231 (by decide +kernel), rfl, rfl, rfl, by decide +kernel⟩
def wX0 (cA : Nat → ClassId) (h0 q1 q2 q3 : Nat) : va_W := [(h0, .inr (0, [vI 0, .ref q1, .ref q2, .ref q3])), (q1, .inl (cA 0, 8, .inl (fun _ => 0))), (q2, .inl (cA 0, 8, .inl (fun _ => 0))), (q3, .inl (cA 0, 64, .inl (fun _ => 0)))]
set_option maxRecDepth 100000 in
set_option maxHeartbeats 4000000 in
theorem nX0_init : Cn ({ frames := 1, cells := 3, slots := 80, locals := 12 } : Room) 3 80 miX0_init [] 0 [.int 0, .null, .null, .null] (fun h0 cA ws => ∃ q1 q2 q3, ws = wX0 cA h0 q1 q2 q3) := by
  refine Cn_of (plainFor_of_name (by decide)) rfl (Nat.le_of_ble_eq_true rfl) (fun D cA A h0 => ?_)
  show kR _ _ _ _ _ _ _ _ 0 [(0, .ref h0)] [] _ 0 0
  refine k_aload (dc dkX0_init 0 rfl) rfl (kp 1 rfl ?_)
  refine k_obj (dc dkX0_init 1 rfl) oiX0_3 (Nat.le_of_ble_eq_true rfl) (Nat.le_of_ble_eq_true rfl) (kp 4 rfl ?_)
  refine k_aload (dc dkX0_init 2 rfl) rfl (kp 5 rfl ?_)
  refine k_iconst (dc dkX0_init 3 rfl) (kp 6 rfl ?_)
  refine k_put (fs2 := [vI 0, .null, .null, .null]) (dc dkX0_init 4 rfl) fpX0_9 rfl rfl (Nat.le_of_ble_eq_true rfl) rfl (kp 9 rfl ?_)
  refine k_aload (dc dkX0_init 5 rfl) rfl (kp 10 rfl ?_)
  refine k_bipush (dc dkX0_init 6 rfl) (by decide) (kp 12 rfl ?_)
  refine k_newa (t := 0) (ty := .int) (N := 8) (a0 := (8, .inl (fun _ => 0))) (dc dkX0_init 7 rfl) aw_int rfl rfl (fun _ _ h => h) (fun _ => rfl) (by decide) (by decide) (by decide) (Nat.le_of_ble_eq_true rfl) (Nat.le_of_ble_eq_true rfl) (fun q1 => (kw [(h0, .inr (0, [vI 0, .null, .null, .null])), (q1, .inl (cA 0, 8, .inl (fun _ => 0)))] rfl (kp 14 rfl ?_)))
  refine k_putF (fs2 := [vI 0, .ref q1, .null, .null]) (dc dkX0_init 8 rfl) ffX0_15 rfl rfl (Nat.le_of_ble_eq_true rfl) rfl (kp 17 rfl ?_)
  refine k_aload (dc dkX0_init 9 rfl) rfl (kp 18 rfl ?_)
  refine k_bipush (dc dkX0_init 10 rfl) (by decide) (kp 20 rfl ?_)
  refine k_newa (t := 0) (ty := .int) (N := 8) (a0 := (8, .inl (fun _ => 0))) (dc dkX0_init 11 rfl) aw_int rfl rfl (fun _ _ h => h) (fun _ => rfl) (by decide) (by decide) (by decide) (Nat.le_of_ble_eq_true rfl) (Nat.le_of_ble_eq_true rfl) (fun q2 => (kw [(h0, .inr (0, [vI 0, .ref q1, .null, .null])), (q1, .inl (cA 0, 8, .inl (fun _ => 0))), (q2, .inl (cA 0, 8, .inl (fun _ => 0)))] rfl (kp 22 rfl ?_)))
  refine k_putF (fs2 := [vI 0, .ref q1, .ref q2, .null]) (dc dkX0_init 12 rfl) ffX0_19 rfl rfl (Nat.le_of_ble_eq_true rfl) rfl (kp 25 rfl ?_)
  refine k_aload (dc dkX0_init 13 rfl) rfl (kp 26 rfl ?_)
  refine k_bipush (dc dkX0_init 14 rfl) (by decide) (kp 28 rfl ?_)
  refine k_newa (t := 0) (ty := .int) (N := 64) (a0 := (64, .inl (fun _ => 0))) (dc dkX0_init 15 rfl) aw_int rfl rfl (fun _ _ h => h) (fun _ => rfl) (by decide) (by decide) (by decide) (Nat.le_of_ble_eq_true rfl) (Nat.le_of_ble_eq_true rfl) (fun q3 => (kw [(h0, .inr (0, [vI 0, .ref q1, .ref q2, .null])), (q1, .inl (cA 0, 8, .inl (fun _ => 0))), (q2, .inl (cA 0, 8, .inl (fun _ => 0))), (q3, .inl (cA 0, 64, .inl (fun _ => 0)))] rfl (kp 30 rfl ?_)))
  refine k_putF (fs2 := [vI 0, .ref q1, .ref q2, .ref q3]) (dc dkX0_init 16 rfl) ffX0_22 rfl rfl (Nat.le_of_ble_eq_true rfl) rfl (kp 33 rfl ?_)
  exact k_end (dc dkX0_init 17 rfl) rfl (Nat.le_of_ble_eq_true rfl) (Nat.le_of_ble_eq_true rfl) ⟨q1, q2, q3, rfl⟩
def wX1 (cA : Nat → ClassId) (h0 q1 q2 q3 q4 q5 : Nat) : va_W := [(h0, .inr (1, [vI 0, vI 0, vI 0, vI 0, vL 0, vL 0, vI 0, vI 0, .ref q1, .ref q2])), (q1, .inl (cA 1, 8, .inr (.inl (fun _ => 0)))), (q2, .inr (0, [vI 0, .ref q3, .ref q4, .ref q5])), (q3, .inl (cA 0, 8, .inl (fun _ => 0))), (q4, .inl (cA 0, 8, .inl (fun _ => 0))), (q5, .inl (cA 0, 64, .inl (fun _ => 0)))]
set_option maxRecDepth 100000 in
set_option maxHeartbeats 4000000 in
theorem nX1_init : Cn ({ frames := 2, cells := 5, slots := 92, locals := 32 } : Room) 5 92 miX1_init [] 1 [.int 0, .int 0, .int 0, .int 0, .long 0, .long 0, .int 0, .int 0, .null, .null] (fun h0 cA ws => ∃ q1 q2 q3 q4 q5, ws = wX1 cA h0 q1 q2 q3 q4 q5) := by
  refine Cn_of (plainFor_of_name (by decide)) rfl (Nat.le_of_ble_eq_true rfl) (fun D cA A h0 => ?_)
  show kR _ _ _ _ _ _ _ _ 0 [(0, .ref h0)] [] _ 0 0
  refine k_aload (dc dkX1_init 0 rfl) rfl (kp 1 rfl ?_)
  refine k_obj (dc dkX1_init 1 rfl) oiX1_3 (Nat.le_of_ble_eq_true rfl) (Nat.le_of_ble_eq_true rfl) (kp 4 rfl ?_)
  refine k_aload (dc dkX1_init 2 rfl) rfl (kp 5 rfl ?_)
  refine k_iconst (dc dkX1_init 3 rfl) (kp 6 rfl ?_)
  refine k_put (fs2 := [vI 0, .int 0, .int 0, .int 0, .long 0, .long 0, .int 0, .int 0, .null, .null]) (dc dkX1_init 4 rfl) fpX1_9 rfl rfl (Nat.le_of_ble_eq_true rfl) rfl (kp 9 rfl ?_)
  refine k_aload (dc dkX1_init 5 rfl) rfl (kp 10 rfl ?_)
  refine k_iconst (dc dkX1_init 6 rfl) (kp 11 rfl ?_)
  refine k_put (fs2 := [vI 0, vI 0, .int 0, .int 0, .long 0, .long 0, .int 0, .int 0, .null, .null]) (dc dkX1_init 7 rfl) fpX1_15 rfl rfl (Nat.le_of_ble_eq_true rfl) rfl (kp 14 rfl ?_)
  refine k_aload (dc dkX1_init 8 rfl) rfl (kp 15 rfl ?_)
  refine k_iconst (dc dkX1_init 9 rfl) (kp 16 rfl ?_)
  refine k_put (fs2 := [vI 0, vI 0, vI 0, .int 0, .long 0, .long 0, .int 0, .int 0, .null, .null]) (dc dkX1_init 10 rfl) fpX1_18 (by decide +kernel) (by decide +kernel) (Nat.le_of_ble_eq_true rfl) rfl (kp 19 rfl ?_)
  refine k_aload (dc dkX1_init 11 rfl) rfl (kp 20 rfl ?_)
  refine k_iconst (dc dkX1_init 12 rfl) (kp 21 rfl ?_)
  refine k_put (fs2 := [vI 0, vI 0, vI 0, vI 0, .long 0, .long 0, .int 0, .int 0, .null, .null]) (dc dkX1_init 13 rfl) fpX1_22 rfl rfl (Nat.le_of_ble_eq_true rfl) rfl (kp 24 rfl ?_)
  refine k_aload (dc dkX1_init 14 rfl) rfl (kp 25 rfl ?_)
  refine k_lconst (z := 0) (dc dkX1_init 15 rfl) (by decide) (kp 26 rfl ?_)
  refine k_put (fs2 := [vI 0, vI 0, vI 0, vI 0, vL 0, .long 0, .int 0, .int 0, .null, .null]) (dc dkX1_init 16 rfl) fpX1_25 rfl rfl (Nat.le_of_ble_eq_true rfl) rfl (kp 29 rfl ?_)
  refine k_aload (dc dkX1_init 17 rfl) rfl (kp 30 rfl ?_)
  refine k_lconst (z := 0) (dc dkX1_init 18 rfl) (by decide) (kp 31 rfl ?_)
  refine k_put (fs2 := [vI 0, vI 0, vI 0, vI 0, vL 0, vL 0, .int 0, .int 0, .null, .null]) (dc dkX1_init 19 rfl) fpX1_29 rfl rfl (Nat.le_of_ble_eq_true rfl) rfl (kp 34 rfl ?_)
  refine k_aload (dc dkX1_init 20 rfl) rfl (kp 35 rfl ?_)
  refine k_iconst (dc dkX1_init 21 rfl) (kp 36 rfl ?_)
  refine k_put (fs2 := [vI 0, vI 0, vI 0, vI 0, vL 0, vL 0, vI 0, .int 0, .null, .null]) (dc dkX1_init 22 rfl) fpX1_32 rfl rfl (Nat.le_of_ble_eq_true rfl) rfl (kp 39 rfl ?_)
  refine k_aload (dc dkX1_init 23 rfl) rfl (kp 40 rfl ?_)
  refine k_iconst (dc dkX1_init 24 rfl) (kp 41 rfl ?_)
  refine k_put (fs2 := [vI 0, vI 0, vI 0, vI 0, vL 0, vL 0, vI 0, vI 0, .null, .null]) (dc dkX1_init 25 rfl) fpX1_35 rfl rfl (Nat.le_of_ble_eq_true rfl) rfl (kp 44 rfl ?_)
  refine k_aload (dc dkX1_init 26 rfl) rfl (kp 45 rfl ?_)
  refine k_bipush (dc dkX1_init 27 rfl) (by decide) (kp 47 rfl ?_)
  refine k_newa (t := 1) (ty := .long) (N := 8) (a0 := (8, .inr (.inl (fun _ => 0)))) (dc dkX1_init 28 rfl) aw_long rfl rfl (fun _ _ h => h) (fun _ => rfl) (by decide) (by decide) (by decide) (Nat.le_of_ble_eq_true rfl) (Nat.le_of_ble_eq_true rfl) (fun q1 => (kw [(h0, .inr (1, [vI 0, vI 0, vI 0, vI 0, vL 0, vL 0, vI 0, vI 0, .null, .null])), (q1, .inl (cA 1, 8, .inr (.inl (fun _ => 0))))] rfl (kp 49 rfl ?_)))
  refine k_putF (fs2 := [vI 0, vI 0, vI 0, vI 0, vL 0, vL 0, vI 0, vI 0, .ref q1, .null]) (dc dkX1_init 29 rfl) ffX1_38 rfl rfl (Nat.le_of_ble_eq_true rfl) rfl (kp 52 rfl ?_)
  refine k_aload (dc dkX1_init 30 rfl) rfl (kp 53 rfl ?_)
  refine k_new (N := 4) (dc dkX1_init 31 rfl) nwX1_42 rfl (Nat.le_of_ble_eq_true rfl) (Nat.le_of_ble_eq_true rfl) (fun q2 => (kp 56 rfl ?_))
  refine k_dup (dc dkX1_init 32 rfl) (kp 57 rfl ?_)
  refine k_initN (as := []) (dc dkX1_init 33 rfl) iiX1_44 nX0_init rfl rfl (Nat.le_of_ble_eq_true rfl) rfl rfl ⟨(Nat.le_of_ble_eq_true rfl), (Nat.le_of_ble_eq_true rfl)⟩ ⟨(Nat.le_of_ble_eq_true rfl), (Nat.le_of_ble_eq_true rfl)⟩ (fun wc hwc => (kp 60 rfl ?_))
  obtain ⟨q3, q4, q5, rfl⟩ := hwc
  refine kw [(h0, .inr (1, [vI 0, vI 0, vI 0, vI 0, vL 0, vL 0, vI 0, vI 0, .ref q1, .null])), (q1, .inl (cA 1, 8, .inr (.inl (fun _ => 0)))), (q2, .inr (0, [vI 0, .ref q3, .ref q4, .ref q5])), (q3, .inl (cA 0, 8, .inl (fun _ => 0))), (q4, .inl (cA 0, 8, .inl (fun _ => 0))), (q5, .inl (cA 0, 64, .inl (fun _ => 0)))] rfl ?_
  refine k_putF (fs2 := [vI 0, vI 0, vI 0, vI 0, vL 0, vL 0, vI 0, vI 0, .ref q1, .ref q2]) (dc dkX1_init 34 rfl) ffX1_45 rfl rfl (Nat.le_of_ble_eq_true rfl) rfl (kp 63 rfl ?_)
  exact k_end (dc dkX1_init 35 rfl) rfl (Nat.le_of_ble_eq_true rfl) (Nat.le_of_ble_eq_true rfl) ⟨q1, q2, q3, q4, q5, rfl⟩
def wX2_640 (cA : Nat → ClassId) (h0 q1 : Nat) : va_W := [(h0, .inr (2, [.ref q1, vI 0])), (q1, .inl (cA 2, 640, .inl (fun _ => 0)))]
set_option maxRecDepth 100000 in
set_option maxHeartbeats 4000000 in
theorem nX2_init_640 : Cn ({ frames := 1, cells := 1, slots := 640, locals := 17 } : Room) 1 640 miX2_init [vI 640] 2 [.null, .int 0] (fun h0 cA ws => ∃ q1, ws = wX2_640 cA h0 q1) := by
  refine Cn_of (plainFor_of_name (by decide)) rfl (Nat.le_of_ble_eq_true rfl) (fun D cA A h0 => ?_)
  show kR _ _ _ _ _ _ _ _ 0 [(0, .ref h0), (1, vI 640)] [] _ 0 0
  refine k_aload (dc dkX2_init 0 rfl) rfl (kp 1 rfl ?_)
  refine k_obj (dc dkX2_init 1 rfl) oiX2_3 (Nat.le_of_ble_eq_true rfl) (Nat.le_of_ble_eq_true rfl) (kp 4 rfl ?_)
  refine k_aload (dc dkX2_init 2 rfl) rfl (kp 5 rfl ?_)
  refine k_iconst (dc dkX2_init 3 rfl) (kp 6 rfl ?_)
  refine k_put (fs2 := [.null, vI 0]) (dc dkX2_init 4 rfl) fpX2_9 rfl rfl (Nat.le_of_ble_eq_true rfl) rfl (kp 9 rfl ?_)
  refine k_aload (dc dkX2_init 5 rfl) rfl (kp 10 rfl ?_)
  refine k_iload (dc dkX2_init 6 rfl) rfl (kp 11 rfl ?_)
  refine k_iconst (dc dkX2_init 7 rfl) (kp 12 rfl ?_)
  refine k_max (z := 640) (dc dkX2_init 8 rfl) ⟨gm1 46 (by decide +kernel), gm1 47 (by decide +kernel), gm1 4 (by decide +kernel), gm1 48 ⟨rfl, rfl⟩⟩ (Nat.le_of_ble_eq_true rfl) (Nat.le_of_ble_eq_true rfl) (Nat.le_of_ble_eq_true rfl) (Nat.le_of_ble_eq_true rfl) (by decide) (kp 15 rfl ?_)
  refine k_newa (t := 2) (ty := .byte) (N := 640) (a0 := (640, .inl (fun _ => 0))) (dc dkX2_init 9 rfl) aw_byte rfl rfl (fun _ _ h => h) (fun _ => rfl) (by decide) (by decide) (by decide) (Nat.le_of_ble_eq_true rfl) (Nat.le_of_ble_eq_true rfl) (fun q1 => (kw [(h0, .inr (2, [.null, vI 0])), (q1, .inl (cA 2, 640, .inl (fun _ => 0)))] rfl (kp 17 rfl ?_)))
  refine k_putF (fs2 := [.ref q1, vI 0]) (dc dkX2_init 10 rfl) ffX2_21 rfl rfl (Nat.le_of_ble_eq_true rfl) rfl (kp 20 rfl ?_)
  exact k_end (dc dkX2_init 11 rfl) rfl (Nat.le_of_ble_eq_true rfl) (Nat.le_of_ble_eq_true rfl) ⟨q1, rfl⟩
def wX2_79 (cA : Nat → ClassId) (h0 q1 : Nat) : va_W := [(h0, .inr (2, [.ref q1, vI 0])), (q1, .inl (cA 2, 79, .inl (fun _ => 0)))]
set_option maxRecDepth 100000 in
set_option maxHeartbeats 4000000 in
theorem nX2_init_79 : Cn ({ frames := 1, cells := 1, slots := 79, locals := 17 } : Room) 1 79 miX2_init [vI 79] 2 [.null, .int 0] (fun h0 cA ws => ∃ q1, ws = wX2_79 cA h0 q1) := by
  refine Cn_of (plainFor_of_name (by decide)) rfl (Nat.le_of_ble_eq_true rfl) (fun D cA A h0 => ?_)
  show kR _ _ _ _ _ _ _ _ 0 [(0, .ref h0), (1, vI 79)] [] _ 0 0
  refine k_aload (dc dkX2_init 0 rfl) rfl (kp 1 rfl ?_)
  refine k_obj (dc dkX2_init 1 rfl) oiX2_3 (Nat.le_of_ble_eq_true rfl) (Nat.le_of_ble_eq_true rfl) (kp 4 rfl ?_)
  refine k_aload (dc dkX2_init 2 rfl) rfl (kp 5 rfl ?_)
  refine k_iconst (dc dkX2_init 3 rfl) (kp 6 rfl ?_)
  refine k_put (fs2 := [.null, vI 0]) (dc dkX2_init 4 rfl) fpX2_9 rfl rfl (Nat.le_of_ble_eq_true rfl) rfl (kp 9 rfl ?_)
  refine k_aload (dc dkX2_init 5 rfl) rfl (kp 10 rfl ?_)
  refine k_iload (dc dkX2_init 6 rfl) rfl (kp 11 rfl ?_)
  refine k_iconst (dc dkX2_init 7 rfl) (kp 12 rfl ?_)
  refine k_max (z := 79) (dc dkX2_init 8 rfl) ⟨gm1 46 (by decide +kernel), gm1 47 (by decide +kernel), gm1 4 (by decide +kernel), gm1 48 ⟨rfl, rfl⟩⟩ (Nat.le_of_ble_eq_true rfl) (Nat.le_of_ble_eq_true rfl) (Nat.le_of_ble_eq_true rfl) (Nat.le_of_ble_eq_true rfl) (by decide) (kp 15 rfl ?_)
  refine k_newa (t := 2) (ty := .byte) (N := 79) (a0 := (79, .inl (fun _ => 0))) (dc dkX2_init 9 rfl) aw_byte rfl rfl (fun _ _ h => h) (fun _ => rfl) (by decide) (by decide) (by decide) (Nat.le_of_ble_eq_true rfl) (Nat.le_of_ble_eq_true rfl) (fun q1 => (kw [(h0, .inr (2, [.null, vI 0])), (q1, .inl (cA 2, 79, .inl (fun _ => 0)))] rfl (kp 17 rfl ?_)))
  refine k_putF (fs2 := [.ref q1, vI 0]) (dc dkX2_init 10 rfl) ffX2_21 rfl rfl (Nat.le_of_ble_eq_true rfl) rfl (kp 20 rfl ?_)
  exact k_end (dc dkX2_init 11 rfl) rfl (Nat.le_of_ble_eq_true rfl) (Nat.le_of_ble_eq_true rfl) ⟨q1, rfl⟩
def wX3 (cA : Nat → ClassId) (h0 q1 q2 : Nat) : va_W := [(h0, .inr (3, [vI 0, vI 0, vI 0, .ref q1, .ref q2])), (q1, .inl (cA 0, 8, .inl (fun _ => 0))), (q2, .inl (cA 0, 8, .inl (fun _ => 0)))]
set_option maxRecDepth 100000 in
set_option maxHeartbeats 4000000 in
theorem nX3_init : Cn ({ frames := 1, cells := 2, slots := 16, locals := 12 } : Room) 2 16 miX3_init [] 3 [.int 0, .int 0, .int 0, .null, .null] (fun h0 cA ws => ∃ q1 q2, ws = wX3 cA h0 q1 q2) := by
  refine Cn_of (plainFor_of_name (by decide)) rfl (Nat.le_of_ble_eq_true rfl) (fun D cA A h0 => ?_)
  show kR _ _ _ _ _ _ _ _ 0 [(0, .ref h0)] [] _ 0 0
  refine k_aload (dc dkX3_init 0 rfl) rfl (kp 1 rfl ?_)
  refine k_obj (dc dkX3_init 1 rfl) oiX3_3 (Nat.le_of_ble_eq_true rfl) (Nat.le_of_ble_eq_true rfl) (kp 4 rfl ?_)
  refine k_aload (dc dkX3_init 2 rfl) rfl (kp 5 rfl ?_)
  refine k_iconst (dc dkX3_init 3 rfl) (kp 6 rfl ?_)
  refine k_put (fs2 := [vI 0, .int 0, .int 0, .null, .null]) (dc dkX3_init 4 rfl) fpX3_9 rfl rfl (Nat.le_of_ble_eq_true rfl) rfl (kp 9 rfl ?_)
  refine k_aload (dc dkX3_init 5 rfl) rfl (kp 10 rfl ?_)
  refine k_iconst (dc dkX3_init 6 rfl) (kp 11 rfl ?_)
  refine k_put (fs2 := [vI 0, vI 0, .int 0, .null, .null]) (dc dkX3_init 7 rfl) fpX3_15 rfl rfl (Nat.le_of_ble_eq_true rfl) rfl (kp 14 rfl ?_)
  refine k_aload (dc dkX3_init 8 rfl) rfl (kp 15 rfl ?_)
  refine k_iconst (dc dkX3_init 9 rfl) (kp 16 rfl ?_)
  refine k_put (fs2 := [vI 0, vI 0, vI 0, .null, .null]) (dc dkX3_init 10 rfl) fpX3_18 rfl rfl (Nat.le_of_ble_eq_true rfl) rfl (kp 19 rfl ?_)
  refine k_aload (dc dkX3_init 11 rfl) rfl (kp 20 rfl ?_)
  refine k_bipush (dc dkX3_init 12 rfl) (by decide) (kp 22 rfl ?_)
  refine k_newa (t := 0) (ty := .int) (N := 8) (a0 := (8, .inl (fun _ => 0))) (dc dkX3_init 13 rfl) aw_int rfl rfl (fun _ _ h => h) (fun _ => rfl) (by decide) (by decide) (by decide) (Nat.le_of_ble_eq_true rfl) (Nat.le_of_ble_eq_true rfl) (fun q1 => (kw [(h0, .inr (3, [vI 0, vI 0, vI 0, .null, .null])), (q1, .inl (cA 0, 8, .inl (fun _ => 0)))] rfl (kp 24 rfl ?_)))
  refine k_putF (fs2 := [vI 0, vI 0, vI 0, .ref q1, .null]) (dc dkX3_init 14 rfl) ffX3_21 rfl rfl (Nat.le_of_ble_eq_true rfl) rfl (kp 27 rfl ?_)
  refine k_aload (dc dkX3_init 15 rfl) rfl (kp 28 rfl ?_)
  refine k_bipush (dc dkX3_init 16 rfl) (by decide) (kp 30 rfl ?_)
  refine k_newa (t := 0) (ty := .int) (N := 8) (a0 := (8, .inl (fun _ => 0))) (dc dkX3_init 17 rfl) aw_int rfl rfl (fun _ _ h => h) (fun _ => rfl) (by decide) (by decide) (by decide) (Nat.le_of_ble_eq_true rfl) (Nat.le_of_ble_eq_true rfl) (fun q2 => (kw [(h0, .inr (3, [vI 0, vI 0, vI 0, .ref q1, .null])), (q1, .inl (cA 0, 8, .inl (fun _ => 0))), (q2, .inl (cA 0, 8, .inl (fun _ => 0)))] rfl (kp 32 rfl ?_)))
  refine k_putF (fs2 := [vI 0, vI 0, vI 0, .ref q1, .ref q2]) (dc dkX3_init 18 rfl) ffX3_25 rfl rfl (Nat.le_of_ble_eq_true rfl) rfl (kp 35 rfl ?_)
  exact k_end (dc dkX3_init 19 rfl) rfl (Nat.le_of_ble_eq_true rfl) (Nat.le_of_ble_eq_true rfl) ⟨q1, q2, rfl⟩
def wX4 (cA : Nat → ClassId) (h0 q1 q2 q3 : Nat) : va_W := [(h0, .inr (4, [.ref q1, .ref q2, .ref q3, vI 0])), (q1, .inl (cA 0, 9, .inl (fun _ => 0))), (q2, .inl (cA 0, 36, .inl (fun _ => 0))), (q3, .inl (cA 1, 36, .inr (.inl (fun _ => 0))))]
set_option maxRecDepth 100000 in
set_option maxHeartbeats 4000000 in
theorem nX4_init : Cn ({ frames := 1, cells := 3, slots := 81, locals := 12 } : Room) 3 81 miX4_init [] 4 [.null, .null, .null, .int 0] (fun h0 cA ws => ∃ q1 q2 q3, ws = wX4 cA h0 q1 q2 q3) := by
  refine Cn_of (plainFor_of_name (by decide)) rfl (Nat.le_of_ble_eq_true rfl) (fun D cA A h0 => ?_)
  show kR _ _ _ _ _ _ _ _ 0 [(0, .ref h0)] [] _ 0 0
  refine k_aload (dc dkX4_init 0 rfl) rfl (kp 1 rfl ?_)
  refine k_obj (dc dkX4_init 1 rfl) oiX4_3 (Nat.le_of_ble_eq_true rfl) (Nat.le_of_ble_eq_true rfl) (kp 4 rfl ?_)
  refine k_aload (dc dkX4_init 2 rfl) rfl (kp 5 rfl ?_)
  refine k_bipush (dc dkX4_init 3 rfl) (by decide) (kp 7 rfl ?_)
  refine k_newa (t := 0) (ty := .int) (N := 9) (a0 := (9, .inl (fun _ => 0))) (dc dkX4_init 4 rfl) aw_int rfl rfl (fun _ _ h => h) (fun _ => rfl) (by decide) (by decide) (by decide) (Nat.le_of_ble_eq_true rfl) (Nat.le_of_ble_eq_true rfl) (fun q1 => (kw [(h0, .inr (4, [.null, .null, .null, .int 0])), (q1, .inl (cA 0, 9, .inl (fun _ => 0)))] rfl (kp 9 rfl ?_)))
  refine k_putF (fs2 := [.ref q1, .null, .null, .int 0]) (dc dkX4_init 5 rfl) ffX4_9 rfl rfl (Nat.le_of_ble_eq_true rfl) rfl (kp 12 rfl ?_)
  refine k_aload (dc dkX4_init 6 rfl) rfl (kp 13 rfl ?_)
  refine k_bipush (dc dkX4_init 7 rfl) (by decide) (kp 15 rfl ?_)
  refine k_newa (t := 0) (ty := .int) (N := 36) (a0 := (36, .inl (fun _ => 0))) (dc dkX4_init 8 rfl) aw_int rfl rfl (fun _ _ h => h) (fun _ => rfl) (by decide) (by decide) (by decide) (Nat.le_of_ble_eq_true rfl) (Nat.le_of_ble_eq_true rfl) (fun q2 => (kw [(h0, .inr (4, [.ref q1, .null, .null, .int 0])), (q1, .inl (cA 0, 9, .inl (fun _ => 0))), (q2, .inl (cA 0, 36, .inl (fun _ => 0)))] rfl (kp 17 rfl ?_)))
  refine k_putF (fs2 := [.ref q1, .ref q2, .null, .int 0]) (dc dkX4_init 9 rfl) ffX4_15 rfl rfl (Nat.le_of_ble_eq_true rfl) rfl (kp 20 rfl ?_)
  refine k_aload (dc dkX4_init 10 rfl) rfl (kp 21 rfl ?_)
  refine k_bipush (dc dkX4_init 11 rfl) (by decide) (kp 23 rfl ?_)
  refine k_newa (t := 1) (ty := .long) (N := 36) (a0 := (36, .inr (.inl (fun _ => 0)))) (dc dkX4_init 12 rfl) aw_long rfl rfl (fun _ _ h => h) (fun _ => rfl) (by decide) (by decide) (by decide) (Nat.le_of_ble_eq_true rfl) (Nat.le_of_ble_eq_true rfl) (fun q3 => (kw [(h0, .inr (4, [.ref q1, .ref q2, .null, .int 0])), (q1, .inl (cA 0, 9, .inl (fun _ => 0))), (q2, .inl (cA 0, 36, .inl (fun _ => 0))), (q3, .inl (cA 1, 36, .inr (.inl (fun _ => 0))))] rfl (kp 25 rfl ?_)))
  refine k_putF (fs2 := [.ref q1, .ref q2, .ref q3, .int 0]) (dc dkX4_init 13 rfl) ffX4_18 rfl rfl (Nat.le_of_ble_eq_true rfl) rfl (kp 28 rfl ?_)
  refine k_aload (dc dkX4_init 14 rfl) rfl (kp 29 rfl ?_)
  refine k_iconst (dc dkX4_init 15 rfl) (kp 30 rfl ?_)
  refine k_put (fs2 := [.ref q1, .ref q2, .ref q3, vI 0]) (dc dkX4_init 16 rfl) fpX4_22 rfl rfl (Nat.le_of_ble_eq_true rfl) rfl (kp 33 rfl ?_)
  exact k_end (dc dkX4_init 17 rfl) rfl (Nat.le_of_ble_eq_true rfl) (Nat.le_of_ble_eq_true rfl) ⟨q1, q2, q3, rfl⟩
def wX5 (cA : Nat → ClassId) (h0 q1 q2 q3 q4 q5 : Nat) : va_W := [(h0, .inr (5, [.ref q1, .ref q2, .ref q3, .ref q4, .ref q5, vI 0, vI 0])), (q1, .inl (cA 1, 112, .inr (.inl (fun _ => 0)))), (q2, .inl (cA 1, 112, .inr (.inl (fun _ => 0)))), (q3, .inl (cA 1, 112, .inr (.inl (fun _ => 0)))), (q4, .inl (cA 0, 36, .inl (fun _ => 0))), (q5, .inl (cA 3, 36, .inl (fun _ => 0)))]
set_option maxRecDepth 100000 in
set_option maxHeartbeats 4000000 in
theorem nX5_init : Cn ({ frames := 1, cells := 5, slots := 408, locals := 12 } : Room) 5 408 miX5_init [] 5 [.null, .null, .null, .null, .null, .int 0, .int 0] (fun h0 cA ws => ∃ q1 q2 q3 q4 q5, ws = wX5 cA h0 q1 q2 q3 q4 q5) := by
  refine Cn_of (plainFor_of_name (by decide)) rfl (Nat.le_of_ble_eq_true rfl) (fun D cA A h0 => ?_)
  show kR _ _ _ _ _ _ _ _ 0 [(0, .ref h0)] [] _ 0 0
  refine k_aload (dc dkX5_init 0 rfl) rfl (kp 1 rfl ?_)
  refine k_obj (dc dkX5_init 1 rfl) oiX5_3 (Nat.le_of_ble_eq_true rfl) (Nat.le_of_ble_eq_true rfl) (kp 4 rfl ?_)
  refine k_aload (dc dkX5_init 2 rfl) rfl (kp 5 rfl ?_)
  refine k_bipush (dc dkX5_init 3 rfl) (by decide) (kp 7 rfl ?_)
  refine k_newa (t := 1) (ty := .long) (N := 112) (a0 := (112, .inr (.inl (fun _ => 0)))) (dc dkX5_init 4 rfl) aw_long rfl rfl (fun _ _ h => h) (fun _ => rfl) (by decide) (by decide) (by decide) (Nat.le_of_ble_eq_true rfl) (Nat.le_of_ble_eq_true rfl) (fun q1 => (kw [(h0, .inr (5, [.null, .null, .null, .null, .null, .int 0, .int 0])), (q1, .inl (cA 1, 112, .inr (.inl (fun _ => 0))))] rfl (kp 9 rfl ?_)))
  refine k_putF (fs2 := [.ref q1, .null, .null, .null, .null, .int 0, .int 0]) (dc dkX5_init 5 rfl) ffX5_11 rfl rfl (Nat.le_of_ble_eq_true rfl) rfl (kp 12 rfl ?_)
  refine k_aload (dc dkX5_init 6 rfl) rfl (kp 13 rfl ?_)
  refine k_bipush (dc dkX5_init 7 rfl) (by decide) (kp 15 rfl ?_)
  refine k_newa (t := 1) (ty := .long) (N := 112) (a0 := (112, .inr (.inl (fun _ => 0)))) (dc dkX5_init 8 rfl) aw_long rfl rfl (fun _ _ h => h) (fun _ => rfl) (by decide) (by decide) (by decide) (Nat.le_of_ble_eq_true rfl) (Nat.le_of_ble_eq_true rfl) (fun q2 => (kw [(h0, .inr (5, [.ref q1, .null, .null, .null, .null, .int 0, .int 0])), (q1, .inl (cA 1, 112, .inr (.inl (fun _ => 0)))), (q2, .inl (cA 1, 112, .inr (.inl (fun _ => 0))))] rfl (kp 17 rfl ?_)))
  refine k_putF (fs2 := [.ref q1, .ref q2, .null, .null, .null, .int 0, .int 0]) (dc dkX5_init 9 rfl) ffX5_15 rfl rfl (Nat.le_of_ble_eq_true rfl) rfl (kp 20 rfl ?_)
  refine k_aload (dc dkX5_init 10 rfl) rfl (kp 21 rfl ?_)
  refine k_bipush (dc dkX5_init 11 rfl) (by decide) (kp 23 rfl ?_)
  refine k_newa (t := 1) (ty := .long) (N := 112) (a0 := (112, .inr (.inl (fun _ => 0)))) (dc dkX5_init 12 rfl) aw_long rfl rfl (fun _ _ h => h) (fun _ => rfl) (by decide) (by decide) (by decide) (Nat.le_of_ble_eq_true rfl) (Nat.le_of_ble_eq_true rfl) (fun q3 => (kw [(h0, .inr (5, [.ref q1, .ref q2, .null, .null, .null, .int 0, .int 0])), (q1, .inl (cA 1, 112, .inr (.inl (fun _ => 0)))), (q2, .inl (cA 1, 112, .inr (.inl (fun _ => 0)))), (q3, .inl (cA 1, 112, .inr (.inl (fun _ => 0))))] rfl (kp 25 rfl ?_)))
  refine k_putF (fs2 := [.ref q1, .ref q2, .ref q3, .null, .null, .int 0, .int 0]) (dc dkX5_init 13 rfl) ffX5_18 rfl rfl (Nat.le_of_ble_eq_true rfl) rfl (kp 28 rfl ?_)
  refine k_aload (dc dkX5_init 14 rfl) rfl (kp 29 rfl ?_)
  refine k_bipush (dc dkX5_init 15 rfl) (by decide) (kp 31 rfl ?_)
  refine k_newa (t := 0) (ty := .int) (N := 36) (a0 := (36, .inl (fun _ => 0))) (dc dkX5_init 16 rfl) aw_int rfl rfl (fun _ _ h => h) (fun _ => rfl) (by decide) (by decide) (by decide) (Nat.le_of_ble_eq_true rfl) (Nat.le_of_ble_eq_true rfl) (fun q4 => (kw [(h0, .inr (5, [.ref q1, .ref q2, .ref q3, .null, .null, .int 0, .int 0])), (q1, .inl (cA 1, 112, .inr (.inl (fun _ => 0)))), (q2, .inl (cA 1, 112, .inr (.inl (fun _ => 0)))), (q3, .inl (cA 1, 112, .inr (.inl (fun _ => 0)))), (q4, .inl (cA 0, 36, .inl (fun _ => 0)))] rfl (kp 33 rfl ?_)))
  refine k_putF (fs2 := [.ref q1, .ref q2, .ref q3, .ref q4, .null, .int 0, .int 0]) (dc dkX5_init 17 rfl) ffX5_21 rfl rfl (Nat.le_of_ble_eq_true rfl) rfl (kp 36 rfl ?_)
  refine k_aload (dc dkX5_init 18 rfl) rfl (kp 37 rfl ?_)
  refine k_bipush (dc dkX5_init 19 rfl) (by decide) (kp 39 rfl ?_)
  refine k_newa (t := 3) (ty := .boolean) (N := 36) (a0 := (36, .inl (fun _ => 0))) (dc dkX5_init 20 rfl) aw_boolean rfl rfl (fun _ _ h => h) (fun _ => rfl) (by decide) (by decide) (by decide) (Nat.le_of_ble_eq_true rfl) (Nat.le_of_ble_eq_true rfl) (fun q5 => (kw [(h0, .inr (5, [.ref q1, .ref q2, .ref q3, .ref q4, .null, .int 0, .int 0])), (q1, .inl (cA 1, 112, .inr (.inl (fun _ => 0)))), (q2, .inl (cA 1, 112, .inr (.inl (fun _ => 0)))), (q3, .inl (cA 1, 112, .inr (.inl (fun _ => 0)))), (q4, .inl (cA 0, 36, .inl (fun _ => 0))), (q5, .inl (cA 3, 36, .inl (fun _ => 0)))] rfl (kp 41 rfl ?_)))
  refine k_putF (fs2 := [.ref q1, .ref q2, .ref q3, .ref q4, .ref q5, .int 0, .int 0]) (dc dkX5_init 21 rfl) ffX5_25 rfl rfl (Nat.le_of_ble_eq_true rfl) rfl (kp 44 rfl ?_)
  refine k_aload (dc dkX5_init 22 rfl) rfl (kp 45 rfl ?_)
  refine k_iconst (dc dkX5_init 23 rfl) (kp 46 rfl ?_)
  refine k_put (fs2 := [.ref q1, .ref q2, .ref q3, .ref q4, .ref q5, vI 0, .int 0]) (dc dkX5_init 24 rfl) fpX5_29 rfl rfl (Nat.le_of_ble_eq_true rfl) rfl (kp 49 rfl ?_)
  refine k_aload (dc dkX5_init 25 rfl) rfl (kp 50 rfl ?_)
  refine k_iconst (dc dkX5_init 26 rfl) (kp 51 rfl ?_)
  refine k_put (fs2 := [.ref q1, .ref q2, .ref q3, .ref q4, .ref q5, vI 0, vI 0]) (dc dkX5_init 27 rfl) fpX5_33 rfl rfl (Nat.le_of_ble_eq_true rfl) rfl (kp 54 rfl ?_)
  exact k_end (dc dkX5_init 28 rfl) rfl (Nat.le_of_ble_eq_true rfl) (Nat.le_of_ble_eq_true rfl) ⟨q1, q2, q3, q4, q5, rfl⟩
def wX6 (cA : Nat → ClassId) (h0 q1 : Nat) : va_W := [(h0, .inr (6, [.ref q1, vI 0])), (q1, .inl (cA 0, 100, .inl (fun _ => 0)))]
set_option maxRecDepth 100000 in
set_option maxHeartbeats 4000000 in
theorem nX6_init : Cn ({ frames := 1, cells := 1, slots := 100, locals := 12 } : Room) 1 100 miX6_init [] 6 [.null, .int 0] (fun h0 cA ws => ∃ q1, ws = wX6 cA h0 q1) := by
  refine Cn_of (plainFor_of_name (by decide)) rfl (Nat.le_of_ble_eq_true rfl) (fun D cA A h0 => ?_)
  show kR _ _ _ _ _ _ _ _ 0 [(0, .ref h0)] [] _ 0 0
  refine k_aload (dc dkX6_init 0 rfl) rfl (kp 1 rfl ?_)
  refine k_obj (dc dkX6_init 1 rfl) oiX6_3 (Nat.le_of_ble_eq_true rfl) (Nat.le_of_ble_eq_true rfl) (kp 4 rfl ?_)
  refine k_aload (dc dkX6_init 2 rfl) rfl (kp 5 rfl ?_)
  refine k_bipush (dc dkX6_init 3 rfl) (by decide) (kp 7 rfl ?_)
  refine k_newa (t := 0) (ty := .int) (N := 100) (a0 := (100, .inl (fun _ => 0))) (dc dkX6_init 4 rfl) aw_int rfl rfl (fun _ _ h => h) (fun _ => rfl) (by decide) (by decide) (by decide) (Nat.le_of_ble_eq_true rfl) (Nat.le_of_ble_eq_true rfl) (fun q1 => (kw [(h0, .inr (6, [.null, .int 0])), (q1, .inl (cA 0, 100, .inl (fun _ => 0)))] rfl (kp 9 rfl ?_)))
  refine k_putF (fs2 := [.ref q1, .int 0]) (dc dkX6_init 5 rfl) ffX6_9 rfl rfl (Nat.le_of_ble_eq_true rfl) rfl (kp 12 rfl ?_)
  refine k_aload (dc dkX6_init 6 rfl) rfl (kp 13 rfl ?_)
  refine k_iconst (dc dkX6_init 7 rfl) (kp 14 rfl ?_)
  refine k_put (fs2 := [.ref q1, vI 0]) (dc dkX6_init 8 rfl) fpX6_15 rfl rfl (Nat.le_of_ble_eq_true rfl) rfl (kp 17 rfl ?_)
  exact k_end (dc dkX6_init 9 rfl) rfl (Nat.le_of_ble_eq_true rfl) (Nat.le_of_ble_eq_true rfl) ⟨q1, rfl⟩
def wX8 (cA : Nat → ClassId) (h0 q1 q2 : Nat) : va_W := [(h0, .inr (7, [.ref q1, vI 0, vI 0, vI 0, vI 0, vI 0, vL 0, vI 0, vI 0])), (q1, .inr (2, [.ref q2, vI 0])), (q2, .inl (cA 2, 640, .inl (fun _ => 0)))]
set_option maxRecDepth 100000 in
set_option maxHeartbeats 4000000 in
theorem nX8_init : Cn ({ frames := 2, cells := 2, slots := 642, locals := 38 } : Room) 2 642 miX8_init [] 7 [.null, .int 0, .int 0, .int 0, .int 0, .int 0, .long 0, .int 0, .int 0] (fun h0 cA ws => ∃ q1 q2, ws = wX8 cA h0 q1 q2) := by
  refine Cn_of (plainFor_of_name (by decide)) rfl (Nat.le_of_ble_eq_true rfl) (fun D cA A h0 => ?_)
  show kR _ _ _ _ _ _ _ _ 0 [(0, .ref h0)] [] _ 0 0
  refine k_aload (dc dkX8_init 0 rfl) rfl (kp 1 rfl ?_)
  refine k_obj (dc dkX8_init 1 rfl) oiX8_3 (Nat.le_of_ble_eq_true rfl) (Nat.le_of_ble_eq_true rfl) (kp 4 rfl ?_)
  refine k_aload (dc dkX8_init 2 rfl) rfl (kp 5 rfl ?_)
  refine k_new (N := 2) (dc dkX8_init 3 rfl) nwX8_9 rfl (Nat.le_of_ble_eq_true rfl) (Nat.le_of_ble_eq_true rfl) (fun q1 => (kp 8 rfl ?_))
  refine k_dup (dc dkX8_init 4 rfl) (kp 9 rfl ?_)
  refine k_sipush (dc dkX8_init 5 rfl) (by decide) (kp 12 rfl ?_)
  refine k_init (as := [vI 640]) (dc dkX8_init 6 rfl) iiX8_11 nX2_init_640 rfl rfl (Nat.le_of_ble_eq_true rfl) rfl rfl ⟨(Nat.le_of_ble_eq_true rfl), (Nat.le_of_ble_eq_true rfl)⟩ ⟨(Nat.le_of_ble_eq_true rfl), (Nat.le_of_ble_eq_true rfl)⟩ (fun wc hwc => (kp 15 rfl ?_))
  obtain ⟨q2, rfl⟩ := hwc
  refine kw [(h0, .inr (7, [.null, .int 0, .int 0, .int 0, .int 0, .int 0, .long 0, .int 0, .int 0])), (q1, .inr (2, [.ref q2, vI 0])), (q2, .inl (cA 2, 640, .inl (fun _ => 0)))] rfl ?_
  refine k_putF (fs2 := [.ref q1, .int 0, .int 0, .int 0, .int 0, .int 0, .long 0, .int 0, .int 0]) (dc dkX8_init 7 rfl) ffX8_14 rfl rfl (Nat.le_of_ble_eq_true rfl) rfl (kp 18 rfl ?_)
  refine k_aload (dc dkX8_init 8 rfl) rfl (kp 19 rfl ?_)
  refine k_iconst (dc dkX8_init 9 rfl) (kp 20 rfl ?_)
  refine k_put (fs2 := [.ref q1, vI 0, .int 0, .int 0, .int 0, .int 0, .long 0, .int 0, .int 0]) (dc dkX8_init 10 rfl) fpX8_20 rfl rfl (Nat.le_of_ble_eq_true rfl) rfl (kp 23 rfl ?_)
  refine k_aload (dc dkX8_init 11 rfl) rfl (kp 24 rfl ?_)
  refine k_iconst (dc dkX8_init 12 rfl) (kp 25 rfl ?_)
  refine k_put (fs2 := [.ref q1, vI 0, vI 0, .int 0, .int 0, .int 0, .long 0, .int 0, .int 0]) (dc dkX8_init 13 rfl) fpX8_24 rfl rfl (Nat.le_of_ble_eq_true rfl) rfl (kp 28 rfl ?_)
  refine k_aload (dc dkX8_init 14 rfl) rfl (kp 29 rfl ?_)
  refine k_iconst (dc dkX8_init 15 rfl) (kp 30 rfl ?_)
  refine k_put (fs2 := [.ref q1, vI 0, vI 0, vI 0, .int 0, .int 0, .long 0, .int 0, .int 0]) (dc dkX8_init 16 rfl) fpX8_27 rfl rfl (Nat.le_of_ble_eq_true rfl) rfl (kp 33 rfl ?_)
  refine k_aload (dc dkX8_init 17 rfl) rfl (kp 34 rfl ?_)
  refine k_iconst (dc dkX8_init 18 rfl) (kp 35 rfl ?_)
  refine k_put (fs2 := [.ref q1, vI 0, vI 0, vI 0, vI 0, .int 0, .long 0, .int 0, .int 0]) (dc dkX8_init 19 rfl) fpX8_30 rfl rfl (Nat.le_of_ble_eq_true rfl) rfl (kp 38 rfl ?_)
  refine k_aload (dc dkX8_init 20 rfl) rfl (kp 39 rfl ?_)
  refine k_iconst (dc dkX8_init 21 rfl) (kp 40 rfl ?_)
  refine k_put (fs2 := [.ref q1, vI 0, vI 0, vI 0, vI 0, vI 0, .long 0, .int 0, .int 0]) (dc dkX8_init 22 rfl) fpX8_33 rfl rfl (Nat.le_of_ble_eq_true rfl) rfl (kp 43 rfl ?_)
  refine k_aload (dc dkX8_init 23 rfl) rfl (kp 44 rfl ?_)
  refine k_lconst (z := 0) (dc dkX8_init 24 rfl) (by decide) (kp 45 rfl ?_)
  refine k_put (fs2 := [.ref q1, vI 0, vI 0, vI 0, vI 0, vI 0, vL 0, .int 0, .int 0]) (dc dkX8_init 25 rfl) fpX8_36 rfl rfl (Nat.le_of_ble_eq_true rfl) rfl (kp 48 rfl ?_)
  refine k_aload (dc dkX8_init 26 rfl) rfl (kp 49 rfl ?_)
  refine k_iconst (dc dkX8_init 27 rfl) (kp 50 rfl ?_)
  refine k_put (fs2 := [.ref q1, vI 0, vI 0, vI 0, vI 0, vI 0, vL 0, vI 0, .int 0]) (dc dkX8_init 28 rfl) fpX8_40 rfl rfl (Nat.le_of_ble_eq_true rfl) rfl (kp 53 rfl ?_)
  refine k_aload (dc dkX8_init 29 rfl) rfl (kp 54 rfl ?_)
  refine k_iconst (dc dkX8_init 30 rfl) (kp 55 rfl ?_)
  refine k_put (fs2 := [.ref q1, vI 0, vI 0, vI 0, vI 0, vI 0, vL 0, vI 0, vI 0]) (dc dkX8_init 31 rfl) fpX8_43 rfl rfl (Nat.le_of_ble_eq_true rfl) rfl (kp 58 rfl ?_)
  exact k_end (dc dkX8_init 32 rfl) rfl (Nat.le_of_ble_eq_true rfl) (Nat.le_of_ble_eq_true rfl) ⟨q1, q2, rfl⟩
def wX9 (cA : Nat → ClassId) (h0 q1 : Nat) : va_W := [(h0, .inr (8, [vI 0, vI 0, .ref q1])), (q1, .inl (cA 0, 40, .inl (fun _ => 0)))]
set_option maxRecDepth 100000 in
set_option maxHeartbeats 4000000 in
theorem nX9_init : Cn ({ frames := 1, cells := 1, slots := 40, locals := 12 } : Room) 1 40 miX9_init [] 8 [.int 0, .int 0, .null] (fun h0 cA ws => ∃ q1, ws = wX9 cA h0 q1) := by
  refine Cn_of (plainFor_of_name (by decide)) rfl (Nat.le_of_ble_eq_true rfl) (fun D cA A h0 => ?_)
  show kR _ _ _ _ _ _ _ _ 0 [(0, .ref h0)] [] _ 0 0
  refine k_aload (dc dkX9_init 0 rfl) rfl (kp 1 rfl ?_)
  refine k_obj (dc dkX9_init 1 rfl) oiX9_3 (Nat.le_of_ble_eq_true rfl) (Nat.le_of_ble_eq_true rfl) (kp 4 rfl ?_)
  refine k_aload (dc dkX9_init 2 rfl) rfl (kp 5 rfl ?_)
  refine k_iconst (dc dkX9_init 3 rfl) (kp 6 rfl ?_)
  refine k_put (fs2 := [vI 0, .int 0, .null]) (dc dkX9_init 4 rfl) fpX9_9 rfl rfl (Nat.le_of_ble_eq_true rfl) rfl (kp 9 rfl ?_)
  refine k_aload (dc dkX9_init 5 rfl) rfl (kp 10 rfl ?_)
  refine k_iconst (dc dkX9_init 6 rfl) (kp 11 rfl ?_)
  refine k_put (fs2 := [vI 0, vI 0, .null]) (dc dkX9_init 7 rfl) fpX9_15 rfl rfl (Nat.le_of_ble_eq_true rfl) rfl (kp 14 rfl ?_)
  refine k_aload (dc dkX9_init 8 rfl) rfl (kp 15 rfl ?_)
  refine k_bipush (dc dkX9_init 9 rfl) (by decide) (kp 17 rfl ?_)
  refine k_newa (t := 0) (ty := .int) (N := 40) (a0 := (40, .inl (fun _ => 0))) (dc dkX9_init 10 rfl) aw_int rfl rfl (fun _ _ h => h) (fun _ => rfl) (by decide) (by decide) (by decide) (Nat.le_of_ble_eq_true rfl) (Nat.le_of_ble_eq_true rfl) (fun q1 => (kw [(h0, .inr (8, [vI 0, vI 0, .null])), (q1, .inl (cA 0, 40, .inl (fun _ => 0)))] rfl (kp 19 rfl ?_)))
  refine k_putF (fs2 := [vI 0, vI 0, .ref q1]) (dc dkX9_init 11 rfl) ffX9_18 rfl rfl (Nat.le_of_ble_eq_true rfl) rfl (kp 22 rfl ?_)
  exact k_end (dc dkX9_init 12 rfl) rfl (Nat.le_of_ble_eq_true rfl) (Nat.le_of_ble_eq_true rfl) ⟨q1, rfl⟩
def wX10 (cA : Nat → ClassId) (h0 q1 q2 q3 q4 q5 : Nat) : va_W := [(h0, .inr (9, [.ref q1, vI 0, .ref q2, .ref q3, .ref q4, .ref q5])), (q1, .inl (cA 0, 16, .inl (fun _ => 0))), (q2, .inl (cA 0, 16, .inl (fun _ => 0))), (q3, .inl (cA 0, 16, .inl (fun _ => 0))), (q4, .inl (cA 0, 8, .inl (fun _ => 0))), (q5, .inl (cA 0, 8, .inl (fun _ => 0)))]
set_option maxRecDepth 100000 in
set_option maxHeartbeats 4000000 in
theorem nX10_init : Cn ({ frames := 1, cells := 5, slots := 64, locals := 12 } : Room) 5 64 miX10_init [] 9 [.null, .int 0, .null, .null, .null, .null] (fun h0 cA ws => ∃ q1 q2 q3 q4 q5, ws = wX10 cA h0 q1 q2 q3 q4 q5) := by
  refine Cn_of (plainFor_of_name (by decide)) rfl (Nat.le_of_ble_eq_true rfl) (fun D cA A h0 => ?_)
  show kR _ _ _ _ _ _ _ _ 0 [(0, .ref h0)] [] _ 0 0
  refine k_aload (dc dkX10_init 0 rfl) rfl (kp 1 rfl ?_)
  refine k_obj (dc dkX10_init 1 rfl) oiX10_3 (Nat.le_of_ble_eq_true rfl) (Nat.le_of_ble_eq_true rfl) (kp 4 rfl ?_)
  refine k_aload (dc dkX10_init 2 rfl) rfl (kp 5 rfl ?_)
  refine k_bipush (dc dkX10_init 3 rfl) (by decide) (kp 7 rfl ?_)
  refine k_newa (t := 0) (ty := .int) (N := 16) (a0 := (16, .inl (fun _ => 0))) (dc dkX10_init 4 rfl) aw_int rfl rfl (fun _ _ h => h) (fun _ => rfl) (by decide) (by decide) (by decide) (Nat.le_of_ble_eq_true rfl) (Nat.le_of_ble_eq_true rfl) (fun q1 => (kw [(h0, .inr (9, [.null, .int 0, .null, .null, .null, .null])), (q1, .inl (cA 0, 16, .inl (fun _ => 0)))] rfl (kp 9 rfl ?_)))
  refine k_putF (fs2 := [.ref q1, .int 0, .null, .null, .null, .null]) (dc dkX10_init 5 rfl) ffX10_11 rfl rfl (Nat.le_of_ble_eq_true rfl) rfl (kp 12 rfl ?_)
  refine k_aload (dc dkX10_init 6 rfl) rfl (kp 13 rfl ?_)
  refine k_iconst (dc dkX10_init 7 rfl) (kp 14 rfl ?_)
  refine k_put (fs2 := [.ref q1, vI 0, .null, .null, .null, .null]) (dc dkX10_init 8 rfl) fpX10_15 rfl rfl (Nat.le_of_ble_eq_true rfl) rfl (kp 17 rfl ?_)
  refine k_aload (dc dkX10_init 9 rfl) rfl (kp 18 rfl ?_)
  refine k_bipush (dc dkX10_init 10 rfl) (by decide) (kp 20 rfl ?_)
  refine k_newa (t := 0) (ty := .int) (N := 16) (a0 := (16, .inl (fun _ => 0))) (dc dkX10_init 11 rfl) aw_int rfl rfl (fun _ _ h => h) (fun _ => rfl) (by decide) (by decide) (by decide) (Nat.le_of_ble_eq_true rfl) (Nat.le_of_ble_eq_true rfl) (fun q2 => (kw [(h0, .inr (9, [.ref q1, vI 0, .null, .null, .null, .null])), (q1, .inl (cA 0, 16, .inl (fun _ => 0))), (q2, .inl (cA 0, 16, .inl (fun _ => 0)))] rfl (kp 22 rfl ?_)))
  refine k_putF (fs2 := [.ref q1, vI 0, .ref q2, .null, .null, .null]) (dc dkX10_init 12 rfl) ffX10_19 rfl rfl (Nat.le_of_ble_eq_true rfl) rfl (kp 25 rfl ?_)
  refine k_aload (dc dkX10_init 13 rfl) rfl (kp 26 rfl ?_)
  refine k_bipush (dc dkX10_init 14 rfl) (by decide) (kp 28 rfl ?_)
  refine k_newa (t := 0) (ty := .int) (N := 16) (a0 := (16, .inl (fun _ => 0))) (dc dkX10_init 15 rfl) aw_int rfl rfl (fun _ _ h => h) (fun _ => rfl) (by decide) (by decide) (by decide) (Nat.le_of_ble_eq_true rfl) (Nat.le_of_ble_eq_true rfl) (fun q3 => (kw [(h0, .inr (9, [.ref q1, vI 0, .ref q2, .null, .null, .null])), (q1, .inl (cA 0, 16, .inl (fun _ => 0))), (q2, .inl (cA 0, 16, .inl (fun _ => 0))), (q3, .inl (cA 0, 16, .inl (fun _ => 0)))] rfl (kp 30 rfl ?_)))
  refine k_putF (fs2 := [.ref q1, vI 0, .ref q2, .ref q3, .null, .null]) (dc dkX10_init 16 rfl) ffX10_22 rfl rfl (Nat.le_of_ble_eq_true rfl) rfl (kp 33 rfl ?_)
  refine k_aload (dc dkX10_init 17 rfl) rfl (kp 34 rfl ?_)
  refine k_bipush (dc dkX10_init 18 rfl) (by decide) (kp 36 rfl ?_)
  refine k_newa (t := 0) (ty := .int) (N := 8) (a0 := (8, .inl (fun _ => 0))) (dc dkX10_init 19 rfl) aw_int rfl rfl (fun _ _ h => h) (fun _ => rfl) (by decide) (by decide) (by decide) (Nat.le_of_ble_eq_true rfl) (Nat.le_of_ble_eq_true rfl) (fun q4 => (kw [(h0, .inr (9, [.ref q1, vI 0, .ref q2, .ref q3, .null, .null])), (q1, .inl (cA 0, 16, .inl (fun _ => 0))), (q2, .inl (cA 0, 16, .inl (fun _ => 0))), (q3, .inl (cA 0, 16, .inl (fun _ => 0))), (q4, .inl (cA 0, 8, .inl (fun _ => 0)))] rfl (kp 38 rfl ?_)))
  refine k_putF (fs2 := [.ref q1, vI 0, .ref q2, .ref q3, .ref q4, .null]) (dc dkX10_init 20 rfl) ffX10_25 rfl rfl (Nat.le_of_ble_eq_true rfl) rfl (kp 41 rfl ?_)
  refine k_aload (dc dkX10_init 21 rfl) rfl (kp 42 rfl ?_)
  refine k_bipush (dc dkX10_init 22 rfl) (by decide) (kp 44 rfl ?_)
  refine k_newa (t := 0) (ty := .int) (N := 8) (a0 := (8, .inl (fun _ => 0))) (dc dkX10_init 23 rfl) aw_int rfl rfl (fun _ _ h => h) (fun _ => rfl) (by decide) (by decide) (by decide) (Nat.le_of_ble_eq_true rfl) (Nat.le_of_ble_eq_true rfl) (fun q5 => (kw [(h0, .inr (9, [.ref q1, vI 0, .ref q2, .ref q3, .ref q4, .null])), (q1, .inl (cA 0, 16, .inl (fun _ => 0))), (q2, .inl (cA 0, 16, .inl (fun _ => 0))), (q3, .inl (cA 0, 16, .inl (fun _ => 0))), (q4, .inl (cA 0, 8, .inl (fun _ => 0))), (q5, .inl (cA 0, 8, .inl (fun _ => 0)))] rfl (kp 46 rfl ?_)))
  refine k_putF (fs2 := [.ref q1, vI 0, .ref q2, .ref q3, .ref q4, .ref q5]) (dc dkX10_init 24 rfl) ffX10_28 rfl rfl (Nat.le_of_ble_eq_true rfl) rfl (kp 49 rfl ?_)
  exact k_end (dc dkX10_init 25 rfl) rfl (Nat.le_of_ble_eq_true rfl) (Nat.le_of_ble_eq_true rfl) ⟨q1, q2, q3, q4, q5, rfl⟩
def wX11 (cA : Nat → ClassId) (h0 q1 q2 q3 q4 q5 q6 q7 q8 q9 q10 q11 q12 : Nat) : va_W := [(h0, .inr (10, [vI 0, .ref q1, .ref q7, vI 0, .ref q10, .ref q11])), (q1, .inr (1, [vI 0, vI 0, vI 0, vI 0, vL 0, vL 0, vI 0, vI 0, .ref q2, .ref q3])), (q2, .inl (cA 1, 8, .inr (.inl (fun _ => 0)))), (q3, .inr (0, [vI 0, .ref q4, .ref q5, .ref q6])), (q4, .inl (cA 0, 8, .inl (fun _ => 0))), (q5, .inl (cA 0, 8, .inl (fun _ => 0))), (q6, .inl (cA 0, 64, .inl (fun _ => 0))), (q7, .inr (3, [vI 0, vI 0, vI 0, .ref q8, .ref q9])), (q8, .inl (cA 0, 8, .inl (fun _ => 0))), (q9, .inl (cA 0, 8, .inl (fun _ => 0))), (q10, .inl (cA 0, 4, .inl (fun _ => 0))), (q11, .inr (8, [vI 0, vI 0, .ref q12])), (q12, .inl (cA 0, 40, .inl (fun _ => 0)))]
set_option maxRecDepth 100000 in
set_option maxHeartbeats 4000000 in
theorem nX11_init : Cn ({ frames := 3, cells := 12, slots := 170, locals := 52 } : Room) 12 170 miX11_init [] 10 [.int 0, .null, .null, .int 0, .null, .null] (fun h0 cA ws => ∃ q1 q2 q3 q4 q5 q6 q7 q8 q9 q10 q11 q12, ws = wX11 cA h0 q1 q2 q3 q4 q5 q6 q7 q8 q9 q10 q11 q12) := by
  refine Cn_of (plainFor_of_name (by decide)) rfl (Nat.le_of_ble_eq_true rfl) (fun D cA A h0 => ?_)
  show kR _ _ _ _ _ _ _ _ 0 [(0, .ref h0)] [] _ 0 0
  refine k_aload (dc dkX11_init 0 rfl) rfl (kp 1 rfl ?_)
  refine k_obj (dc dkX11_init 1 rfl) oiX11_3 (Nat.le_of_ble_eq_true rfl) (Nat.le_of_ble_eq_true rfl) (kp 4 rfl ?_)
  refine k_aload (dc dkX11_init 2 rfl) rfl (kp 5 rfl ?_)
  refine k_iconst (dc dkX11_init 3 rfl) (kp 6 rfl ?_)
  refine k_put (fs2 := [vI 0, .null, .null, .int 0, .null, .null]) (dc dkX11_init 4 rfl) fpX11_9 (by decide +kernel) (by decide +kernel) (Nat.le_of_ble_eq_true rfl) rfl (kp 9 rfl ?_)
  refine k_aload (dc dkX11_init 5 rfl) rfl (kp 10 rfl ?_)
  refine k_new (N := 10) (dc dkX11_init 6 rfl) nwX11_15 rfl (Nat.le_of_ble_eq_true rfl) (Nat.le_of_ble_eq_true rfl) (fun q1 => (kp 13 rfl ?_))
  refine k_dup (dc dkX11_init 7 rfl) (kp 14 rfl ?_)
  refine k_initN (as := []) (dc dkX11_init 8 rfl) iiX11_17 nX1_init rfl rfl (Nat.le_of_ble_eq_true rfl) rfl rfl ⟨(Nat.le_of_ble_eq_true rfl), (Nat.le_of_ble_eq_true rfl)⟩ ⟨(Nat.le_of_ble_eq_true rfl), (Nat.le_of_ble_eq_true rfl)⟩ (fun wc hwc => (kp 17 rfl ?_))
  obtain ⟨q2, q3, q4, q5, q6, rfl⟩ := hwc
  refine kw [(h0, .inr (10, [vI 0, .null, .null, .int 0, .null, .null])), (q1, .inr (1, [vI 0, vI 0, vI 0, vI 0, vL 0, vL 0, vI 0, vI 0, .ref q2, .ref q3])), (q2, .inl (cA 1, 8, .inr (.inl (fun _ => 0)))), (q3, .inr (0, [vI 0, .ref q4, .ref q5, .ref q6])), (q4, .inl (cA 0, 8, .inl (fun _ => 0))), (q5, .inl (cA 0, 8, .inl (fun _ => 0))), (q6, .inl (cA 0, 64, .inl (fun _ => 0)))] rfl ?_
  refine k_putF (fs2 := [vI 0, .ref q1, .null, .int 0, .null, .null]) (dc dkX11_init 9 rfl) ffX11_18 rfl rfl (Nat.le_of_ble_eq_true rfl) rfl (kp 20 rfl ?_)
  refine k_aload (dc dkX11_init 10 rfl) rfl (kp 21 rfl ?_)
  refine k_new (N := 5) (dc dkX11_init 11 rfl) nwX11_22 rfl (Nat.le_of_ble_eq_true rfl) (Nat.le_of_ble_eq_true rfl) (fun q7 => (kp 24 rfl ?_))
  refine k_dup (dc dkX11_init 12 rfl) (kp 25 rfl ?_)
  refine k_initN (as := []) (dc dkX11_init 13 rfl) iiX11_24 nX3_init rfl rfl (Nat.le_of_ble_eq_true rfl) rfl rfl ⟨(Nat.le_of_ble_eq_true rfl), (Nat.le_of_ble_eq_true rfl)⟩ ⟨(Nat.le_of_ble_eq_true rfl), (Nat.le_of_ble_eq_true rfl)⟩ (fun wc hwc => (kp 28 rfl ?_))
  obtain ⟨q8, q9, rfl⟩ := hwc
  refine kw [(h0, .inr (10, [vI 0, .ref q1, .null, .int 0, .null, .null])), (q1, .inr (1, [vI 0, vI 0, vI 0, vI 0, vL 0, vL 0, vI 0, vI 0, .ref q2, .ref q3])), (q2, .inl (cA 1, 8, .inr (.inl (fun _ => 0)))), (q3, .inr (0, [vI 0, .ref q4, .ref q5, .ref q6])), (q4, .inl (cA 0, 8, .inl (fun _ => 0))), (q5, .inl (cA 0, 8, .inl (fun _ => 0))), (q6, .inl (cA 0, 64, .inl (fun _ => 0))), (q7, .inr (3, [vI 0, vI 0, vI 0, .ref q8, .ref q9])), (q8, .inl (cA 0, 8, .inl (fun _ => 0))), (q9, .inl (cA 0, 8, .inl (fun _ => 0)))] rfl ?_
  refine k_putF (fs2 := [vI 0, .ref q1, .ref q7, .int 0, .null, .null]) (dc dkX11_init 14 rfl) ffX11_25 rfl rfl (Nat.le_of_ble_eq_true rfl) rfl (kp 31 rfl ?_)
  refine k_aload (dc dkX11_init 15 rfl) rfl (kp 32 rfl ?_)
  refine k_iconst (dc dkX11_init 16 rfl) (kp 33 rfl ?_)
  refine k_put (fs2 := [vI 0, .ref q1, .ref q7, vI 0, .null, .null]) (dc dkX11_init 17 rfl) fpX11_29 rfl rfl (Nat.le_of_ble_eq_true rfl) rfl (kp 36 rfl ?_)
  refine k_aload (dc dkX11_init 18 rfl) rfl (kp 37 rfl ?_)
  refine k_iconst (dc dkX11_init 19 rfl) (kp 38 rfl ?_)
  refine k_newa (t := 0) (ty := .int) (N := 4) (a0 := (4, .inl (fun _ => 0))) (dc dkX11_init 20 rfl) aw_int rfl rfl (fun _ _ h => h) (fun _ => rfl) (by decide) (by decide) (by decide) (Nat.le_of_ble_eq_true rfl) (Nat.le_of_ble_eq_true rfl) (fun q10 => (kw [(h0, .inr (10, [vI 0, .ref q1, .ref q7, vI 0, .null, .null])), (q1, .inr (1, [vI 0, vI 0, vI 0, vI 0, vL 0, vL 0, vI 0, vI 0, .ref q2, .ref q3])), (q2, .inl (cA 1, 8, .inr (.inl (fun _ => 0)))), (q3, .inr (0, [vI 0, .ref q4, .ref q5, .ref q6])), (q4, .inl (cA 0, 8, .inl (fun _ => 0))), (q5, .inl (cA 0, 8, .inl (fun _ => 0))), (q6, .inl (cA 0, 64, .inl (fun _ => 0))), (q7, .inr (3, [vI 0, vI 0, vI 0, .ref q8, .ref q9])), (q8, .inl (cA 0, 8, .inl (fun _ => 0))), (q9, .inl (cA 0, 8, .inl (fun _ => 0))), (q10, .inl (cA 0, 4, .inl (fun _ => 0)))] rfl (kp 40 rfl ?_)))
  refine k_putF (fs2 := [vI 0, .ref q1, .ref q7, vI 0, .ref q10, .null]) (dc dkX11_init 21 rfl) ffX11_33 rfl rfl (Nat.le_of_ble_eq_true rfl) rfl (kp 43 rfl ?_)
  refine k_aload (dc dkX11_init 22 rfl) rfl (kp 44 rfl ?_)
  refine k_new (N := 3) (dc dkX11_init 23 rfl) nwX11_37 rfl (Nat.le_of_ble_eq_true rfl) (Nat.le_of_ble_eq_true rfl) (fun q11 => (kp 47 rfl ?_))
  refine k_dup (dc dkX11_init 24 rfl) (kp 48 rfl ?_)
  refine k_initN (as := []) (dc dkX11_init 25 rfl) iiX11_39 nX9_init rfl rfl (Nat.le_of_ble_eq_true rfl) rfl rfl ⟨(Nat.le_of_ble_eq_true rfl), (Nat.le_of_ble_eq_true rfl)⟩ ⟨(Nat.le_of_ble_eq_true rfl), (Nat.le_of_ble_eq_true rfl)⟩ (fun wc hwc => (kp 51 rfl ?_))
  obtain ⟨q12, rfl⟩ := hwc
  refine kw [(h0, .inr (10, [vI 0, .ref q1, .ref q7, vI 0, .ref q10, .null])), (q1, .inr (1, [vI 0, vI 0, vI 0, vI 0, vL 0, vL 0, vI 0, vI 0, .ref q2, .ref q3])), (q2, .inl (cA 1, 8, .inr (.inl (fun _ => 0)))), (q3, .inr (0, [vI 0, .ref q4, .ref q5, .ref q6])), (q4, .inl (cA 0, 8, .inl (fun _ => 0))), (q5, .inl (cA 0, 8, .inl (fun _ => 0))), (q6, .inl (cA 0, 64, .inl (fun _ => 0))), (q7, .inr (3, [vI 0, vI 0, vI 0, .ref q8, .ref q9])), (q8, .inl (cA 0, 8, .inl (fun _ => 0))), (q9, .inl (cA 0, 8, .inl (fun _ => 0))), (q10, .inl (cA 0, 4, .inl (fun _ => 0))), (q11, .inr (8, [vI 0, vI 0, .ref q12])), (q12, .inl (cA 0, 40, .inl (fun _ => 0)))] rfl ?_
  refine k_putF (fs2 := [vI 0, .ref q1, .ref q7, vI 0, .ref q10, .ref q11]) (dc dkX11_init 26 rfl) ffX11_40 rfl rfl (Nat.le_of_ble_eq_true rfl) rfl (kp 54 rfl ?_)
  exact k_end (dc dkX11_init 27 rfl) rfl (Nat.le_of_ble_eq_true rfl) (Nat.le_of_ble_eq_true rfl) ⟨q1, q2, q3, q4, q5, q6, q7, q8, q9, q10, q11, q12, rfl⟩
