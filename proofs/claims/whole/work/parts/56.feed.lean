/-! ===== bytes of a number ===== -/
def bts (w i : Int) : Int := iShr w (24 - 8 * i) % 256
theorem bv_m (a : BitVec 32) : a.toInt % 256 = ((a.setWidth 8).toNat : Int) := by
  rw [BitVec.toNat_setWidth, BitVec.toInt_eq_toNat_cond]
  split <;> omega
theorem bv_s (x : BitVec 32) (k : Nat) (hk : k ≤ 24) : (x.ushiftRight k).setWidth 8 = (x.sshiftRight k).setWidth 8 := by
  apply BitVec.eq_of_getLsbD_eq
  intro i hi
  rw [BitVec.getLsbD_setWidth, BitVec.getLsbD_setWidth, BitVec.getLsbD_sshiftRight]
  show (decide (i < 8) && (x >>> k).getLsbD i) = _
  rw [BitVec.getLsbD_ushiftRight]
  have h1 : ¬ 32 ≤ i := by omega
  have h2 : k + i < 32 := by omega
  simp [h1, h2]
theorem bx_c32 : ∀ k, k < 32 → ((Int32.ofInt (k : Nat) &&& 31).toBitVec.smod 32).toNat = k := by decide +kernel
theorem bx_u32 : ∀ k, k < 32 → (((Int32.ofInt (k : Nat)).toUInt32 &&& Int32.toUInt32 31).toBitVec.toNat % 32) = k := by decide +kernel
theorem ushr_m {w k : Int} (h : 0 ≤ k ∧ k ≤ 24) : iAnd (iUshr w k) 255 = iShr w k % 256 := by
  rw [iAnd_255]
  obtain ⟨n, rfl⟩ := Int.eq_ofNat_of_zero_le h.1
  have hn : n ≤ 24 := by omega
  unfold iUshr iShr
  have e1 : (Int32.ofInt w >>> (Int32.ofInt (n : Nat) &&& 31)).toBitVec = (Int32.ofInt w).toBitVec.sshiftRight n := by
    rw [Int32.toBitVec_shiftRight, BitVec.sshiftRight_eq', bx_c32 n (by omega)]
  have e2 : (((Int32.ofInt w).toUInt32 >>> ((Int32.ofInt (n : Nat)).toUInt32 &&& Int32.toUInt32 31)).toInt32).toBitVec = (Int32.ofInt w).toBitVec.ushiftRight n := by
    show ((Int32.ofInt w).toUInt32 >>> ((Int32.ofInt (n : Nat)).toUInt32 &&& Int32.toUInt32 31)).toBitVec = _
    rw [UInt32.toBitVec_shiftRight, BitVec.ushiftRight_eq', BitVec.toNat_umod]
    show BitVec.ushiftRight _ _ = _
    congr 1
    exact bx_u32 n (by omega)
  show (((Int32.ofInt w).toUInt32 >>> ((Int32.ofInt (n : Nat)).toUInt32 &&& Int32.toUInt32 31)).toInt32).toBitVec.toInt % 256 = (Int32.ofInt w >>> (Int32.ofInt (n : Nat) &&& 31)).toBitVec.toInt % 256
  rw [e1, e2, bv_m, bv_m, bv_s _ _ hn]
theorem bmod2 (z : Int) : (z.bmod 256).bmod 256 % 256 = z % 256 := by
  show ((z.bmod 256).bmod 256) % ((256 : Nat) : Int) = z % ((256 : Nat) : Int)
  rw [Int.bmod_emod, Int.bmod_emod]
set_option maxRecDepth 100000 in
set_option maxHeartbeats 4000000 in
theorem c_X2_putFour {σ : jS} {L w : Int} (hL : σ 2 1 = L) (hL2 : 0 ≤ L ∧ L + 4 ≤ 640) : Jm 2 miX2_putFour [.ref 2, vI w] σ (fun r τ => r = none ∧ same [2, 3] σ τ ∧ (∀ j, ¬ j = 1 → τ 2 j = σ 2 j) ∧ τ 2 1 = L + 4 ∧ (∀ j, j < L → τ 3 j = σ 3 j) ∧ ∀ i, 0 ≤ i → i < 4 → τ 3 (L + i) % 256 = bts w i) := by
  refine jm_ofF (Po := (fun r τ => r = none ∧ same [2, 3] σ τ ∧ (∀ j, ¬ j = 1 → τ 2 j = σ 2 j) ∧ τ 2 1 = L + 4 ∧ (∀ j, j < L → τ 3 j = σ 3 j) ∧ ∀ i, 0 ≤ i → i < 4 → τ 3 (L + i) % 256 = bts w i)) (plainFor_of_name (by decide)) (Nat.le_of_ble_eq_true rfl) (lv := [(0, _), (1, _)]) rfl ?_
  refine r_bipush (dc dkX2_putFour 0 rfl) bp_24 (np 2 rfl ?_)
  refine r_istore_n (lv' := [(2, _), (0, _), (1, _)]) (dc dkX2_putFour 1 rfl) (Nat.le_of_ble_eq_true rfl) rfl (np 3 rfl ?_)
  refine r_pick [1, 2, 0] (lv' := [(0, _), (1, _), (2, _)]) rfl ?_
  refine jlp2 (P := fun (k : Int) (τ : jS) => jR _ _ _ 3 [(0, .ref 2), (1, vI w), (2, vI k)] [] τ) (I := fun (k : Int) (τ : jS) => (k = 24 ∨ k = 16 ∨ k = 8 ∨ k = 0 ∨ k = -8) ∧ same [2, 3] σ τ ∧ (∀ j, ¬ j = 1 → τ 2 j = σ 2 j) ∧ τ 2 1 = L + (24 - k) / 8 ∧ (∀ j, j < L → τ 3 j = σ 3 j) ∧ ∀ i, 0 ≤ i → i < (24 - k) / 8 → τ 3 (L + i) % 256 = bts w i) (fun (k : Int) (τ : jS) => (k + 8).toNat) ?_ _ _ ⟨by omega, same.refl _ _, fun _ _ => rfl, by omega, fun _ _ => rfl, fun i _ _ => by omega⟩
  intro k τ hI3 ih3
  have e2 := hI3.2.2.2.1
  have nb2 : nBytes 2 = 640 := by have := nB_b isBytes_at2; omega
  have hY : okY τ 2 := by unfold okY; rw [e2, nb2]; omega
  refine r_iload_n (dc dkX2_putFour 2 rfl) rfl (np 4 rfl ?_)
  refine r_if_lt (tgt := 20) (dc dkX2_putFour 3 rfl) rfl (by first | assumption | decide | omega) (fun h4 => ?_) (fun h4 => (np 7 rfl ?_))
  · skip
    exact r_vret (dc dkX2_putFour 11 rfl) rfl ⟨rfl, hI3.2.1, hI3.2.2.1, by omega, hI3.2.2.2.2.1, fun i i0 i1 => hI3.2.2.2.2.2 i i0 (by omega)⟩
  refine r_aload_n (dc dkX2_putFour 4 rfl) rfl (np 8 rfl ?_)
  refine r_iload_n (dc dkX2_putFour 5 rfl) rfl (np 9 rfl ?_)
  refine r_iload_n (dc dkX2_putFour 6 rfl) rfl (np 10 rfl ?_)
  refine r_ishr (dc dkX2_putFour 7 rfl) (np 11 rfl ?_)
  refine r_cV1 (y' := miX2_put) (dc dkX2_putFour 8 rfl) mlX2_25 ceX2_put ob_2 (Nat.le_of_ble_eq_true rfl) (Nat.le_of_ble_eq_true rfl) (c_X2_put isBytes_at2 hY (by rw [e2, nb2]; omega)) (fun r τ4 hp4 => (np 14 rfl ?_))
  obtain ⟨rfl, hp4⟩ := hp4
  refine r_iinc (lv' := [(2, _), (0, _), (1, _)]) (dc dkX2_putFour 9 rfl) (Nat.le_of_ble_eq_true rfl) rfl rfl (np 17 rfl ?_)
  refine r_goto (tgt := 3) (dc dkX2_putFour 10 rfl) rfl ?_
  refine r_pick [1, 2, 0] rfl ?_
  exact ih3 _ _ (by
        have hb := hI3.2.2.2.2.2
        rw [hp4]
        refine ⟨by omega, (hI3.2.1.put (by decide)).put (by decide), fun j hj => by rw [ju_ne (by omega), ju_ne (by omega)]; exact hI3.2.2.1 j hj, by rw [ju_at]; omega, fun j hj => by rw [ju_ne (by omega), ju_ne (by omega)]; exact hI3.2.2.2.2.1 j hj, fun i i0 i1 => ?_⟩
        by_cases hi : i = (24 - k) / 8
        · rw [ju_ne (by omega), hi, e2, ju_at, bmod2]
          unfold bts
          rw [show 24 - 8 * ((24 - k) / 8) = k by omega]
        · rw [ju_ne (by omega), ju_ne (by omega)]; exact hb i i0 (by omega)) (by omega)
/-- twenty bytes come behind L -/
def fdB (L a b c d e : Int) (B : Int → Int) : Prop := (∀ i, 0 ≤ i → i < 4 → B (L + i) = bts a i ∧ B (L + 4 + i) = bts b i ∧ B (L + 8 + i) = bts c i ∧ B (L + 12 + i) = bts d i ∧ B (L + 16 + i) = bts e i)
set_option maxRecDepth 100000 in
set_option maxHeartbeats 4000000 in
theorem c_X12_feed {σ : jS} (hL : cB 640 (σ 2 1)) {a b c d e : Int} : Jm 3 miX12_feed [.ref 0, vI a, vI b, vI c, vI d, vI e] σ (fun r τ => (σ 2 1 + 20 ≤ 640 → r = some (vI (σ 2 1 + 20)) ∧ same [2, 3] σ τ ∧ (∀ j, ¬ j = 1 → τ 2 j = σ 2 j) ∧ τ 2 1 = σ 2 1 + 20 ∧ (∀ j, j < σ 2 1 → τ 3 j = σ 3 j) ∧ fdB (σ 2 1) a b c d e (tpe τ)) ∧ (¬ σ 2 1 + 20 ≤ 640 → r = some (vI (-1)) ∧ τ = σ)) := by
  have nb2 : nBytes 2 = 640 := by have := nB_b isBytes_at2; omega
  have hY : okY σ 2 := by unfold okY; rw [nb2]; omega
  refine jm_ofF (Po := (fun r τ => (σ 2 1 + 20 ≤ 640 → r = some (vI (σ 2 1 + 20)) ∧ same [2, 3] σ τ ∧ (∀ j, ¬ j = 1 → τ 2 j = σ 2 j) ∧ τ 2 1 = σ 2 1 + 20 ∧ (∀ j, j < σ 2 1 → τ 3 j = σ 3 j) ∧ fdB (σ 2 1) a b c d e (tpe τ)) ∧ (¬ σ 2 1 + 20 ≤ 640 → r = some (vI (-1)) ∧ τ = σ))) (plainFor_of_name (by decide)) (Nat.le_of_ble_eq_true rfl) (lv := [(0, _), (1, _), (2, _), (3, _), (4, _), (5, _)]) rfl ?_
  refine r_aload_n (dc dkX12_feed 0 rfl) rfl (np 1 rfl ?_)
  refine r_getR (dc dkX12_feed 1 rfl) flX12_20 fd_0_1 (np 4 rfl ?_)
  refine r_bipush (dc dkX12_feed 2 rfl) bp_20 (np 6 rfl ?_)
  refine r_pV1 (y' := miX2_hasRoom) (dc dkX12_feed 3 rfl) mlX12_92 ceX2_hasRoom ob_2 (Nat.le_of_ble_eq_true rfl) (Nat.le_of_ble_eq_true rfl) (c_X2_hasRoom isBytes_at2 hY (by decide)) (np 9 rfl ?_)
  refine r_bn (tgt := 14) (dc dkX12_feed 4 rfl) rfl (fun h9 => ?_) (fun h9 => (np 12 rfl ?_))
  · skip
    rw [nb2] at h9
    replace h9 : σ 2 1 + 20 ≤ 640 := by omega
    refine r_aload_n (dc dkX12_feed 7 rfl) rfl (np 15 rfl ?_)
    refine r_getR (dc dkX12_feed 8 rfl) flX12_20 fd_0_1 (np 18 rfl ?_)
    refine r_iload_n (dc dkX12_feed 9 rfl) rfl (np 19 rfl ?_)
    refine r_cV1 (y' := miX2_putFour) (dc dkX12_feed 10 rfl) mlX12_96 ceX2_putFour ob_2 (Nat.le_of_ble_eq_true rfl) (Nat.le_of_ble_eq_true rfl) (c_X2_putFour (L := σ 2 1) rfl (by omega)) (fun r τ1 hp1 => (np 22 rfl ?_))
    obtain ⟨rfl, s1, j1, l1, o1, b1⟩ := hp1
    refine r_aload_n (dc dkX12_feed 11 rfl) rfl (np 23 rfl ?_)
    refine r_getR (dc dkX12_feed 12 rfl) flX12_20 fd_0_1 (np 26 rfl ?_)
    refine r_iload_n (dc dkX12_feed 13 rfl) rfl (np 27 rfl ?_)
    refine r_cV1 (y' := miX2_putFour) (dc dkX12_feed 14 rfl) mlX12_96 ceX2_putFour ob_2 (Nat.le_of_ble_eq_true rfl) (Nat.le_of_ble_eq_true rfl) (c_X2_putFour (L := σ 2 1 + 4) l1 (by omega)) (fun r τ2 hp2 => (np 30 rfl ?_))
    obtain ⟨rfl, s2, j2, l2, o2, b2⟩ := hp2
    refine r_aload_n (dc dkX12_feed 15 rfl) rfl (np 31 rfl ?_)
    refine r_getR (dc dkX12_feed 16 rfl) flX12_20 fd_0_1 (np 34 rfl ?_)
    refine r_iload_n (dc dkX12_feed 17 rfl) rfl (np 35 rfl ?_)
    refine r_cV1 (y' := miX2_putFour) (dc dkX12_feed 18 rfl) mlX12_96 ceX2_putFour ob_2 (Nat.le_of_ble_eq_true rfl) (Nat.le_of_ble_eq_true rfl) (c_X2_putFour (L := σ 2 1 + 4 + 4) l2 (by omega)) (fun r τ3 hp3 => (np 38 rfl ?_))
    obtain ⟨rfl, s3, j3, l3, o3, b3⟩ := hp3
    refine r_aload_n (dc dkX12_feed 19 rfl) rfl (np 39 rfl ?_)
    refine r_getR (dc dkX12_feed 20 rfl) flX12_20 fd_0_1 (np 42 rfl ?_)
    refine r_iload (dc dkX12_feed 21 rfl) rfl (np 44 rfl ?_)
    refine r_cV1 (y' := miX2_putFour) (dc dkX12_feed 22 rfl) mlX12_96 ceX2_putFour ob_2 (Nat.le_of_ble_eq_true rfl) (Nat.le_of_ble_eq_true rfl) (c_X2_putFour (L := σ 2 1 + 4 + 4 + 4) l3 (by omega)) (fun r τ4 hp4 => (np 47 rfl ?_))
    obtain ⟨rfl, s4, j4, l4, o4, b4⟩ := hp4
    refine r_aload_n (dc dkX12_feed 23 rfl) rfl (np 48 rfl ?_)
    refine r_getR (dc dkX12_feed 24 rfl) flX12_20 fd_0_1 (np 51 rfl ?_)
    refine r_iload (dc dkX12_feed 25 rfl) rfl (np 53 rfl ?_)
    refine r_cV1 (y' := miX2_putFour) (dc dkX12_feed 26 rfl) mlX12_96 ceX2_putFour ob_2 (Nat.le_of_ble_eq_true rfl) (Nat.le_of_ble_eq_true rfl) (c_X2_putFour (L := σ 2 1 + 4 + 4 + 4 + 4) l4 (by omega)) (fun r τ5 hp5 => (np 56 rfl ?_))
    obtain ⟨rfl, s5, j5, l5, o5, b5⟩ := hp5
    refine r_aload_n (dc dkX12_feed 27 rfl) rfl (np 57 rfl ?_)
    refine r_getR (dc dkX12_feed 28 rfl) flX12_20 fd_0_1 (np 60 rfl ?_)
    refine r_gI 1 (dc dkX12_feed 29 rfl) flX12_99 fd_2_1 rfl (np 63 rfl ?_)
    exact r_iret (dc dkX12_feed 30 rfl) rfl (by
        refine ⟨fun _ => ⟨by rw [l5]; congr 2; omega, (((s1.tr s2).tr s3).tr s4).tr s5, fun j hj => by rw [j5 j hj, j4 j hj, j3 j hj, j2 j hj, j1 j hj], by omega, fun j hj => by rw [o5 j (by omega), o4 j (by omega), o3 j (by omega), o2 j (by omega), o1 j hj], fun i i0 i1 => ⟨?_, ?_, ?_, ?_, ?_⟩⟩, fun z => absurd h9 z⟩
        · show τ5 3 _ % 256 = _
          rw [o5 _ (by omega), o4 _ (by omega), o3 _ (by omega), o2 _ (by omega)]; exact b1 i i0 i1
        · show τ5 3 _ % 256 = _
          rw [o5 _ (by omega), o4 _ (by omega), o3 _ (by omega)]; exact b2 i i0 i1
        · show τ5 3 _ % 256 = _
          rw [o5 _ (by omega), o4 _ (by omega), show σ 2 1 + 8 + i = σ 2 1 + 4 + 4 + i by omega]; exact b3 i i0 i1
        · show τ5 3 _ % 256 = _
          rw [o5 _ (by omega), show σ 2 1 + 12 + i = σ 2 1 + 4 + 4 + 4 + i by omega]; exact b4 i i0 i1
        · show τ5 3 _ % 256 = _
          rw [show σ 2 1 + 16 + i = σ 2 1 + 4 + 4 + 4 + 4 + i by omega]; exact b5 i i0 i1)
  refine r_iconst (dc dkX12_feed 5 rfl) (np 13 rfl ?_)
  exact r_iret (dc dkX12_feed 6 rfl) rfl (by rw [nb2] at h9; exact ⟨fun z => absurd z (by omega), fun _ => ⟨rfl, rfl⟩⟩)
set_option maxRecDepth 100000 in
set_option maxHeartbeats 4000000 in
theorem c_X13_come {σ : jS} {L w : Int} (hL : σ 111 2 = L) (hL2 : 0 ≤ L ∧ L + 4 ≤ 640) : Jm 1 miX13_come [.ref 111, vI w] σ (fun r τ => r = none ∧ mdT [2] [112] σ τ ∧ τ 111 2 = L + 4 ∧ (∀ j, j < L → τ 112 j = σ 112 j) ∧ ∀ i, 0 ≤ i → i < 4 → τ 112 (L + i) = bts w i) := by
  refine jm_ofF (Po := (fun r τ => r = none ∧ mdT [2] [112] σ τ ∧ τ 111 2 = L + 4 ∧ (∀ j, j < L → τ 112 j = σ 112 j) ∧ ∀ i, 0 ≤ i → i < 4 → τ 112 (L + i) = bts w i)) (plainFor_of_name (by decide)) (Nat.le_of_ble_eq_true rfl) (lv := [(0, _), (1, _)]) rfl ?_
  refine r_bipush (dc dkX13_come 0 rfl) bp_24 (np 2 rfl ?_)
  refine r_istore_n (lv' := [(2, _), (0, _), (1, _)]) (dc dkX13_come 1 rfl) (Nat.le_of_ble_eq_true rfl) rfl (np 3 rfl ?_)
  refine r_pick [1, 2, 0] (lv' := [(0, _), (1, _), (2, _)]) rfl ?_
  refine jlp2 (P := fun (k : Int) (τ : jS) => jR _ _ _ 3 [(0, .ref 111), (1, vI w), (2, vI k)] [] τ) (I := fun (k : Int) (τ : jS) => (k = 24 ∨ k = 16 ∨ k = 8 ∨ k = 0 ∨ k = -8) ∧ mdT [2] [112] σ τ ∧ τ 111 2 = L + (24 - k) / 8 ∧ (∀ j, j < L → τ 112 j = σ 112 j) ∧ ∀ i, 0 ≤ i → i < (24 - k) / 8 → τ 112 (L + i) = bts w i) (fun (k : Int) (τ : jS) => (k + 8).toNat) ?_ _ _ ⟨by omega, mdT.refl _ _ _, by omega, fun _ _ => rfl, fun i _ _ => by omega⟩
  intro k τ hI3 ih3
  have e2 := hI3.2.2.1
  refine r_iload_n (dc dkX13_come 2 rfl) rfl (np 4 rfl ?_)
  refine r_if_lt (tgt := 39) (dc dkX13_come 3 rfl) rfl (by first | assumption | decide | omega) (fun h4 => ?_) (fun h4 => (np 7 rfl ?_))
  · skip
    exact r_vret (dc dkX13_come 22 rfl) rfl ⟨rfl, hI3.2.1, by omega, hI3.2.2.2.1, fun i i0 i1 => hI3.2.2.2.2 i i0 (by omega)⟩
  refine r_aload_n (dc dkX13_come 4 rfl) rfl (np 8 rfl ?_)
  refine r_getR (dc dkX13_come 5 rfl) flX13_7 fd_111_1 (np 11 rfl ?_)
  refine r_aload_n (dc dkX13_come 6 rfl) rfl (np 12 rfl ?_)
  refine r_gI 2 (dc dkX13_come 7 rfl) flX13_98 fd_111_2 rfl (np 15 rfl ?_)
  refine r_iload_n (dc dkX13_come 8 rfl) rfl (np 16 rfl ?_)
  refine r_iload_n (dc dkX13_come 9 rfl) rfl (np 17 rfl ?_)
  refine r_iushr (dc dkX13_come 10 rfl) (np 18 rfl ?_)
  refine r_sipush (dc dkX13_come 11 rfl) sp_255 (np 21 rfl ?_)
  refine r_iand (dc dkX13_come 12 rfl) (np 22 rfl ?_)
  refine r_iast (dc dkX13_come 13 rfl) ar_112 (by omega) (np 23 rfl ?_)
  refine r_aload_n (dc dkX13_come 14 rfl) rfl (np 24 rfl ?_)
  refine r_dup (dc dkX13_come 15 rfl) rfl (np 25 rfl ?_)
  refine r_gI 2 (dc dkX13_come 16 rfl) flX13_98 fd_111_2 rfl (np 28 rfl ?_)
  refine r_iconst (dc dkX13_come 17 rfl) (np 29 rfl ?_)
  refine r_iadd (dc dkX13_come 18 rfl) (np 30 rfl ?_)
  refine r_pI 2 (dc dkX13_come 19 rfl) fpX13_98 fd_111_2 rfl (np 33 rfl ?_)
  refine r_iinc (lv' := [(2, _), (0, _), (1, _)]) (dc dkX13_come 20 rfl) (Nat.le_of_ble_eq_true rfl) rfl rfl (np 36 rfl ?_)
  refine r_goto (tgt := 3) (dc dkX13_come 21 rfl) rfl ?_
  refine r_pick [1, 2, 0] rfl ?_
  exact ih3 _ _ (by
        have hb := hI3.2.2.2.2
        refine ⟨by omega, (hI3.2.1.row (by decide) (by decide)).put (by decide), by rw [ju_at, ju_off _ _ _ _ _ (by decide)]; omega, fun j hj => by rw [ju_off _ _ _ _ _ (by decide), ju_ne (by omega)]; exact hI3.2.2.2.1 j hj, fun i i0 i1 => ?_⟩
        by_cases hi : i = (24 - k) / 8
        · rw [ju_off _ _ _ _ _ (by decide), hi, ← e2, ju_at, ushr_m (by omega)]
          unfold bts
          rw [show 24 - 8 * ((24 - k) / 8) = k by omega]
        · rw [ju_off _ _ _ _ _ (by decide), ju_ne (by omega)]; exact hb i i0 (by omega)) (by omega)
set_option maxRecDepth 100000 in
set_option maxHeartbeats 4000000 in
theorem c_X13_feed {σ : jS} (hL : cB 640 (σ 111 2)) {a b c d e : Int} : Jm 2 miX13_feed [.ref 111, vI a, vI b, vI c, vI d, vI e] σ (fun r τ => (σ 111 2 + 20 ≤ 640 → r = some (vI (σ 111 2 + 20)) ∧ mdT [0, 2] [112] σ τ ∧ τ 111 0 = 0 ∧ τ 111 2 = σ 111 2 + 20 ∧ (∀ j, j < σ 111 2 → τ 112 j = σ 112 j) ∧ fdB (σ 111 2) a b c d e (τ 112)) ∧ (¬ σ 111 2 + 20 ≤ 640 → r = some (vI (-1)) ∧ τ = ju σ 111 0 0)) := by
  have e2 : ju σ 111 0 0 111 2 = σ 111 2 := ju_ne (by decide)
  refine jm_ofF (Po := (fun r τ => (σ 111 2 + 20 ≤ 640 → r = some (vI (σ 111 2 + 20)) ∧ mdT [0, 2] [112] σ τ ∧ τ 111 0 = 0 ∧ τ 111 2 = σ 111 2 + 20 ∧ (∀ j, j < σ 111 2 → τ 112 j = σ 112 j) ∧ fdB (σ 111 2) a b c d e (τ 112)) ∧ (¬ σ 111 2 + 20 ≤ 640 → r = some (vI (-1)) ∧ τ = ju σ 111 0 0))) (plainFor_of_name (by decide)) (Nat.le_of_ble_eq_true rfl) (lv := [(0, _), (1, _), (2, _), (3, _), (4, _), (5, _)]) rfl ?_
  refine r_aload_n (dc dkX13_feed 0 rfl) rfl (np 1 rfl ?_)
  refine r_iconst (dc dkX13_feed 1 rfl) (np 2 rfl ?_)
  refine r_pI 0 (dc dkX13_feed 2 rfl) fpX13_94 fd_111_0 rfl (np 5 rfl ?_)
  refine r_aload_n (dc dkX13_feed 3 rfl) rfl (np 6 rfl ?_)
  refine r_gI 2 (dc dkX13_feed 4 rfl) flX13_98 fd_111_2 rfl (np 9 rfl ?_)
  refine r_bipush (dc dkX13_feed 5 rfl) bp_20 (np 11 rfl ?_)
  refine r_iadd (dc dkX13_feed 6 rfl) (np 12 rfl ?_)
  refine r_sipush (dc dkX13_feed 7 rfl) sp_640 (np 15 rfl ?_)
  refine r_icmp_le (tgt := 20) (dc dkX13_feed 8 rfl) rfl (by rw [e2]; omega) (by first | assumption | decide | omega) (fun h15 => ?_) (fun h15 => (np 18 rfl ?_))
  · skip
    rw [e2] at h15
    refine r_aload_n (dc dkX13_feed 11 rfl) rfl (np 21 rfl ?_)
    refine r_iload_n (dc dkX13_feed 12 rfl) rfl (np 22 rfl ?_)
    refine r_cV1 (y' := miX13_come) (dc dkX13_feed 13 rfl) mlX13_101 ceX13_come ob_111 (Nat.le_of_ble_eq_true rfl) (Nat.le_of_ble_eq_true rfl) (c_X13_come (L := σ 111 2) e2 (by omega)) (fun r τ1 hp1 => (np 25 rfl ?_))
    obtain ⟨rfl, s1, l1, o1, b1⟩ := hp1
    refine r_aload_n (dc dkX13_feed 14 rfl) rfl (np 26 rfl ?_)
    refine r_iload_n (dc dkX13_feed 15 rfl) rfl (np 27 rfl ?_)
    refine r_cV1 (y' := miX13_come) (dc dkX13_feed 16 rfl) mlX13_101 ceX13_come ob_111 (Nat.le_of_ble_eq_true rfl) (Nat.le_of_ble_eq_true rfl) (c_X13_come (L := σ 111 2 + 4) l1 (by omega)) (fun r τ2 hp2 => (np 30 rfl ?_))
    obtain ⟨rfl, s2, l2, o2, b2⟩ := hp2
    refine r_aload_n (dc dkX13_feed 17 rfl) rfl (np 31 rfl ?_)
    refine r_iload_n (dc dkX13_feed 18 rfl) rfl (np 32 rfl ?_)
    refine r_cV1 (y' := miX13_come) (dc dkX13_feed 19 rfl) mlX13_101 ceX13_come ob_111 (Nat.le_of_ble_eq_true rfl) (Nat.le_of_ble_eq_true rfl) (c_X13_come (L := σ 111 2 + 4 + 4) l2 (by omega)) (fun r τ3 hp3 => (np 35 rfl ?_))
    obtain ⟨rfl, s3, l3, o3, b3⟩ := hp3
    refine r_aload_n (dc dkX13_feed 20 rfl) rfl (np 36 rfl ?_)
    refine r_iload (dc dkX13_feed 21 rfl) rfl (np 38 rfl ?_)
    refine r_cV1 (y' := miX13_come) (dc dkX13_feed 22 rfl) mlX13_101 ceX13_come ob_111 (Nat.le_of_ble_eq_true rfl) (Nat.le_of_ble_eq_true rfl) (c_X13_come (L := σ 111 2 + 4 + 4 + 4) l3 (by omega)) (fun r τ4 hp4 => (np 41 rfl ?_))
    obtain ⟨rfl, s4, l4, o4, b4⟩ := hp4
    refine r_aload_n (dc dkX13_feed 23 rfl) rfl (np 42 rfl ?_)
    refine r_iload (dc dkX13_feed 24 rfl) rfl (np 44 rfl ?_)
    refine r_cV1 (y' := miX13_come) (dc dkX13_feed 25 rfl) mlX13_101 ceX13_come ob_111 (Nat.le_of_ble_eq_true rfl) (Nat.le_of_ble_eq_true rfl) (c_X13_come (L := σ 111 2 + 4 + 4 + 4 + 4) l4 (by omega)) (fun r τ5 hp5 => (np 47 rfl ?_))
    obtain ⟨rfl, s5, l5, o5, b5⟩ := hp5
    refine r_aload_n (dc dkX13_feed 26 rfl) rfl (np 48 rfl ?_)
    refine r_gI 2 (dc dkX13_feed 27 rfl) flX13_98 fd_111_2 rfl (np 51 rfl ?_)
    exact r_iret (dc dkX13_feed 28 rfl) rfl (by
        have S : mdT [0, 2] [112] σ τ5 := ((((((mdT.refl _ _ _).put (by decide)).tr (s1.wide (by decide) (by decide))).tr (s2.wide (by decide) (by decide))).tr (s3.wide (by decide) (by decide))).tr (s4.wide (by decide) (by decide))).tr (s5.wide (by decide) (by decide))
        refine ⟨fun _ => ⟨by rw [l5]; congr 2; omega, S, by rw [s5.2 0 (by decide), s4.2 0 (by decide), s3.2 0 (by decide), s2.2 0 (by decide), s1.2 0 (by decide), ju_at], by omega, fun j hj => by rw [o5 j (by omega), o4 j (by omega), o3 j (by omega), o2 j (by omega), o1 j hj, ju_off _ _ _ _ _ (by decide)], fun i i0 i1 => ⟨?_, ?_, ?_, ?_, ?_⟩⟩, fun z => absurd h15 z⟩
        · rw [o5 _ (by omega), o4 _ (by omega), o3 _ (by omega), o2 _ (by omega)]; exact b1 i i0 i1
        · rw [o5 _ (by omega), o4 _ (by omega), o3 _ (by omega)]; exact b2 i i0 i1
        · rw [o5 _ (by omega), o4 _ (by omega), show σ 111 2 + 8 + i = σ 111 2 + 4 + 4 + i by omega]; exact b3 i i0 i1
        · rw [o5 _ (by omega), show σ 111 2 + 12 + i = σ 111 2 + 4 + 4 + 4 + i by omega]; exact b4 i i0 i1
        · rw [show σ 111 2 + 16 + i = σ 111 2 + 4 + 4 + 4 + 4 + i by omega]; exact b5 i i0 i1)
  refine r_iconst (dc dkX13_feed 9 rfl) (np 19 rfl ?_)
  exact r_iret (dc dkX13_feed 10 rfl) rfl (by rw [e2] at h15; exact ⟨fun z => absurd z (by omega), fun _ => ⟨rfl, rfl⟩⟩)
