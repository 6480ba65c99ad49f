theorem gd_step {a b : Int} (ha : 0 ≤ a) (hb : 0 < b) : gd b (a % b) = gd a b := by
  unfold gd
  obtain ⟨m, rfl⟩ := Int.eq_ofNat_of_zero_le ha
  obtain ⟨n, rfl⟩ := Int.eq_ofNat_of_zero_le (Int.le_of_lt hb)
  rw [← Int.natCast_emod]
  simp only [Int.gcd, Int.natAbs_natCast]
  rw [Nat.gcd_comm n, ← Nat.gcd_rec, Nat.gcd_comm]
theorem gd_abs (x y : Int) : gd x.natAbs y.natAbs = gd x y := by unfold gd; simp [Int.gcd]
theorem gd_0 {a : Int} (h : 0 ≤ a) : gd a 0 = a := by unfold gd; simp; omega
theorem iXor_neg {a b : Int} (ha : iR a) (hb : 0 ≤ b ∧ b ≤ 2147483647) : iXor a b < 0 ↔ a < 0 := by
  unfold iXor
  have e1 : (Int32.ofInt a).toInt = a := i_of ha
  have e2 : (Int32.ofInt b).toInt = b := i_of ⟨by omega, by omega⟩
  generalize Int32.ofInt a = x at e1 ⊢
  generalize Int32.ofInt b = z at e2 ⊢
  rw [← e1]
  have k1 : ∀ w : Int32, w.toInt < 0 ↔ w.toBitVec.msb = true := by
    intro w
    show w.toBitVec.toInt < 0 ↔ _
    rw [BitVec.msb_eq_toInt]
    simp
  rw [k1, k1, Int32.toBitVec_xor, BitVec.msb_xor]
  have k2 : z.toBitVec.msb = false := by
    cases h : z.toBitVec.msb with
    | false => rfl
    | true => exact absurd ((k1 z).mpr h) (by omega)
  rw [k2]
  simp
theorem tn_R {a b c : Int} (ha : isPg a) (hb : isPg b) (hc : isPg c) : iR (tn a b c) := by have := tn_b ha hb hc; omega
theorem al_R {a b c : Int} (ha : isPg a) (hb : isPg b) (hc : isPg c) : iR (al a b c) := by have := al_b ha hb hc; omega
theorem tn2_R {a b c a' b' c' : Int} (ha : isPg a) (hb : isPg b) (hc : isPg c) (ha' : isPg a') (hb' : isPg b') (hc' : isPg c') : iR (tn a b c * tn a' b' c') := by
  have t1 := tn_b ha hb hc
  have t2 := tn_b ha' hb' hc'
  have := mulb (A := 162) (B := 162) t1.1 t1.2 t2.1 t2.2
  omega
set_option maxRecDepth 100000 in
set_option maxHeartbeats 4000000 in
theorem c_J9_abs_0f7a4 {σ : jS} {x : Int} (hx : iR x) : Jp 1 miJ9_abs_0f7a4 [vI x] σ (vI x.natAbs) := by
  refine jm_ofF (Po := (jP (vI x.natAbs) σ)) (by decide +kernel) (Nat.le_of_ble_eq_true rfl) (lv := [(0, _)]) rfl ?_
  refine r_iload_n (dc dkJ9_abs_0f7a4 0 rfl) rfl (np 1 rfl ?_)
  refine r_if_ge (tgt := 9) (dc dkJ9_abs_0f7a4 1 rfl) rfl (by first | assumption | decide | omega) (fun h1 => ?_) (fun h1 => (np 4 rfl ?_))
  · skip
    refine r_iload_n (dc dkJ9_abs_0f7a4 5 rfl) rfl (np 10 rfl ?_)
    exact r_iret (dc dkJ9_abs_0f7a4 6 rfl) rfl ⟨by congr 2; omega, rfl⟩
  refine r_iload_n (dc dkJ9_abs_0f7a4 2 rfl) rfl (np 5 rfl ?_)
  refine r_ineg (dc dkJ9_abs_0f7a4 3 rfl) (np 6 rfl ?_)
  refine r_goto (tgt := 10) (dc dkJ9_abs_0f7a4 4 rfl) rfl ?_
  exact r_iret (dc dkJ9_abs_0f7a4 6 rfl) rfl ⟨by congr 2; omega, rfl⟩
set_option maxRecDepth 100000 in
set_option maxHeartbeats 4000000 in
theorem c_J9_max_7cf53 {σ : jS} {x z : Int} (hx : iR x) (hz : iR z) : Jp 1 miJ9_max_7cf53 [vI x, vI z] σ (vI (max x z)) := by
  refine jm_ofF (Po := (jP (vI (max x z)) σ)) (by decide +kernel) (Nat.le_of_ble_eq_true rfl) (lv := [(0, _), (1, _)]) rfl ?_
  refine r_iload_n (dc dkJ9_max_7cf53 0 rfl) rfl (np 1 rfl ?_)
  refine r_iload_n (dc dkJ9_max_7cf53 1 rfl) rfl (np 2 rfl ?_)
  refine r_icmp_lt (tgt := 9) (dc dkJ9_max_7cf53 2 rfl) rfl (by first | assumption | decide | omega) (by first | assumption | decide | omega) (fun h2 => ?_) (fun h2 => (np 5 rfl ?_))
  · skip
    refine r_iload_n (dc dkJ9_max_7cf53 5 rfl) rfl (np 10 rfl ?_)
    exact r_iret (dc dkJ9_max_7cf53 6 rfl) rfl ⟨by congr 2; omega, rfl⟩
  refine r_iload_n (dc dkJ9_max_7cf53 3 rfl) rfl (np 6 rfl ?_)
  refine r_goto (tgt := 10) (dc dkJ9_max_7cf53 4 rfl) rfl ?_
  exact r_iret (dc dkJ9_max_7cf53 6 rfl) rfl ⟨by congr 2; omega, rfl⟩
set_option maxRecDepth 100000 in
set_option maxHeartbeats 4000000 in
theorem c_J9_min_7cf53 {σ : jS} {x z : Int} (hx : iR x) (hz : iR z) : Jp 1 miJ9_min_7cf53 [vI x, vI z] σ (vI (min x z)) := by
  refine jm_ofF (Po := (jP (vI (min x z)) σ)) (by decide +kernel) (Nat.le_of_ble_eq_true rfl) (lv := [(0, _), (1, _)]) rfl ?_
  refine r_iload_n (dc dkJ9_min_7cf53 0 rfl) rfl (np 1 rfl ?_)
  refine r_iload_n (dc dkJ9_min_7cf53 1 rfl) rfl (np 2 rfl ?_)
  refine r_icmp_gt (tgt := 9) (dc dkJ9_min_7cf53 2 rfl) rfl (by first | assumption | decide | omega) (by first | assumption | decide | omega) (fun h2 => ?_) (fun h2 => (np 5 rfl ?_))
  · skip
    refine r_iload_n (dc dkJ9_min_7cf53 5 rfl) rfl (np 10 rfl ?_)
    exact r_iret (dc dkJ9_min_7cf53 6 rfl) rfl ⟨by congr 2; omega, rfl⟩
  refine r_iload_n (dc dkJ9_min_7cf53 3 rfl) rfl (np 6 rfl ?_)
  refine r_goto (tgt := 10) (dc dkJ9_min_7cf53 4 rfl) rfl ?_
  exact r_iret (dc dkJ9_min_7cf53 6 rfl) rfl ⟨by congr 2; omega, rfl⟩
set_option maxRecDepth 100000 in
set_option maxHeartbeats 4000000 in
theorem c_J9_floorMod_7cf53 {σ : jS} {x z : Int} (hx : iR x ∧ ¬ x = -2147483648) (hz : 0 < z ∧ z ≤ 2147483647) : Jp 1 miJ9_floorMod_7cf53 [vI x, vI z] σ (vI (x % z)) := by
  have hX := iXor_neg (a := x) (b := z) hx.1 ⟨by omega, by omega⟩
  have hXr : iR (iXor x z) := iR_of _
  have hm1 := Int.tmod_lt_of_pos x hz.1
  have hm0 : -z < x.tmod z := by have := Int.lt_tmod_of_pos x hz.1; omega
  have hm2 : 0 ≤ x → x.tmod z = x % z := fun h => Int.tmod_eq_emod_of_nonneg h
  have hm3 := Int.tdiv_mul_add_tmod x z
  have hm4 := Int.emod_nonneg x (show z ≠ 0 by omega)
  have hm5 := Int.emod_lt_of_pos x hz.1
  have hm6 : x < 0 → x.tmod z ≤ 0 := fun h => by have := Int.tmod_nonneg z (show 0 ≤ -x by omega); rw [Int.neg_tmod] at this; omega
  have hm7 : x % z = (x.tmod z) % z := by rw [show x.tmod z = x - x.tdiv z * z by omega]; simp
  have hm8 : (0 ≤ x ∨ x.tmod z = 0) → x.tmod z = x % z := fun q => q.elim hm2 (fun q => by rw [hm7, q, Int.zero_emod])
  refine jm_ofF (Po := (jP (vI (x % z)) σ)) (by decide +kernel) (Nat.le_of_ble_eq_true rfl) (lv := [(0, _), (1, _)]) rfl ?_
  refine r_iload_n (dc dkJ9_floorMod_7cf53 0 rfl) rfl (np 1 rfl ?_)
  refine r_iload_n (dc dkJ9_floorMod_7cf53 1 rfl) rfl (np 2 rfl ?_)
  refine r_irem (dc dkJ9_floorMod_7cf53 2 rfl) (by first | assumption | decide | omega) (by first | assumption | decide | omega) (np 3 rfl ?_)
  refine r_istore_n (lv' := [(2, _), (0, _), (1, _)]) (dc dkJ9_floorMod_7cf53 3 rfl) (Nat.le_of_ble_eq_true rfl) rfl (np 4 rfl ?_)
  refine r_iload_n (dc dkJ9_floorMod_7cf53 4 rfl) rfl (np 5 rfl ?_)
  refine r_iload_n (dc dkJ9_floorMod_7cf53 5 rfl) rfl (np 6 rfl ?_)
  refine r_ixor (dc dkJ9_floorMod_7cf53 6 rfl) (np 7 rfl ?_)
  refine r_if_ge (tgt := 18) (dc dkJ9_floorMod_7cf53 7 rfl) rfl hXr (fun h7 => ?_) (fun h7 => (np 10 rfl ?_))
  · skip
    refine r_iload_n (dc dkJ9_floorMod_7cf53 14 rfl) rfl (np 19 rfl ?_)
    exact r_iret (dc dkJ9_floorMod_7cf53 15 rfl) rfl ⟨congrArg (fun z => some (vI z)) (hm8 (by omega)), rfl⟩
  refine r_iload_n (dc dkJ9_floorMod_7cf53 8 rfl) rfl (np 11 rfl ?_)
  refine r_if_eq (tgt := 18) (dc dkJ9_floorMod_7cf53 9 rfl) rfl ⟨by omega, by omega⟩ (fun h11 => ?_) (fun h11 => (np 14 rfl ?_))
  · skip
    refine r_iload_n (dc dkJ9_floorMod_7cf53 14 rfl) rfl (np 19 rfl ?_)
    exact r_iret (dc dkJ9_floorMod_7cf53 15 rfl) rfl ⟨congrArg (fun z => some (vI z)) (hm8 (by omega)), rfl⟩
  refine r_iload_n (dc dkJ9_floorMod_7cf53 10 rfl) rfl (np 15 rfl ?_)
  refine r_iload_n (dc dkJ9_floorMod_7cf53 11 rfl) rfl (np 16 rfl ?_)
  refine r_iadd (dc dkJ9_floorMod_7cf53 12 rfl) (np 17 rfl ?_)
  exact r_iret (dc dkJ9_floorMod_7cf53 13 rfl) rfl ⟨by congr 2; have := Int.add_emod_right (x.tmod z) z; rw [hm7, ← this, Int.emod_eq_of_lt (by omega) (by omega)], rfl⟩
set_option maxRecDepth 100000 in
set_option maxHeartbeats 4000000 in
theorem c_X7_turn {σ : jS} {a b c : Int} (ha : isPg a) (hb : isPg b) (hc : isPg c) : Jp 1 miX7_turn [vI a, vI b, vI c] σ (vI (tn a b c)) := by
  refine jm_ofF (Po := (jP (vI (tn a b c)) σ)) (plainFor_of_name (by decide)) (Nat.le_of_ble_eq_true rfl) (lv := [(0, _), (1, _), (2, _)]) rfl ?_
  refine r_iload_n (dc dkX7_turn 0 rfl) rfl (np 1 rfl ?_)
  refine r_bipush (dc dkX7_turn 1 rfl) bp_10 (np 3 rfl ?_)
  refine r_iremn (dc dkX7_turn 2 rfl) (by first | assumption | decide | omega) (by first | assumption | decide | omega) (np 4 rfl ?_)
  refine r_istore_n (lv' := [(3, _), (0, _), (1, _), (2, _)]) (dc dkX7_turn 3 rfl) (Nat.le_of_ble_eq_true rfl) rfl (np 5 rfl ?_)
  refine r_iload_n (dc dkX7_turn 4 rfl) rfl (np 6 rfl ?_)
  refine r_bipush (dc dkX7_turn 5 rfl) bp_10 (np 8 rfl ?_)
  refine r_idivn (dc dkX7_turn 6 rfl) (by first | assumption | decide | omega) (by first | assumption | decide | omega) (np 9 rfl ?_)
  refine r_istore (lv' := [(4, _), (3, _), (0, _), (1, _), (2, _)]) (dc dkX7_turn 7 rfl) (Nat.le_of_ble_eq_true rfl) rfl (np 11 rfl ?_)
  refine r_iload_n (dc dkX7_turn 8 rfl) rfl (np 12 rfl ?_)
  refine r_bipush (dc dkX7_turn 9 rfl) bp_10 (np 14 rfl ?_)
  refine r_iremn (dc dkX7_turn 10 rfl) (by first | assumption | decide | omega) (by first | assumption | decide | omega) (np 15 rfl ?_)
  refine r_iload_n (dc dkX7_turn 11 rfl) rfl (np 16 rfl ?_)
  refine r_isub (dc dkX7_turn 12 rfl) (np 17 rfl ?_)
  refine r_iload_n (dc dkX7_turn 13 rfl) rfl (np 18 rfl ?_)
  refine r_bipush (dc dkX7_turn 14 rfl) bp_10 (np 20 rfl ?_)
  refine r_idivn (dc dkX7_turn 15 rfl) (by first | assumption | decide | omega) (by first | assumption | decide | omega) (np 21 rfl ?_)
  refine r_iload (dc dkX7_turn 16 rfl) rfl (np 23 rfl ?_)
  refine r_isub (dc dkX7_turn 17 rfl) (np 24 rfl ?_)
  refine r_imul (dc dkX7_turn 18 rfl) (np 25 rfl ?_)
  refine r_iload_n (dc dkX7_turn 19 rfl) rfl (np 26 rfl ?_)
  refine r_bipush (dc dkX7_turn 20 rfl) bp_10 (np 28 rfl ?_)
  refine r_idivn (dc dkX7_turn 21 rfl) (by first | assumption | decide | omega) (by first | assumption | decide | omega) (np 29 rfl ?_)
  refine r_iload (dc dkX7_turn 22 rfl) rfl (np 31 rfl ?_)
  refine r_isub (dc dkX7_turn 23 rfl) (np 32 rfl ?_)
  refine r_iload_n (dc dkX7_turn 24 rfl) rfl (np 33 rfl ?_)
  refine r_bipush (dc dkX7_turn 25 rfl) bp_10 (np 35 rfl ?_)
  refine r_iremn (dc dkX7_turn 26 rfl) (by first | assumption | decide | omega) (by first | assumption | decide | omega) (np 36 rfl ?_)
  refine r_iload_n (dc dkX7_turn 27 rfl) rfl (np 37 rfl ?_)
  refine r_isub (dc dkX7_turn 28 rfl) (np 38 rfl ?_)
  refine r_imul (dc dkX7_turn 29 rfl) (np 39 rfl ?_)
  refine r_isub (dc dkX7_turn 30 rfl) (np 40 rfl ?_)
  exact r_iret (dc dkX7_turn 31 rfl) rfl ⟨rfl, rfl⟩
set_option maxRecDepth 100000 in
set_option maxHeartbeats 4000000 in
theorem c_X7_along {σ : jS} {a b c : Int} (ha : isPg a) (hb : isPg b) (hc : isPg c) : Jp 1 miX7_along [vI a, vI b, vI c] σ (vI (al a b c)) := by
  refine jm_ofF (Po := (jP (vI (al a b c)) σ)) (plainFor_of_name (by decide)) (Nat.le_of_ble_eq_true rfl) (lv := [(0, _), (1, _), (2, _)]) rfl ?_
  refine r_iload_n (dc dkX7_along 0 rfl) rfl (np 1 rfl ?_)
  refine r_bipush (dc dkX7_along 1 rfl) bp_10 (np 3 rfl ?_)
  refine r_iremn (dc dkX7_along 2 rfl) (by first | assumption | decide | omega) (by first | assumption | decide | omega) (np 4 rfl ?_)
  refine r_istore_n (lv' := [(3, _), (0, _), (1, _), (2, _)]) (dc dkX7_along 3 rfl) (Nat.le_of_ble_eq_true rfl) rfl (np 5 rfl ?_)
  refine r_iload_n (dc dkX7_along 4 rfl) rfl (np 6 rfl ?_)
  refine r_bipush (dc dkX7_along 5 rfl) bp_10 (np 8 rfl ?_)
  refine r_idivn (dc dkX7_along 6 rfl) (by first | assumption | decide | omega) (by first | assumption | decide | omega) (np 9 rfl ?_)
  refine r_istore (lv' := [(4, _), (3, _), (0, _), (1, _), (2, _)]) (dc dkX7_along 7 rfl) (Nat.le_of_ble_eq_true rfl) rfl (np 11 rfl ?_)
  refine r_iload_n (dc dkX7_along 8 rfl) rfl (np 12 rfl ?_)
  refine r_bipush (dc dkX7_along 9 rfl) bp_10 (np 14 rfl ?_)
  refine r_iremn (dc dkX7_along 10 rfl) (by first | assumption | decide | omega) (by first | assumption | decide | omega) (np 15 rfl ?_)
  refine r_iload_n (dc dkX7_along 11 rfl) rfl (np 16 rfl ?_)
  refine r_isub (dc dkX7_along 12 rfl) (np 17 rfl ?_)
  refine r_iload_n (dc dkX7_along 13 rfl) rfl (np 18 rfl ?_)
  refine r_bipush (dc dkX7_along 14 rfl) bp_10 (np 20 rfl ?_)
  refine r_iremn (dc dkX7_along 15 rfl) (by first | assumption | decide | omega) (by first | assumption | decide | omega) (np 21 rfl ?_)
  refine r_iload_n (dc dkX7_along 16 rfl) rfl (np 22 rfl ?_)
  refine r_isub (dc dkX7_along 17 rfl) (np 23 rfl ?_)
  refine r_imul (dc dkX7_along 18 rfl) (np 24 rfl ?_)
  refine r_iload_n (dc dkX7_along 19 rfl) rfl (np 25 rfl ?_)
  refine r_bipush (dc dkX7_along 20 rfl) bp_10 (np 27 rfl ?_)
  refine r_idivn (dc dkX7_along 21 rfl) (by first | assumption | decide | omega) (by first | assumption | decide | omega) (np 28 rfl ?_)
  refine r_iload (dc dkX7_along 22 rfl) rfl (np 30 rfl ?_)
  refine r_isub (dc dkX7_along 23 rfl) (np 31 rfl ?_)
  refine r_iload_n (dc dkX7_along 24 rfl) rfl (np 32 rfl ?_)
  refine r_bipush (dc dkX7_along 25 rfl) bp_10 (np 34 rfl ?_)
  refine r_idivn (dc dkX7_along 26 rfl) (by first | assumption | decide | omega) (by first | assumption | decide | omega) (np 35 rfl ?_)
  refine r_iload (dc dkX7_along 27 rfl) rfl (np 37 rfl ?_)
  refine r_isub (dc dkX7_along 28 rfl) (np 38 rfl ?_)
  refine r_imul (dc dkX7_along 29 rfl) (np 39 rfl ?_)
  refine r_iadd (dc dkX7_along 30 rfl) (np 40 rfl ?_)
  exact r_iret (dc dkX7_along 31 rfl) rfl ⟨rfl, rfl⟩
set_option maxRecDepth 100000 in
set_option maxHeartbeats 4000000 in
theorem c_X7_square {σ : jS} {a b : Int} (ha : isPg a) (hb : isPg b) : Jp 2 miX7_square [vI a, vI b] σ (vI (al a b b)) := by
  refine jm_ofF (Po := (jP (vI (al a b b)) σ)) (plainFor_of_name (by decide)) (Nat.le_of_ble_eq_true rfl) (lv := [(0, _), (1, _)]) rfl ?_
  refine r_iload_n (dc dkX7_square 0 rfl) rfl (np 1 rfl ?_)
  refine r_iload_n (dc dkX7_square 1 rfl) rfl (np 2 rfl ?_)
  refine r_iload_n (dc dkX7_square 2 rfl) rfl (np 3 rfl ?_)
  refine r_pS3 (y' := miX7_along) (dc dkX7_square 3 rfl) mlX7_9 seX7_along (Nat.le_of_ble_eq_true rfl) (Nat.le_of_ble_eq_true rfl) (c_X7_along (by first | assumption | omega) (by first | assumption | omega) (by first | assumption | omega)) (np 6 rfl ?_)
  exact r_iret (dc dkX7_square 4 rfl) rfl ⟨rfl, rfl⟩
set_option maxRecDepth 100000 in
set_option maxHeartbeats 4000000 in
theorem c_X7_shoelace {σ : jS} {a b : Int} (ha : isPg a) (hb : isPg b) : Jp 1 miX7_shoelace [vI a, vI b] σ (vI (sh a b)) := by
  refine jm_ofF (Po := (jP (vI (sh a b)) σ)) (plainFor_of_name (by decide)) (Nat.le_of_ble_eq_true rfl) (lv := [(0, _), (1, _)]) rfl ?_
  refine r_iload_n (dc dkX7_shoelace 0 rfl) rfl (np 1 rfl ?_)
  refine r_bipush (dc dkX7_shoelace 1 rfl) bp_10 (np 3 rfl ?_)
  refine r_iremn (dc dkX7_shoelace 2 rfl) (by first | assumption | decide | omega) (by first | assumption | decide | omega) (np 4 rfl ?_)
  refine r_iload_n (dc dkX7_shoelace 3 rfl) rfl (np 5 rfl ?_)
  refine r_bipush (dc dkX7_shoelace 4 rfl) bp_10 (np 7 rfl ?_)
  refine r_idivn (dc dkX7_shoelace 5 rfl) (by first | assumption | decide | omega) (by first | assumption | decide | omega) (np 8 rfl ?_)
  refine r_imul (dc dkX7_shoelace 6 rfl) (np 9 rfl ?_)
  refine r_iload_n (dc dkX7_shoelace 7 rfl) rfl (np 10 rfl ?_)
  refine r_bipush (dc dkX7_shoelace 8 rfl) bp_10 (np 12 rfl ?_)
  refine r_iremn (dc dkX7_shoelace 9 rfl) (by first | assumption | decide | omega) (by first | assumption | decide | omega) (np 13 rfl ?_)
  refine r_iload_n (dc dkX7_shoelace 10 rfl) rfl (np 14 rfl ?_)
  refine r_bipush (dc dkX7_shoelace 11 rfl) bp_10 (np 16 rfl ?_)
  refine r_idivn (dc dkX7_shoelace 12 rfl) (by first | assumption | decide | omega) (by first | assumption | decide | omega) (np 17 rfl ?_)
  refine r_imul (dc dkX7_shoelace 13 rfl) (np 18 rfl ?_)
  refine r_isub (dc dkX7_shoelace 14 rfl) (np 19 rfl ?_)
  exact r_iret (dc dkX7_shoelace 15 rfl) rfl ⟨rfl, rfl⟩
set_option maxRecDepth 100000 in
set_option maxHeartbeats 4000000 in
theorem c_X7_isOn {σ : jS} {p a b : Int} (hp : isPg p) (ha : isPg a) (hb : isPg b) : Jp 2 miX7_isOn [vI p, vI a, vI b] σ (vI (bI (onS p a b))) := by
  have t1 := tn_b ha hb hp
  have t2 := al_b hp ha hb
  refine jm_ofF (Po := (jP (vI (bI (onS p a b))) σ)) (plainFor_of_name (by decide)) (Nat.le_of_ble_eq_true rfl) (lv := [(0, _), (1, _), (2, _)]) rfl ?_
  refine r_iload_n (dc dkX7_isOn 0 rfl) rfl (np 1 rfl ?_)
  refine r_iload_n (dc dkX7_isOn 1 rfl) rfl (np 2 rfl ?_)
  refine r_iload_n (dc dkX7_isOn 2 rfl) rfl (np 3 rfl ?_)
  refine r_pS3 (y' := miX7_turn) (dc dkX7_isOn 3 rfl) mlX7_21 seX7_turn (Nat.le_of_ble_eq_true rfl) (Nat.le_of_ble_eq_true rfl) (c_X7_turn (by first | assumption | omega) (by first | assumption | omega) (by first | assumption | omega)) (np 6 rfl ?_)
  refine r_if_ne (tgt := 22) (dc dkX7_isOn 4 rfl) rfl (by first | assumption | decide | omega) (fun h6 => ?_) (fun h6 => (np 9 rfl ?_))
  · skip
    refine r_iconst (dc dkX7_isOn 12 rfl) (np 23 rfl ?_)
    exact r_zret (dc dkX7_isOn 13 rfl) rfl (by first | exact Or.inl rfl | exact Or.inr rfl) ⟨by first | rw [bI_t ⟨by omega, by omega⟩] | rw [bI_f (fun q => by have := q.1; have := q.2; omega)], rfl⟩
  refine r_iload_n (dc dkX7_isOn 5 rfl) rfl (np 10 rfl ?_)
  refine r_iload_n (dc dkX7_isOn 6 rfl) rfl (np 11 rfl ?_)
  refine r_iload_n (dc dkX7_isOn 7 rfl) rfl (np 12 rfl ?_)
  refine r_pS3 (y' := miX7_along) (dc dkX7_isOn 8 rfl) mlX7_9 seX7_along (Nat.le_of_ble_eq_true rfl) (Nat.le_of_ble_eq_true rfl) (c_X7_along (by first | assumption | omega) (by first | assumption | omega) (by first | assumption | omega)) (np 15 rfl ?_)
  refine r_if_gt (tgt := 22) (dc dkX7_isOn 9 rfl) rfl (by first | assumption | decide | omega) (fun h15 => ?_) (fun h15 => (np 18 rfl ?_))
  · skip
    refine r_iconst (dc dkX7_isOn 12 rfl) (np 23 rfl ?_)
    exact r_zret (dc dkX7_isOn 13 rfl) rfl (by first | exact Or.inl rfl | exact Or.inr rfl) ⟨by first | rw [bI_t ⟨by omega, by omega⟩] | rw [bI_f (fun q => by have := q.1; have := q.2; omega)], rfl⟩
  refine r_iconst (dc dkX7_isOn 10 rfl) (np 19 rfl ?_)
  refine r_goto (tgt := 23) (dc dkX7_isOn 11 rfl) rfl ?_
  exact r_zret (dc dkX7_isOn 13 rfl) rfl (by first | exact Or.inl rfl | exact Or.inr rfl) ⟨by first | rw [bI_t ⟨by omega, by omega⟩] | rw [bI_f (fun q => by have := q.1; have := q.2; omega)], rfl⟩
set_option maxRecDepth 100000 in
set_option maxHeartbeats 4000000 in
theorem c_X7_parts {σ : jS} {a b : Int} (ha : isPg a) (hb : isPg b) : Jp 2 miX7_parts [vI a, vI b] σ (vI (pts a b)) := by
  refine jm_ofF (Po := (jP (vI (pts a b)) σ)) (plainFor_of_name (by decide)) (Nat.le_of_ble_eq_true rfl) (lv := [(0, _), (1, _)]) rfl ?_
  refine r_iload_n (dc dkX7_parts 0 rfl) rfl (np 1 rfl ?_)
  refine r_bipush (dc dkX7_parts 1 rfl) bp_10 (np 3 rfl ?_)
  refine r_iremn (dc dkX7_parts 2 rfl) (by first | assumption | decide | omega) (by first | assumption | decide | omega) (np 4 rfl ?_)
  refine r_iload_n (dc dkX7_parts 3 rfl) rfl (np 5 rfl ?_)
  refine r_bipush (dc dkX7_parts 4 rfl) bp_10 (np 7 rfl ?_)
  refine r_iremn (dc dkX7_parts 5 rfl) (by first | assumption | decide | omega) (by first | assumption | decide | omega) (np 8 rfl ?_)
  refine r_isub (dc dkX7_parts 6 rfl) (np 9 rfl ?_)
  refine r_pS1 (y' := miJ9_abs_0f7a4) (dc dkX7_parts 7 rfl) mlX7_15 seJ9_abs_0f7a4 (Nat.le_of_ble_eq_true rfl) (Nat.le_of_ble_eq_true rfl) (c_J9_abs_0f7a4 (by omega)) (np 12 rfl ?_)
  refine r_istore_n (lv' := [(2, _), (0, _), (1, _)]) (dc dkX7_parts 8 rfl) (Nat.le_of_ble_eq_true rfl) rfl (np 13 rfl ?_)
  refine r_iload_n (dc dkX7_parts 9 rfl) rfl (np 14 rfl ?_)
  refine r_bipush (dc dkX7_parts 10 rfl) bp_10 (np 16 rfl ?_)
  refine r_idivn (dc dkX7_parts 11 rfl) (by first | assumption | decide | omega) (by first | assumption | decide | omega) (np 17 rfl ?_)
  refine r_iload_n (dc dkX7_parts 12 rfl) rfl (np 18 rfl ?_)
  refine r_bipush (dc dkX7_parts 13 rfl) bp_10 (np 20 rfl ?_)
  refine r_idivn (dc dkX7_parts 14 rfl) (by first | assumption | decide | omega) (by first | assumption | decide | omega) (np 21 rfl ?_)
  refine r_isub (dc dkX7_parts 15 rfl) (np 22 rfl ?_)
  refine r_pS1 (y' := miJ9_abs_0f7a4) (dc dkX7_parts 16 rfl) mlX7_15 seJ9_abs_0f7a4 (Nat.le_of_ble_eq_true rfl) (Nat.le_of_ble_eq_true rfl) (c_J9_abs_0f7a4 (by omega)) (np 25 rfl ?_)
  refine r_istore_n (lv' := [(3, _), (2, _), (0, _), (1, _)]) (dc dkX7_parts 17 rfl) (Nat.le_of_ble_eq_true rfl) rfl (np 26 rfl ?_)
  refine r_iconst (dc dkX7_parts 18 rfl) (np 27 rfl ?_)
  refine r_istore (lv' := [(4, _), (3, _), (2, _), (0, _), (1, _)]) (dc dkX7_parts 19 rfl) (Nat.le_of_ble_eq_true rfl) rfl (np 29 rfl ?_)
  refine r_pick [3, 4, 2, 1, 0] (lv' := [(0, _), (1, _), (2, _), (3, _), (4, _)]) rfl ?_
  refine jlp3 (P := fun (u : Int) (w : Int) (i : Int) => jR _ _ _ 29 [(0, vI a), (1, vI b), (2, vI u), (3, vI w), (4, vI i)] [] σ) (I := fun (u : Int) (w : Int) (i : Int) => (0 ≤ i ∧ i ≤ 20) ∧ 0 ≤ u ∧ u ≤ 9 ∧ 0 ≤ w ∧ w ≤ 9 ∧ (w = 0 ∨ w + i ≤ 9) ∧ gd u w = pts a b) (fun (u : Int) (w : Int) (i : Int) => w.toNat) ?_ _ _ _ ⟨by omega, by omega, by omega, by omega, by omega, by omega, gd_abs _ _⟩
  intro u w i hI29 ih29
  refine r_iload (dc dkX7_parts 20 rfl) rfl (np 31 rfl ?_)
  refine r_bipush (dc dkX7_parts 21 rfl) bp_20 (np 33 rfl ?_)
  refine r_icmp_ge (tgt := 56) (dc dkX7_parts 22 rfl) rfl (by first | assumption | decide | omega) (by first | assumption | decide | omega) (fun h33 => ?_) (fun h33 => (np 36 rfl ?_))
  · skip
    refine r_iload_n (dc dkX7_parts 35 rfl) rfl (np 57 rfl ?_)
    exact r_iret (dc dkX7_parts 36 rfl) rfl ⟨congrArg (fun z => some (vI z)) (by rw [← hI29.2.2.2.2.2.2, show w = 0 by omega, gd_0 (by omega)]), rfl⟩
  refine r_iload_n (dc dkX7_parts 23 rfl) rfl (np 37 rfl ?_)
  refine r_if_eq (tgt := 56) (dc dkX7_parts 24 rfl) rfl (by first | assumption | decide | omega) (fun h37 => ?_) (fun h37 => (np 40 rfl ?_))
  · skip
    refine r_iload_n (dc dkX7_parts 35 rfl) rfl (np 57 rfl ?_)
    exact r_iret (dc dkX7_parts 36 rfl) rfl ⟨congrArg (fun z => some (vI z)) (by rw [← hI29.2.2.2.2.2.2, show w = 0 by omega, gd_0 (by omega)]), rfl⟩
  refine r_iload_n (dc dkX7_parts 25 rfl) rfl (np 41 rfl ?_)
  refine r_iload_n (dc dkX7_parts 26 rfl) rfl (np 42 rfl ?_)
  refine r_iremn (dc dkX7_parts 27 rfl) (by first | assumption | decide | omega) (by first | assumption | decide | omega) (np 43 rfl ?_)
  refine r_istore (lv' := [(5, _), (0, _), (1, _), (2, _), (3, _), (4, _)]) (dc dkX7_parts 28 rfl) (Nat.le_of_ble_eq_true rfl) rfl (np 45 rfl ?_)
  refine r_iload_n (dc dkX7_parts 29 rfl) rfl (np 46 rfl ?_)
  refine r_istore_n (lv' := [(2, _), (5, _), (0, _), (1, _), (3, _), (4, _)]) (dc dkX7_parts 30 rfl) (Nat.le_of_ble_eq_true rfl) rfl (np 47 rfl ?_)
  refine r_iload (dc dkX7_parts 31 rfl) rfl (np 49 rfl ?_)
  refine r_istore_n (lv' := [(3, _), (2, _), (5, _), (0, _), (1, _), (4, _)]) (dc dkX7_parts 32 rfl) (Nat.le_of_ble_eq_true rfl) rfl (np 50 rfl ?_)
  refine r_iinc (lv' := [(4, _), (3, _), (2, _), (5, _), (0, _), (1, _)]) (dc dkX7_parts 33 rfl) (Nat.le_of_ble_eq_true rfl) rfl rfl (np 53 rfl ?_)
  refine r_goto (tgt := 29) (dc dkX7_parts 34 rfl) rfl ?_
  refine r_pick [4, 5, 2, 1, 0] rfl ?_
  exact ih29 _ _ _ ⟨by omega, by omega, by omega, Int.emod_nonneg _ (by omega), by have := Int.emod_lt_of_pos u (show 0 < w by omega); omega, by have := Int.emod_lt_of_pos u (show 0 < w by omega); omega, by rw [gd_step (by omega) (by omega)]; exact hI29.2.2.2.2.2.2⟩ (by have := Int.emod_lt_of_pos u (show 0 < w by omega); have := Int.emod_nonneg u (show w ≠ 0 by omega); omega)
set_option maxRecDepth 100000 in
set_option maxHeartbeats 4000000 in
theorem c_X7_meet {σ : jS} {a b c e : Int} (ha : isPg a) (hb : isPg b) (hc : isPg c) (he : isPg e) : Jp 2 miX7_meet [vI a, vI b, vI c, vI e] σ (vI (mt a b c e)) := by
  have t1 : iR (tn a b c) := tn_R ha hb hc
  have t2 : iR (tn a b e) := tn_R ha hb he
  have t3 : iR (tn c e a) := tn_R hc he ha
  have t4 : iR (tn c e b) := tn_R hc he hb
  have q1 : iR (tn a b c * tn a b e) := tn2_R ha hb hc ha hb he
  have q2 : iR (tn c e a * tn c e b) := tn2_R hc he ha hc he hb
  have l1 : iR (al c a b) := al_R hc ha hb
  have l2 : iR (al e a b) := al_R he ha hb
  have l3 : iR (al a c e) := al_R ha hc he
  have l4 : iR (al b c e) := al_R hb hc he
  refine jm_ofF (Po := (jP (vI (mt a b c e)) σ)) (plainFor_of_name (by decide)) (Nat.le_of_ble_eq_true rfl) (lv := [(0, _), (1, _), (2, _), (3, _)]) rfl ?_
  refine r_iload_n (dc dkX7_meet 0 rfl) rfl (np 1 rfl ?_)
  refine r_iload_n (dc dkX7_meet 1 rfl) rfl (np 2 rfl ?_)
  refine r_iload_n (dc dkX7_meet 2 rfl) rfl (np 3 rfl ?_)
  refine r_pS3 (y' := miX7_turn) (dc dkX7_meet 3 rfl) mlX7_21 seX7_turn (Nat.le_of_ble_eq_true rfl) (Nat.le_of_ble_eq_true rfl) (c_X7_turn (by first | assumption | omega) (by first | assumption | omega) (by first | assumption | omega)) (np 6 rfl ?_)
  refine r_istore (lv' := [(4, _), (0, _), (1, _), (2, _), (3, _)]) (dc dkX7_meet 4 rfl) (Nat.le_of_ble_eq_true rfl) rfl (np 8 rfl ?_)
  refine r_iload_n (dc dkX7_meet 5 rfl) rfl (np 9 rfl ?_)
  refine r_iload_n (dc dkX7_meet 6 rfl) rfl (np 10 rfl ?_)
  refine r_iload_n (dc dkX7_meet 7 rfl) rfl (np 11 rfl ?_)
  refine r_pS3 (y' := miX7_turn) (dc dkX7_meet 8 rfl) mlX7_21 seX7_turn (Nat.le_of_ble_eq_true rfl) (Nat.le_of_ble_eq_true rfl) (c_X7_turn (by first | assumption | omega) (by first | assumption | omega) (by first | assumption | omega)) (np 14 rfl ?_)
  refine r_istore (lv' := [(5, _), (4, _), (0, _), (1, _), (2, _), (3, _)]) (dc dkX7_meet 9 rfl) (Nat.le_of_ble_eq_true rfl) rfl (np 16 rfl ?_)
  refine r_iload_n (dc dkX7_meet 10 rfl) rfl (np 17 rfl ?_)
  refine r_iload_n (dc dkX7_meet 11 rfl) rfl (np 18 rfl ?_)
  refine r_iload_n (dc dkX7_meet 12 rfl) rfl (np 19 rfl ?_)
  refine r_pS3 (y' := miX7_turn) (dc dkX7_meet 13 rfl) mlX7_21 seX7_turn (Nat.le_of_ble_eq_true rfl) (Nat.le_of_ble_eq_true rfl) (c_X7_turn (by first | assumption | omega) (by first | assumption | omega) (by first | assumption | omega)) (np 22 rfl ?_)
  refine r_istore (lv' := [(6, _), (5, _), (4, _), (0, _), (1, _), (2, _), (3, _)]) (dc dkX7_meet 14 rfl) (Nat.le_of_ble_eq_true rfl) rfl (np 24 rfl ?_)
  refine r_iload_n (dc dkX7_meet 15 rfl) rfl (np 25 rfl ?_)
  refine r_iload_n (dc dkX7_meet 16 rfl) rfl (np 26 rfl ?_)
  refine r_iload_n (dc dkX7_meet 17 rfl) rfl (np 27 rfl ?_)
  refine r_pS3 (y' := miX7_turn) (dc dkX7_meet 18 rfl) mlX7_21 seX7_turn (Nat.le_of_ble_eq_true rfl) (Nat.le_of_ble_eq_true rfl) (c_X7_turn (by first | assumption | omega) (by first | assumption | omega) (by first | assumption | omega)) (np 30 rfl ?_)
  refine r_istore (lv' := [(7, _), (6, _), (5, _), (4, _), (0, _), (1, _), (2, _), (3, _)]) (dc dkX7_meet 19 rfl) (Nat.le_of_ble_eq_true rfl) rfl (np 32 rfl ?_)
  refine r_iload (dc dkX7_meet 20 rfl) rfl (np 34 rfl ?_)
  refine r_iload (dc dkX7_meet 21 rfl) rfl (np 36 rfl ?_)
  refine r_imul (dc dkX7_meet 22 rfl) (np 37 rfl ?_)
  have jj50 : ¬ (tn a b c * tn a b e < 0 ∧ tn c e a * tn c e b < 0) → jR 2 miX7_meet (jP (vI (mt a b c e)) σ) 50 [(0, vI a), (1, vI b), (2, vI c), (3, vI e), (4, vI (tn a b c)), (5, vI (tn a b e)), (6, vI (tn c e a)), (7, vI (tn c e b))] [] σ := by
    intro hx
    have jj106 : (onS c a b ∨ onS e a b ∨ onS a c e ∨ onS b c e) → jR 2 miX7_meet (jP (vI (mt a b c e)) σ) 106 [(0, vI a), (1, vI b), (2, vI c), (3, vI e), (4, vI (tn a b c)), (5, vI (tn a b e)), (6, vI (tn c e a)), (7, vI (tn c e b))] [] σ := by
      intro hx9
      refine r_iconst (dc dkX7_meet 58 rfl) (np 107 rfl ?_)
      refine r_goto (tgt := 111) (dc dkX7_meet 59 rfl) rfl ?_
      refine r_istore (lv' := [(8, _), (0, _), (1, _), (2, _), (3, _), (4, _), (5, _), (6, _), (7, _)]) (dc dkX7_meet 61 rfl) (Nat.le_of_ble_eq_true rfl) rfl (np 113 rfl ?_)
      refine r_iload (dc dkX7_meet 62 rfl) rfl (np 115 rfl ?_)
      refine r_if_eq (tgt := 122) (dc dkX7_meet 63 rfl) rfl (by first | assumption | decide | omega) (fun h115 => ?_) (fun h115 => (np 118 rfl ?_))
      · exact absurd h115 (by decide)
      refine r_iconst (dc dkX7_meet 64 rfl) (np 119 rfl ?_)
      refine r_goto (tgt := 123) (dc dkX7_meet 65 rfl) rfl ?_
      exact r_iret (dc dkX7_meet 67 rfl) rfl ⟨congrArg (fun z => some (vI z)) (by unfold mt; rw [if_neg hx, if_pos hx9]), rfl⟩
    have jj64 : ¬ onS c a b → jR 2 miX7_meet (jP (vI (mt a b c e)) σ) 64 [(0, vI a), (1, vI b), (2, vI c), (3, vI e), (4, vI (tn a b c)), (5, vI (tn a b e)), (6, vI (tn c e a)), (7, vI (tn c e b))] [] σ := by
      intro hx1
      have jj78 : ¬ onS e a b → jR 2 miX7_meet (jP (vI (mt a b c e)) σ) 78 [(0, vI a), (1, vI b), (2, vI c), (3, vI e), (4, vI (tn a b c)), (5, vI (tn a b e)), (6, vI (tn c e a)), (7, vI (tn c e b))] [] σ := by
        intro hx2
        have jj92 : ¬ onS a c e → jR 2 miX7_meet (jP (vI (mt a b c e)) σ) 92 [(0, vI a), (1, vI b), (2, vI c), (3, vI e), (4, vI (tn a b c)), (5, vI (tn a b e)), (6, vI (tn c e a)), (7, vI (tn c e b))] [] σ := by
          intro hx3
          refine r_iload (dc dkX7_meet 51 rfl) rfl (np 94 rfl ?_)
          refine r_if_ne (tgt := 110) (dc dkX7_meet 52 rfl) rfl (by first | assumption | decide | omega) (fun h94 => ?_) (fun h94 => (np 97 rfl ?_))
          · skip
            refine r_iconst (dc dkX7_meet 60 rfl) (np 111 rfl ?_)
            refine r_istore (lv' := [(8, _), (0, _), (1, _), (2, _), (3, _), (4, _), (5, _), (6, _), (7, _)]) (dc dkX7_meet 61 rfl) (Nat.le_of_ble_eq_true rfl) rfl (np 113 rfl ?_)
            refine r_iload (dc dkX7_meet 62 rfl) rfl (np 115 rfl ?_)
            refine r_if_eq (tgt := 122) (dc dkX7_meet 63 rfl) rfl (by first | assumption | decide | omega) (fun h115 => ?_) (fun h115 => (np 118 rfl ?_))
            · skip
              refine r_iconst (dc dkX7_meet 66 rfl) (np 123 rfl ?_)
              exact r_iret (dc dkX7_meet 67 rfl) rfl ⟨congrArg (fun z => some (vI z)) (by unfold mt; rw [if_neg hx, if_neg (fun q => by rcases q with q | q | q | q; exact hx1 q; exact hx2 q; exact hx3 q; have := q.1; have := q.2; omega)]), rfl⟩
            exact absurd h115 (by decide)
          refine r_iload_n (dc dkX7_meet 53 rfl) rfl (np 98 rfl ?_)
          refine r_iload_n (dc dkX7_meet 54 rfl) rfl (np 99 rfl ?_)
          refine r_iload_n (dc dkX7_meet 55 rfl) rfl (np 100 rfl ?_)
          refine r_pS3 (y' := miX7_along) (dc dkX7_meet 56 rfl) mlX7_9 seX7_along (Nat.le_of_ble_eq_true rfl) (Nat.le_of_ble_eq_true rfl) (c_X7_along (by first | assumption | omega) (by first | assumption | omega) (by first | assumption | omega)) (np 103 rfl ?_)
          refine r_if_gt (tgt := 110) (dc dkX7_meet 57 rfl) rfl (by first | assumption | decide | omega) (fun h103 => ?_) (fun h103 => (np 106 rfl ?_))
          · skip
            refine r_iconst (dc dkX7_meet 60 rfl) (np 111 rfl ?_)
            refine r_istore (lv' := [(8, _), (0, _), (1, _), (2, _), (3, _), (4, _), (5, _), (6, _), (7, _)]) (dc dkX7_meet 61 rfl) (Nat.le_of_ble_eq_true rfl) rfl (np 113 rfl ?_)
            refine r_iload (dc dkX7_meet 62 rfl) rfl (np 115 rfl ?_)
            refine r_if_eq (tgt := 122) (dc dkX7_meet 63 rfl) rfl (by first | assumption | decide | omega) (fun h115 => ?_) (fun h115 => (np 118 rfl ?_))
            · skip
              refine r_iconst (dc dkX7_meet 66 rfl) (np 123 rfl ?_)
              exact r_iret (dc dkX7_meet 67 rfl) rfl ⟨congrArg (fun z => some (vI z)) (by unfold mt; rw [if_neg hx, if_neg (fun q => by rcases q with q | q | q | q; exact hx1 q; exact hx2 q; exact hx3 q; have := q.1; have := q.2; omega)]), rfl⟩
            exact absurd h115 (by decide)
          refine r_pick [0, 1, 2, 3, 4, 5, 6, 7] rfl ?_
          exact jj106 (by first | exact Or.inl ⟨by omega, by omega⟩ | exact Or.inr (Or.inl ⟨by omega, by omega⟩) | exact Or.inr (Or.inr (Or.inl ⟨by omega, by omega⟩)) | exact Or.inr (Or.inr (Or.inr ⟨by omega, by omega⟩)))
        refine r_iload (dc dkX7_meet 44 rfl) rfl (np 80 rfl ?_)
        refine r_if_ne (tgt := 92) (dc dkX7_meet 45 rfl) rfl (by first | assumption | decide | omega) (fun h80 => ?_) (fun h80 => (np 83 rfl ?_))
        · skip
          refine r_pick [0, 1, 2, 3, 4, 5, 6, 7] rfl ?_
          exact jj92 (fun q => by have := q.1; have := q.2; omega)
        refine r_iload_n (dc dkX7_meet 46 rfl) rfl (np 84 rfl ?_)
        refine r_iload_n (dc dkX7_meet 47 rfl) rfl (np 85 rfl ?_)
        refine r_iload_n (dc dkX7_meet 48 rfl) rfl (np 86 rfl ?_)
        refine r_pS3 (y' := miX7_along) (dc dkX7_meet 49 rfl) mlX7_9 seX7_along (Nat.le_of_ble_eq_true rfl) (Nat.le_of_ble_eq_true rfl) (c_X7_along (by first | assumption | omega) (by first | assumption | omega) (by first | assumption | omega)) (np 89 rfl ?_)
        refine r_if_le (tgt := 106) (dc dkX7_meet 50 rfl) rfl (by first | assumption | decide | omega) (fun h89 => ?_) (fun h89 => (np 92 rfl ?_))
        · skip
          refine r_pick [0, 1, 2, 3, 4, 5, 6, 7] rfl ?_
          exact jj106 (by first | exact Or.inl ⟨by omega, by omega⟩ | exact Or.inr (Or.inl ⟨by omega, by omega⟩) | exact Or.inr (Or.inr (Or.inl ⟨by omega, by omega⟩)) | exact Or.inr (Or.inr (Or.inr ⟨by omega, by omega⟩)))
        refine r_pick [0, 1, 2, 3, 4, 5, 6, 7] rfl ?_
        exact jj92 (fun q => by have := q.1; have := q.2; omega)
      refine r_iload (dc dkX7_meet 37 rfl) rfl (np 66 rfl ?_)
      refine r_if_ne (tgt := 78) (dc dkX7_meet 38 rfl) rfl (by first | assumption | decide | omega) (fun h66 => ?_) (fun h66 => (np 69 rfl ?_))
      · skip
        refine r_pick [0, 1, 2, 3, 4, 5, 6, 7] rfl ?_
        exact jj78 (fun q => by have := q.1; have := q.2; omega)
      refine r_iload_n (dc dkX7_meet 39 rfl) rfl (np 70 rfl ?_)
      refine r_iload_n (dc dkX7_meet 40 rfl) rfl (np 71 rfl ?_)
      refine r_iload_n (dc dkX7_meet 41 rfl) rfl (np 72 rfl ?_)
      refine r_pS3 (y' := miX7_along) (dc dkX7_meet 42 rfl) mlX7_9 seX7_along (Nat.le_of_ble_eq_true rfl) (Nat.le_of_ble_eq_true rfl) (c_X7_along (by first | assumption | omega) (by first | assumption | omega) (by first | assumption | omega)) (np 75 rfl ?_)
      refine r_if_le (tgt := 106) (dc dkX7_meet 43 rfl) rfl (by first | assumption | decide | omega) (fun h75 => ?_) (fun h75 => (np 78 rfl ?_))
      · skip
        refine r_pick [0, 1, 2, 3, 4, 5, 6, 7] rfl ?_
        exact jj106 (by first | exact Or.inl ⟨by omega, by omega⟩ | exact Or.inr (Or.inl ⟨by omega, by omega⟩) | exact Or.inr (Or.inr (Or.inl ⟨by omega, by omega⟩)) | exact Or.inr (Or.inr (Or.inr ⟨by omega, by omega⟩)))
      refine r_pick [0, 1, 2, 3, 4, 5, 6, 7] rfl ?_
      exact jj78 (fun q => by have := q.1; have := q.2; omega)
    refine r_iload (dc dkX7_meet 30 rfl) rfl (np 52 rfl ?_)
    refine r_if_ne (tgt := 64) (dc dkX7_meet 31 rfl) rfl (by first | assumption | decide | omega) (fun h52 => ?_) (fun h52 => (np 55 rfl ?_))
    · skip
      refine r_pick [0, 1, 2, 3, 4, 5, 6, 7] rfl ?_
      exact jj64 (fun q => by have := q.1; have := q.2; omega)
    refine r_iload_n (dc dkX7_meet 32 rfl) rfl (np 56 rfl ?_)
    refine r_iload_n (dc dkX7_meet 33 rfl) rfl (np 57 rfl ?_)
    refine r_iload_n (dc dkX7_meet 34 rfl) rfl (np 58 rfl ?_)
    refine r_pS3 (y' := miX7_along) (dc dkX7_meet 35 rfl) mlX7_9 seX7_along (Nat.le_of_ble_eq_true rfl) (Nat.le_of_ble_eq_true rfl) (c_X7_along (by first | assumption | omega) (by first | assumption | omega) (by first | assumption | omega)) (np 61 rfl ?_)
    refine r_if_le (tgt := 106) (dc dkX7_meet 36 rfl) rfl (by first | assumption | decide | omega) (fun h61 => ?_) (fun h61 => (np 64 rfl ?_))
    · skip
      refine r_pick [0, 1, 2, 3, 4, 5, 6, 7] rfl ?_
      exact jj106 (by first | exact Or.inl ⟨by omega, by omega⟩ | exact Or.inr (Or.inl ⟨by omega, by omega⟩) | exact Or.inr (Or.inr (Or.inl ⟨by omega, by omega⟩)) | exact Or.inr (Or.inr (Or.inr ⟨by omega, by omega⟩)))
    refine r_pick [0, 1, 2, 3, 4, 5, 6, 7] rfl ?_
    exact jj64 (fun q => by have := q.1; have := q.2; omega)
  refine r_if_ge (tgt := 50) (dc dkX7_meet 23 rfl) rfl (by first | assumption | decide | omega) (fun h37 => ?_) (fun h37 => (np 40 rfl ?_))
  · skip
    refine r_pick [4, 5, 6, 7, 3, 2, 1, 0] rfl ?_
    exact jj50 (by omega)
  refine r_iload (dc dkX7_meet 24 rfl) rfl (np 42 rfl ?_)
  refine r_iload (dc dkX7_meet 25 rfl) rfl (np 44 rfl ?_)
  refine r_imul (dc dkX7_meet 26 rfl) (np 45 rfl ?_)
  refine r_if_ge (tgt := 50) (dc dkX7_meet 27 rfl) rfl (by first | assumption | decide | omega) (fun h45 => ?_) (fun h45 => (np 48 rfl ?_))
  · skip
    refine r_pick [4, 5, 6, 7, 3, 2, 1, 0] rfl ?_
    exact jj50 (by omega)
  refine r_iconst (dc dkX7_meet 28 rfl) (np 49 rfl ?_)
  exact r_iret (dc dkX7_meet 29 rfl) rfl ⟨congrArg (fun z => some (vI z)) (by unfold mt; rw [if_pos (by omega)]), rfl⟩
