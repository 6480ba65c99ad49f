theorem al_sq (a b : Int) : (a % 10 - b % 10) * (a % 10 - b % 10) + (a / 10 - b / 10) * (a / 10 - b / 10) = al a b b := by
  unfold al dt
  rw [show b % 10 - a % 10 = -(a % 10 - b % 10) by omega, show b / 10 - a / 10 = -(a / 10 - b / 10) by omega, Int.neg_mul_neg, Int.neg_mul_neg]
set_option maxRecDepth 100000 in
set_option maxHeartbeats 4000000 in
theorem c_X13_corner {σ : jS} (hN : okN σ) {b i : Int} (hb : iR b) (hi : iR i) : Jm 4 miX13_corner [.ref 111, vI b, vI i] σ (fun r τ => τ = ju σ 111 0 0 ∧ r = some (vI (gte ((0 ≤ b ∧ b < σ 113 4) ∧ 0 ≤ i ∧ i < cn σ 113 b) (rP σ 113 b i) (-1)))) := by
  refine jm_ofF (Po := (fun r τ => τ = ju σ 111 0 0 ∧ r = some (vI (gte ((0 ≤ b ∧ b < σ 113 4) ∧ 0 ≤ i ∧ i < cn σ 113 b) (rP σ 113 b i) (-1))))) (plainFor_of_name (by decide)) (Nat.le_of_ble_eq_true rfl) (lv := [(0, _), (1, _), (2, _)]) rfl ?_
  refine r_aload_n (dc dkX13_corner 0 rfl) rfl (np 1 rfl ?_)
  refine r_iconst (dc dkX13_corner 1 rfl) (np 2 rfl ?_)
  refine r_pI 0 (dc dkX13_corner 2 rfl) fpX13_94 fd_111_0 rfl (np 5 rfl ?_)
  generalize hσ0 : ju σ 111 0 0 = σ0
  have e0 : σ0 113 = σ 113 := by rw [← hσ0]; exact ju_off _ _ _ _ _ (by decide)
  have hN0 := okN_c hN e0
  have e4 : σ0 113 4 = σ 113 4 := by rw [e0]
  have ec : ∀ b, cn σ0 113 b = cn σ 113 b := cn_c e0
  have eP : ∀ b, rP σ0 113 b = rP σ 113 b := rP_c2 e0
  have m1 := hN.1.2.2.2.2.1
  have w1 := hN.1.1
  have w2 := hN.1.2.1
  refine r_aload_n (dc dkX13_corner 3 rfl) rfl (np 6 rfl ?_)
  refine r_iload_n (dc dkX13_corner 4 rfl) rfl (np 7 rfl ?_)
  refine r_pV1 (y' := miX13_isBand) (dc dkX13_corner 5 rfl) mlX13_304 ceX13_isBand ob_111 (Nat.le_of_ble_eq_true rfl) (Nat.le_of_ble_eq_true rfl) (c_X13_isBand hN0 (by omega)) (np 10 rfl ?_)
  refine r_bz (tgt := 45) (dc dkX13_corner 6 rfl) rfl (fun h10 => ?_) (fun h10 => (np 13 rfl ?_))
  · skip
    refine r_iconst (dc dkX13_corner 26 rfl) (np 46 rfl ?_)
    exact r_iret (dc dkX13_corner 27 rfl) rfl ⟨rfl, congrArg (fun z => some (vI z)) (by first | (rw [gte_t (by omega), eP]; omega; done) | (rw [gte_f (by omega)]; done) | (rw [e4] at h10; rw [gte_f (by omega)]; done))⟩
  rw [e4] at h10
  have nb := (hN.2 b (by omega) (by omega)).1
  have ecb := ec b
  have pg := rP_p (hN.2 b (by omega) (by omega)) i
  refine r_iload_n (dc dkX13_corner 7 rfl) rfl (np 14 rfl ?_)
  refine r_if_lt (tgt := 45) (dc dkX13_corner 8 rfl) rfl (by first | assumption | decide | omega) (fun h14 => ?_) (fun h14 => (np 17 rfl ?_))
  · skip
    refine r_iconst (dc dkX13_corner 26 rfl) (np 46 rfl ?_)
    exact r_iret (dc dkX13_corner 27 rfl) rfl ⟨rfl, congrArg (fun z => some (vI z)) (by first | (rw [gte_t (by omega), eP]; omega; done) | (rw [gte_f (by omega)]; done) | (rw [e4] at h10; rw [gte_f (by omega)]; done))⟩
  refine r_iload_n (dc dkX13_corner 9 rfl) rfl (np 18 rfl ?_)
  refine r_aload_n (dc dkX13_corner 10 rfl) rfl (np 19 rfl ?_)
  refine r_iload_n (dc dkX13_corner 11 rfl) rfl (np 20 rfl ?_)
  refine r_pV1 (y' := miX13_corners) (dc dkX13_corner 12 rfl) mlX13_279 ceX13_corners ob_111 (Nat.le_of_ble_eq_true rfl) (Nat.le_of_ble_eq_true rfl) (c_X13_corners (by omega)) (np 23 rfl ?_)
  refine r_icmp_ge (tgt := 45) (dc dkX13_corner 13 rfl) rfl (by first | assumption | decide | omega) (by first | assumption | decide | omega) (fun h23 => ?_) (fun h23 => (np 26 rfl ?_))
  · skip
    refine r_iconst (dc dkX13_corner 26 rfl) (np 46 rfl ?_)
    exact r_iret (dc dkX13_corner 27 rfl) rfl ⟨rfl, congrArg (fun z => some (vI z)) (by first | (rw [gte_t (by omega), eP]; omega; done) | (rw [gte_f (by omega)]; done) | (rw [e4] at h10; rw [gte_f (by omega)]; done))⟩
  refine r_bipush (dc dkX13_corner 14 rfl) bp_10 (np 28 rfl ?_)
  refine r_aload_n (dc dkX13_corner 15 rfl) rfl (np 29 rfl ?_)
  refine r_iload_n (dc dkX13_corner 16 rfl) rfl (np 30 rfl ?_)
  refine r_iload_n (dc dkX13_corner 17 rfl) rfl (np 31 rfl ?_)
  refine r_pV2 (y' := miX13_y) (dc dkX13_corner 18 rfl) mlX13_289 ceX13_y ob_111 (Nat.le_of_ble_eq_true rfl) (Nat.le_of_ble_eq_true rfl) (c_X13_y hN0 (by omega) (by omega) (by omega)) (np 34 rfl ?_)
  refine r_imul (dc dkX13_corner 19 rfl) (np 35 rfl ?_)
  refine r_aload_n (dc dkX13_corner 20 rfl) rfl (np 36 rfl ?_)
  refine r_iload_n (dc dkX13_corner 21 rfl) rfl (np 37 rfl ?_)
  refine r_iload_n (dc dkX13_corner 22 rfl) rfl (np 38 rfl ?_)
  refine r_pV2 (y' := miX13_x) (dc dkX13_corner 23 rfl) mlX13_285 ceX13_x ob_111 (Nat.le_of_ble_eq_true rfl) (Nat.le_of_ble_eq_true rfl) (c_X13_x hN0 (by omega) (by omega) (by omega)) (np 41 rfl ?_)
  refine r_iadd (dc dkX13_corner 24 rfl) (np 42 rfl ?_)
  refine r_goto (tgt := 46) (dc dkX13_corner 25 rfl) rfl ?_
  exact r_iret (dc dkX13_corner 27 rfl) rfl ⟨rfl, congrArg (fun z => some (vI z)) (by first | (rw [gte_t (by omega), eP]; omega; done) | (rw [gte_f (by omega)]; done) | (rw [e4] at h10; rw [gte_f (by omega)]; done))⟩
set_option maxRecDepth 100000 in
set_option maxHeartbeats 4000000 in
theorem c_X13_cross {σ : jS} (hN : okN σ) {a b w : Int} (ha : iR a) (hb : iR b) (hw : iR w) : Jm 7 miX13_cross [.ref 111, vI a, vI b, vI w] σ (fun r τ => τ = ju σ 111 0 0 ∧ r = some (vI (gte ((0 ≤ a ∧ a < σ 113 4) ∧ (0 ≤ b ∧ b < σ 113 4) ∧ ¬ a = b ∧ 0 ≤ w ∧ w ≤ 1) (meetN (cn σ 113 a) (rP σ 113 a) (cn σ 113 b) (rP σ 113 b) (w + 1)) (-1)))) := by
  refine jm_ofF (Po := (fun r τ => τ = ju σ 111 0 0 ∧ r = some (vI (gte ((0 ≤ a ∧ a < σ 113 4) ∧ (0 ≤ b ∧ b < σ 113 4) ∧ ¬ a = b ∧ 0 ≤ w ∧ w ≤ 1) (meetN (cn σ 113 a) (rP σ 113 a) (cn σ 113 b) (rP σ 113 b) (w + 1)) (-1))))) (plainFor_of_name (by decide)) (Nat.le_of_ble_eq_true rfl) (lv := [(0, _), (1, _), (2, _), (3, _)]) rfl ?_
  refine r_aload_n (dc dkX13_cross 0 rfl) rfl (np 1 rfl ?_)
  refine r_iconst (dc dkX13_cross 1 rfl) (np 2 rfl ?_)
  refine r_pI 0 (dc dkX13_cross 2 rfl) fpX13_94 fd_111_0 rfl (np 5 rfl ?_)
  generalize hσ0 : ju σ 111 0 0 = σ0
  have e0 : σ0 113 = σ 113 := by rw [← hσ0]; exact ju_off _ _ _ _ _ (by decide)
  have hN0 := okN_c hN e0
  have e4 : σ0 113 4 = σ 113 4 := by rw [e0]
  have ec : ∀ b, cn σ0 113 b = cn σ 113 b := cn_c e0
  have eP : ∀ b, rP σ0 113 b = rP σ 113 b := rP_c2 e0
  have m1 := hN.1.2.2.2.2.1
  have w1 := hN.1.1
  have w2 := hN.1.2.1
  refine r_aload_n (dc dkX13_cross 3 rfl) rfl (np 6 rfl ?_)
  refine r_iload_n (dc dkX13_cross 4 rfl) rfl (np 7 rfl ?_)
  refine r_pV1 (y' := miX13_isBand) (dc dkX13_cross 5 rfl) mlX13_304 ceX13_isBand ob_111 (Nat.le_of_ble_eq_true rfl) (Nat.le_of_ble_eq_true rfl) (c_X13_isBand hN0 (by omega)) (np 10 rfl ?_)
  refine r_bz (tgt := 47) (dc dkX13_cross 6 rfl) rfl (fun h10 => ?_) (fun h10 => (np 13 rfl ?_))
  · skip
    refine r_iconst (dc dkX13_cross 27 rfl) (np 48 rfl ?_)
    exact r_iret (dc dkX13_cross 28 rfl) rfl ⟨rfl, congrArg (fun z => some (vI z)) (by first | (rw [e4] at h10 h18; rw [gte_t ⟨h10, h18, h23, h32⟩, ec, ec, eP, eP]; done) | (rw [e4] at h10 h18; rw [gte_f (by omega)]; done) | (rw [e4] at h10; rw [gte_f (by omega)]; done))⟩
  refine r_aload_n (dc dkX13_cross 7 rfl) rfl (np 14 rfl ?_)
  refine r_iload_n (dc dkX13_cross 8 rfl) rfl (np 15 rfl ?_)
  refine r_pV1 (y' := miX13_isBand) (dc dkX13_cross 9 rfl) mlX13_304 ceX13_isBand ob_111 (Nat.le_of_ble_eq_true rfl) (Nat.le_of_ble_eq_true rfl) (c_X13_isBand hN0 (by omega)) (np 18 rfl ?_)
  refine r_bz (tgt := 47) (dc dkX13_cross 10 rfl) rfl (fun h18 => ?_) (fun h18 => (np 21 rfl ?_))
  · skip
    refine r_iconst (dc dkX13_cross 27 rfl) (np 48 rfl ?_)
    exact r_iret (dc dkX13_cross 28 rfl) rfl ⟨rfl, congrArg (fun z => some (vI z)) (by first | (rw [e4] at h10 h18; rw [gte_t ⟨h10, h18, h23, h32⟩, ec, ec, eP, eP]; done) | (rw [e4] at h10 h18; rw [gte_f (by omega)]; done) | (rw [e4] at h10; rw [gte_f (by omega)]; done))⟩
  refine r_iload_n (dc dkX13_cross 11 rfl) rfl (np 22 rfl ?_)
  refine r_iload_n (dc dkX13_cross 12 rfl) rfl (np 23 rfl ?_)
  refine r_icmp_eq (tgt := 47) (dc dkX13_cross 13 rfl) rfl (by first | assumption | decide | omega) (by first | assumption | decide | omega) (fun h23 => ?_) (fun h23 => (np 26 rfl ?_))
  · skip
    refine r_iconst (dc dkX13_cross 27 rfl) (np 48 rfl ?_)
    exact r_iret (dc dkX13_cross 28 rfl) rfl ⟨rfl, congrArg (fun z => some (vI z)) (by first | (rw [e4] at h10 h18; rw [gte_t ⟨h10, h18, h23, h32⟩, ec, ec, eP, eP]; done) | (rw [e4] at h10 h18; rw [gte_f (by omega)]; done) | (rw [e4] at h10; rw [gte_f (by omega)]; done))⟩
  refine r_iload_n (dc dkX13_cross 14 rfl) rfl (np 27 rfl ?_)
  refine r_iconst (dc dkX13_cross 15 rfl) (np 28 rfl ?_)
  refine r_iconst (dc dkX13_cross 16 rfl) (np 29 rfl ?_)
  refine r_pS3 (y' := miX13_isIn) (dc dkX13_cross 17 rfl) mlX13_168 seX13_isIn (Nat.le_of_ble_eq_true rfl) (Nat.le_of_ble_eq_true rfl) (c_X13_isIn (by omega) (by decide) (by decide)) (np 32 rfl ?_)
  refine r_bz (tgt := 47) (dc dkX13_cross 18 rfl) rfl (fun h32 => ?_) (fun h32 => (np 35 rfl ?_))
  · skip
    refine r_iconst (dc dkX13_cross 27 rfl) (np 48 rfl ?_)
    exact r_iret (dc dkX13_cross 28 rfl) rfl ⟨rfl, congrArg (fun z => some (vI z)) (by first | (rw [e4] at h10 h18; rw [gte_t ⟨h10, h18, h23, h32⟩, ec, ec, eP, eP]; done) | (rw [e4] at h10 h18; rw [gte_f (by omega)]; done) | (rw [e4] at h10; rw [gte_f (by omega)]; done))⟩
  refine r_aload_n (dc dkX13_cross 19 rfl) rfl (np 36 rfl ?_)
  refine r_iload_n (dc dkX13_cross 20 rfl) rfl (np 37 rfl ?_)
  refine r_iload_n (dc dkX13_cross 21 rfl) rfl (np 38 rfl ?_)
  refine r_iload_n (dc dkX13_cross 22 rfl) rfl (np 39 rfl ?_)
  refine r_iconst (dc dkX13_cross 23 rfl) (np 40 rfl ?_)
  refine r_iadd (dc dkX13_cross 24 rfl) (np 41 rfl ?_)
  refine r_pV3 (y' := miX13_crossings) (dc dkX13_cross 25 rfl) mlX13_319 ceX13_crossings ob_111 (Nat.le_of_ble_eq_true rfl) (Nat.le_of_ble_eq_true rfl) (c_X13_crossings hN0 (by omega) (by omega) (by omega) (by omega) (by omega)) (np 44 rfl ?_)
  refine r_goto (tgt := 48) (dc dkX13_cross 26 rfl) rfl ?_
  exact r_iret (dc dkX13_cross 28 rfl) rfl ⟨rfl, congrArg (fun z => some (vI z)) (by first | (rw [e4] at h10 h18; rw [gte_t ⟨h10, h18, h23, h32⟩, ec, ec, eP, eP]; done) | (rw [e4] at h10 h18; rw [gte_f (by omega)]; done) | (rw [e4] at h10; rw [gte_f (by omega)]; done))⟩
theorem freeR_c {σ τ : jS} (e : τ 113 = σ 113) : freeR τ = freeR σ := by
  unfold freeR
  simp only [e, cn_c e, rP_c2 e]
set_option maxRecDepth 100000 in
set_option maxHeartbeats 4000000 in
theorem c_X13_free {σ : jS} (hN : okN σ) : Jm 7 miX13_free [.ref 111] σ (fun r τ => τ = ju σ 111 0 0 ∧ r = some (vI (freeR σ))) := by
  refine jm_ofF (Po := (fun r τ => τ = ju σ 111 0 0 ∧ r = some (vI (freeR σ)))) (plainFor_of_name (by decide)) (Nat.le_of_ble_eq_true rfl) (lv := [(0, _)]) rfl ?_
  refine r_aload_n (dc dkX13_free 0 rfl) rfl (np 1 rfl ?_)
  refine r_iconst (dc dkX13_free 1 rfl) (np 2 rfl ?_)
  refine r_pI 0 (dc dkX13_free 2 rfl) fpX13_94 fd_111_0 rfl (np 5 rfl ?_)
  generalize hσ0 : ju σ 111 0 0 = σ0
  have e0 : σ0 113 = σ 113 := by rw [← hσ0]; exact ju_off _ _ _ _ _ (by decide)
  have hN0 := okN_c hN e0
  have e4 : σ0 113 4 = σ 113 4 := by rw [e0]
  have ec : ∀ b, cn σ0 113 b = cn σ 113 b := cn_c e0
  have eP : ∀ b, rP σ0 113 b = rP σ 113 b := rP_c2 e0
  have m1 := hN.1.2.2.2.2.1
  have w1 := hN.1.1
  have w2 := hN.1.2.1
  refine r_aload_n (dc dkX13_free 3 rfl) rfl (np 6 rfl ?_)
  refine r_pV0 (y' := miX13_freeMany) (dc dkX13_free 4 rfl) mlX13_374 ceX13_freeMany ob_111 (Nat.le_of_ble_eq_true rfl) (Nat.le_of_ble_eq_true rfl) (c_X13_freeMany hN0) (np 9 rfl ?_)
  exact r_iret (dc dkX13_free 5 rfl) rfl ⟨rfl, by rw [freeR_c e0]⟩
set_option maxRecDepth 100000 in
set_option maxHeartbeats 4000000 in
theorem c_X13_band {σ : jS} (hN : okN σ) {b w : Int} (hb : iR b) (hw : iR w) : Jm 7 miX13_band [.ref 111, vI b, vI w] σ (fun r τ => (((0 ≤ b ∧ b < σ 113 4) ∧ 0 ≤ w ∧ w ≤ 6) → τ = ju σ 111 0 0 ∧ r = some (vI (if w = 0 then cn σ 113 b else if w = 1 then ((areaS (cn σ 113 b) (rP σ 113 b)).natAbs : Int) else if w = 2 then onN (cn σ 113 b) (rP σ 113 b) else if w = 3 then ((areaS (cn σ 113 b) (rP σ 113 b)).natAbs - onN (cn σ 113 b) (rP σ 113 b) + 2).tdiv 2 else if w = 4 then bentR (cn σ 113 b) (rP σ 113 b) else if w = 5 then rightR (cn σ 113 b) (rP σ 113 b) else smI (fun x => gte (x = b) 0 (meetN (cn σ 113 b) (rP σ 113 b) (cn σ 113 x) (rP σ 113 x) 1)) (σ 113 4)))) ∧ (¬ ((0 ≤ b ∧ b < σ 113 4) ∧ 0 ≤ w ∧ w ≤ 6) → τ = ju σ 111 0 1 ∧ r = some (vI 0))) := by
  have m1 := hN.1.2.2.2.2.1
  refine jm_ofF (Po := (fun r τ => (((0 ≤ b ∧ b < σ 113 4) ∧ 0 ≤ w ∧ w ≤ 6) → τ = ju σ 111 0 0 ∧ r = some (vI (if w = 0 then cn σ 113 b else if w = 1 then ((areaS (cn σ 113 b) (rP σ 113 b)).natAbs : Int) else if w = 2 then onN (cn σ 113 b) (rP σ 113 b) else if w = 3 then ((areaS (cn σ 113 b) (rP σ 113 b)).natAbs - onN (cn σ 113 b) (rP σ 113 b) + 2).tdiv 2 else if w = 4 then bentR (cn σ 113 b) (rP σ 113 b) else if w = 5 then rightR (cn σ 113 b) (rP σ 113 b) else smI (fun x => gte (x = b) 0 (meetN (cn σ 113 b) (rP σ 113 b) (cn σ 113 x) (rP σ 113 x) 1)) (σ 113 4)))) ∧ (¬ ((0 ≤ b ∧ b < σ 113 4) ∧ 0 ≤ w ∧ w ≤ 6) → τ = ju σ 111 0 1 ∧ r = some (vI 0)))) (plainFor_of_name (by decide)) (Nat.le_of_ble_eq_true rfl) (lv := [(0, _), (1, _), (2, _)]) rfl ?_
  refine r_aload_n (dc dkX13_band 0 rfl) rfl (np 1 rfl ?_)
  refine r_iload_n (dc dkX13_band 1 rfl) rfl (np 2 rfl ?_)
  refine r_pV1 (y' := miX13_isBand) (dc dkX13_band 2 rfl) mlX13_304 ceX13_isBand ob_111 (Nat.le_of_ble_eq_true rfl) (Nat.le_of_ble_eq_true rfl) (c_X13_isBand hN (by omega)) (np 5 rfl ?_)
  refine r_bz (tgt := 18) (dc dkX13_band 3 rfl) rfl (fun h5 => ?_) (fun h5 => (np 8 rfl ?_))
  · skip
    refine r_aload_n (dc dkX13_band 9 rfl) rfl (np 19 rfl ?_)
    refine r_cV0 (y' := miX13_refuse) (dc dkX13_band 10 rfl) mlX13_307 ceX13_refuse ob_111 (Nat.le_of_ble_eq_true rfl) (Nat.le_of_ble_eq_true rfl) (c_X13_refuse ) (fun r τ2 hp2 => (np 22 rfl ?_))
    obtain ⟨hp2, rfl⟩ := hp2
    exact r_iret (dc dkX13_band 11 rfl) rfl ⟨fun z => absurd z (by omega), fun _ => ⟨hp2, rfl⟩⟩
  refine r_iload_n (dc dkX13_band 4 rfl) rfl (np 9 rfl ?_)
  refine r_iconst (dc dkX13_band 5 rfl) (np 10 rfl ?_)
  refine r_bipush (dc dkX13_band 6 rfl) bp_6 (np 12 rfl ?_)
  refine r_pS3 (y' := miX13_isIn) (dc dkX13_band 7 rfl) mlX13_168 seX13_isIn (Nat.le_of_ble_eq_true rfl) (Nat.le_of_ble_eq_true rfl) (c_X13_isIn (by omega) (by decide) (by decide)) (np 15 rfl ?_)
  refine r_bn (tgt := 23) (dc dkX13_band 8 rfl) rfl (fun h15 => ?_) (fun h15 => (np 18 rfl ?_))
  · skip
    refine r_aload_n (dc dkX13_band 12 rfl) rfl (np 24 rfl ?_)
    refine r_iconst (dc dkX13_band 13 rfl) (np 25 rfl ?_)
    refine r_pI 0 (dc dkX13_band 14 rfl) fpX13_94 fd_111_0 rfl (np 28 rfl ?_)
    generalize hσ0 : ju σ 111 0 0 = σ0
    have e0 : σ0 113 = σ 113 := by rw [← hσ0]; exact ju_off _ _ _ _ _ (by decide)
    have hN0 := okN_c hN e0
    have e4 : σ0 113 4 = σ 113 4 := by rw [e0]
    have ec : ∀ b, cn σ0 113 b = cn σ 113 b := cn_c e0
    have eP : ∀ b, rP σ0 113 b = rP σ 113 b := rP_c2 e0
    have w1 := hN.1.1
    have w2 := hN.1.2.1
    refine r_iload_n (dc dkX13_band 15 rfl) rfl (np 29 rfl ?_)
    by_cases hs0 : w = 0
    · skip
      refine r_tableIn (tgt := 68) (off := 39) (dc dkX13_band 16 rfl) (by omega) (by omega) (by omega) (by rw [show ((w) - (0) : Int).toNat = 0 by omega]; rfl) rfl ?_
      refine r_aload_n (dc dkX13_band 17 rfl) rfl (np 69 rfl ?_)
      refine r_iload_n (dc dkX13_band 18 rfl) rfl (np 70 rfl ?_)
      refine r_pV1 (y' := miX13_corners) (dc dkX13_band 19 rfl) mlX13_279 ceX13_corners ob_111 (Nat.le_of_ble_eq_true rfl) (Nat.le_of_ble_eq_true rfl) (c_X13_corners (by omega)) (np 73 rfl ?_)
      exact r_iret (dc dkX13_band 20 rfl) rfl ⟨fun _ => ⟨rfl, congrArg (fun z => some (vI z)) (by first | (rw [if_pos (by omega), ec, eP]; done) | (rw [if_pos (by omega), ec]; done) | (rw [if_neg (by omega), if_pos (by omega), ec, eP]; done) | (rw [if_neg (by omega), if_pos (by omega), ec]; done) | (rw [if_neg (by omega), if_neg (by omega), if_pos (by omega), ec, eP]; done) | (rw [if_neg (by omega), if_neg (by omega), if_pos (by omega), ec]; done) | (rw [if_neg (by omega), if_neg (by omega), if_neg (by omega), if_pos (by omega), ec, eP]; done) | (rw [if_neg (by omega), if_neg (by omega), if_neg (by omega), if_pos (by omega), ec]; done) | (rw [if_neg (by omega), if_neg (by omega), if_neg (by omega), if_neg (by omega), if_pos (by omega), ec, eP]; done) | (rw [if_neg (by omega), if_neg (by omega), if_neg (by omega), if_neg (by omega), if_pos (by omega), ec]; done) | (rw [if_neg (by omega), if_neg (by omega), if_neg (by omega), if_neg (by omega), if_neg (by omega), if_pos (by omega), ec, eP]; done) | (rw [if_neg (by omega), if_neg (by omega), if_neg (by omega), if_neg (by omega), if_neg (by omega), if_pos (by omega), ec]; done))⟩, fun z => absurd ⟨h5, h15⟩ z⟩
    by_cases hs1 : w = 1
    · skip
      refine r_tableIn (tgt := 74) (off := 45) (dc dkX13_band 16 rfl) (by omega) (by omega) (by omega) (by rw [show ((w) - (0) : Int).toNat = 1 by omega]; rfl) rfl ?_
      refine r_aload_n (dc dkX13_band 21 rfl) rfl (np 75 rfl ?_)
      refine r_iload_n (dc dkX13_band 22 rfl) rfl (np 76 rfl ?_)
      refine r_pV1 (y' := miX13_area) (dc dkX13_band 23 rfl) mlX13_298 ceX13_area ob_111 (Nat.le_of_ble_eq_true rfl) (Nat.le_of_ble_eq_true rfl) (c_X13_area hN0 (by omega) (by omega)) (np 79 rfl ?_)
      exact r_iret (dc dkX13_band 24 rfl) rfl ⟨fun _ => ⟨rfl, congrArg (fun z => some (vI z)) (by first | (rw [if_pos (by omega), ec, eP]; done) | (rw [if_pos (by omega), ec]; done) | (rw [if_neg (by omega), if_pos (by omega), ec, eP]; done) | (rw [if_neg (by omega), if_pos (by omega), ec]; done) | (rw [if_neg (by omega), if_neg (by omega), if_pos (by omega), ec, eP]; done) | (rw [if_neg (by omega), if_neg (by omega), if_pos (by omega), ec]; done) | (rw [if_neg (by omega), if_neg (by omega), if_neg (by omega), if_pos (by omega), ec, eP]; done) | (rw [if_neg (by omega), if_neg (by omega), if_neg (by omega), if_pos (by omega), ec]; done) | (rw [if_neg (by omega), if_neg (by omega), if_neg (by omega), if_neg (by omega), if_pos (by omega), ec, eP]; done) | (rw [if_neg (by omega), if_neg (by omega), if_neg (by omega), if_neg (by omega), if_pos (by omega), ec]; done) | (rw [if_neg (by omega), if_neg (by omega), if_neg (by omega), if_neg (by omega), if_neg (by omega), if_pos (by omega), ec, eP]; done) | (rw [if_neg (by omega), if_neg (by omega), if_neg (by omega), if_neg (by omega), if_neg (by omega), if_pos (by omega), ec]; done))⟩, fun z => absurd ⟨h5, h15⟩ z⟩
    by_cases hs2 : w = 2
    · skip
      refine r_tableIn (tgt := 80) (off := 51) (dc dkX13_band 16 rfl) (by omega) (by omega) (by omega) (by rw [show ((w) - (0) : Int).toNat = 2 by omega]; rfl) rfl ?_
      refine r_aload_n (dc dkX13_band 25 rfl) rfl (np 81 rfl ?_)
      refine r_iload_n (dc dkX13_band 26 rfl) rfl (np 82 rfl ?_)
      refine r_pV1 (y' := miX13_onMany) (dc dkX13_band 27 rfl) mlX13_301 ceX13_onMany ob_111 (Nat.le_of_ble_eq_true rfl) (Nat.le_of_ble_eq_true rfl) (c_X13_onMany hN0 (by omega) (by omega)) (np 85 rfl ?_)
      exact r_iret (dc dkX13_band 28 rfl) rfl ⟨fun _ => ⟨rfl, congrArg (fun z => some (vI z)) (by first | (rw [if_pos (by omega), ec, eP]; done) | (rw [if_pos (by omega), ec]; done) | (rw [if_neg (by omega), if_pos (by omega), ec, eP]; done) | (rw [if_neg (by omega), if_pos (by omega), ec]; done) | (rw [if_neg (by omega), if_neg (by omega), if_pos (by omega), ec, eP]; done) | (rw [if_neg (by omega), if_neg (by omega), if_pos (by omega), ec]; done) | (rw [if_neg (by omega), if_neg (by omega), if_neg (by omega), if_pos (by omega), ec, eP]; done) | (rw [if_neg (by omega), if_neg (by omega), if_neg (by omega), if_pos (by omega), ec]; done) | (rw [if_neg (by omega), if_neg (by omega), if_neg (by omega), if_neg (by omega), if_pos (by omega), ec, eP]; done) | (rw [if_neg (by omega), if_neg (by omega), if_neg (by omega), if_neg (by omega), if_pos (by omega), ec]; done) | (rw [if_neg (by omega), if_neg (by omega), if_neg (by omega), if_neg (by omega), if_neg (by omega), if_pos (by omega), ec, eP]; done) | (rw [if_neg (by omega), if_neg (by omega), if_neg (by omega), if_neg (by omega), if_neg (by omega), if_pos (by omega), ec]; done))⟩, fun z => absurd ⟨h5, h15⟩ z⟩
    by_cases hs3 : w = 3
    · skip
      refine r_tableIn (tgt := 86) (off := 57) (dc dkX13_band 16 rfl) (by omega) (by omega) (by omega) (by rw [show ((w) - (0) : Int).toNat = 3 by omega]; rfl) rfl ?_
      refine r_aload_n (dc dkX13_band 29 rfl) rfl (np 87 rfl ?_)
      refine r_iload_n (dc dkX13_band 30 rfl) rfl (np 88 rfl ?_)
      refine r_pV1 (y' := miX13_within) (dc dkX13_band 31 rfl) mlX13_310 ceX13_within ob_111 (Nat.le_of_ble_eq_true rfl) (Nat.le_of_ble_eq_true rfl) (c_X13_within hN0 (by omega) (by omega)) (np 91 rfl ?_)
      exact r_iret (dc dkX13_band 32 rfl) rfl ⟨fun _ => ⟨rfl, congrArg (fun z => some (vI z)) (by first | (rw [if_pos (by omega), ec, eP]; done) | (rw [if_pos (by omega), ec]; done) | (rw [if_neg (by omega), if_pos (by omega), ec, eP]; done) | (rw [if_neg (by omega), if_pos (by omega), ec]; done) | (rw [if_neg (by omega), if_neg (by omega), if_pos (by omega), ec, eP]; done) | (rw [if_neg (by omega), if_neg (by omega), if_pos (by omega), ec]; done) | (rw [if_neg (by omega), if_neg (by omega), if_neg (by omega), if_pos (by omega), ec, eP]; done) | (rw [if_neg (by omega), if_neg (by omega), if_neg (by omega), if_pos (by omega), ec]; done) | (rw [if_neg (by omega), if_neg (by omega), if_neg (by omega), if_neg (by omega), if_pos (by omega), ec, eP]; done) | (rw [if_neg (by omega), if_neg (by omega), if_neg (by omega), if_neg (by omega), if_pos (by omega), ec]; done) | (rw [if_neg (by omega), if_neg (by omega), if_neg (by omega), if_neg (by omega), if_neg (by omega), if_pos (by omega), ec, eP]; done) | (rw [if_neg (by omega), if_neg (by omega), if_neg (by omega), if_neg (by omega), if_neg (by omega), if_pos (by omega), ec]; done))⟩, fun z => absurd ⟨h5, h15⟩ z⟩
    by_cases hs4 : w = 4
    · skip
      refine r_tableIn (tgt := 92) (off := 63) (dc dkX13_band 16 rfl) (by omega) (by omega) (by omega) (by rw [show ((w) - (0) : Int).toNat = 4 by omega]; rfl) rfl ?_
      refine r_aload_n (dc dkX13_band 33 rfl) rfl (np 93 rfl ?_)
      refine r_iload_n (dc dkX13_band 34 rfl) rfl (np 94 rfl ?_)
      refine r_pV1 (y' := miX13_bent) (dc dkX13_band 35 rfl) mlX13_313 ceX13_bent ob_111 (Nat.le_of_ble_eq_true rfl) (Nat.le_of_ble_eq_true rfl) (c_X13_bent hN0 (by omega) (by omega)) (np 97 rfl ?_)
      exact r_iret (dc dkX13_band 36 rfl) rfl ⟨fun _ => ⟨rfl, congrArg (fun z => some (vI z)) (by first | (rw [if_pos (by omega), ec, eP]; done) | (rw [if_pos (by omega), ec]; done) | (rw [if_neg (by omega), if_pos (by omega), ec, eP]; done) | (rw [if_neg (by omega), if_pos (by omega), ec]; done) | (rw [if_neg (by omega), if_neg (by omega), if_pos (by omega), ec, eP]; done) | (rw [if_neg (by omega), if_neg (by omega), if_pos (by omega), ec]; done) | (rw [if_neg (by omega), if_neg (by omega), if_neg (by omega), if_pos (by omega), ec, eP]; done) | (rw [if_neg (by omega), if_neg (by omega), if_neg (by omega), if_pos (by omega), ec]; done) | (rw [if_neg (by omega), if_neg (by omega), if_neg (by omega), if_neg (by omega), if_pos (by omega), ec, eP]; done) | (rw [if_neg (by omega), if_neg (by omega), if_neg (by omega), if_neg (by omega), if_pos (by omega), ec]; done) | (rw [if_neg (by omega), if_neg (by omega), if_neg (by omega), if_neg (by omega), if_neg (by omega), if_pos (by omega), ec, eP]; done) | (rw [if_neg (by omega), if_neg (by omega), if_neg (by omega), if_neg (by omega), if_neg (by omega), if_pos (by omega), ec]; done))⟩, fun z => absurd ⟨h5, h15⟩ z⟩
    by_cases hs5 : w = 5
    · skip
      refine r_tableIn (tgt := 98) (off := 69) (dc dkX13_band 16 rfl) (by omega) (by omega) (by omega) (by rw [show ((w) - (0) : Int).toNat = 5 by omega]; rfl) rfl ?_
      refine r_aload_n (dc dkX13_band 37 rfl) rfl (np 99 rfl ?_)
      refine r_iload_n (dc dkX13_band 38 rfl) rfl (np 100 rfl ?_)
      refine r_pV1 (y' := miX13_right) (dc dkX13_band 39 rfl) mlX13_316 ceX13_right ob_111 (Nat.le_of_ble_eq_true rfl) (Nat.le_of_ble_eq_true rfl) (c_X13_right hN0 (by omega) (by omega)) (np 103 rfl ?_)
      exact r_iret (dc dkX13_band 40 rfl) rfl ⟨fun _ => ⟨rfl, congrArg (fun z => some (vI z)) (by first | (rw [if_pos (by omega), ec, eP]; done) | (rw [if_pos (by omega), ec]; done) | (rw [if_neg (by omega), if_pos (by omega), ec, eP]; done) | (rw [if_neg (by omega), if_pos (by omega), ec]; done) | (rw [if_neg (by omega), if_neg (by omega), if_pos (by omega), ec, eP]; done) | (rw [if_neg (by omega), if_neg (by omega), if_pos (by omega), ec]; done) | (rw [if_neg (by omega), if_neg (by omega), if_neg (by omega), if_pos (by omega), ec, eP]; done) | (rw [if_neg (by omega), if_neg (by omega), if_neg (by omega), if_pos (by omega), ec]; done) | (rw [if_neg (by omega), if_neg (by omega), if_neg (by omega), if_neg (by omega), if_pos (by omega), ec, eP]; done) | (rw [if_neg (by omega), if_neg (by omega), if_neg (by omega), if_neg (by omega), if_pos (by omega), ec]; done) | (rw [if_neg (by omega), if_neg (by omega), if_neg (by omega), if_neg (by omega), if_neg (by omega), if_pos (by omega), ec, eP]; done) | (rw [if_neg (by omega), if_neg (by omega), if_neg (by omega), if_neg (by omega), if_neg (by omega), if_pos (by omega), ec]; done))⟩, fun z => absurd ⟨h5, h15⟩ z⟩
    refine r_tableOut (tgt := 104) (dc dkX13_band 16 rfl) (by first | assumption | decide | omega) (by omega) rfl ?_
    refine r_iconst (dc dkX13_band 41 rfl) (np 105 rfl ?_)
    refine r_istore_n (lv' := [(3, _), (0, _), (1, _), (2, _)]) (dc dkX13_band 42 rfl) (Nat.le_of_ble_eq_true rfl) rfl (np 106 rfl ?_)
    refine r_iconst (dc dkX13_band 43 rfl) (np 107 rfl ?_)
    refine r_istore (lv' := [(4, _), (3, _), (0, _), (1, _), (2, _)]) (dc dkX13_band 44 rfl) (Nat.le_of_ble_eq_true rfl) rfl (np 109 rfl ?_)
    refine r_pick [2, 3, 4, 1, 0] (lv' := [(0, _), (1, _), (2, _), (3, _), (4, _)]) rfl ?_
    refine jlp2 (P := fun (s : Int) (i : Int) => jR _ _ _ 109 [(0, .ref 111), (1, vI b), (2, vI w), (3, vI s), (4, vI i)] [] σ0) (I := fun (s : Int) (i : Int) => (0 ≤ i ∧ i ≤ σ 113 4) ∧ s = smI (fun x => gte (x = b) 0 (meetN (cn σ 113 b) (rP σ 113 b) (cn σ 113 x) (rP σ 113 x) 1)) i) (fun (s : Int) (i : Int) => (σ 113 4 - i).toNat) ?_ _ _ ⟨by omega, rfl⟩
    intro s i hI109 ih109
    refine r_iload (dc dkX13_band 45 rfl) rfl (np 111 rfl ?_)
    refine r_aload_n (dc dkX13_band 46 rfl) rfl (np 112 rfl ?_)
    refine r_pV0 (y' := miX13_bands) (dc dkX13_band 47 rfl) mlX13_276 ceX13_bands ob_111 (Nat.le_of_ble_eq_true rfl) (Nat.le_of_ble_eq_true rfl) (c_X13_bands ) (np 115 rfl ?_)
    refine r_icmp_ge (tgt := 141) (dc dkX13_band 48 rfl) rfl (by first | assumption | decide | omega) (by first | assumption | decide | omega) (fun h115 => ?_) (fun h115 => (np 118 rfl ?_))
    · skip
      refine r_iload_n (dc dkX13_band 62 rfl) rfl (np 142 rfl ?_)
      exact r_iret (dc dkX13_band 63 rfl) rfl ⟨fun _ => ⟨rfl, congrArg (fun z => some (vI z)) (by rw [if_neg (by omega), if_neg (by omega), if_neg (by omega), if_neg (by omega), if_neg (by omega), if_neg (by omega), hI109.2, show i = σ 113 4 by omega])⟩, fun z => absurd ⟨h5, h15⟩ z⟩
    refine r_iload (dc dkX13_band 49 rfl) rfl (np 120 rfl ?_)
    refine r_iload_n (dc dkX13_band 50 rfl) rfl (np 121 rfl ?_)
    refine r_icmp_eq (tgt := 135) (dc dkX13_band 51 rfl) rfl (by first | assumption | decide | omega) (by first | assumption | decide | omega) (fun h121 => ?_) (fun h121 => (np 124 rfl ?_))
    · skip
      refine r_iinc (lv' := [(4, _), (0, _), (1, _), (2, _), (3, _)]) (dc dkX13_band 60 rfl) (Nat.le_of_ble_eq_true rfl) rfl rfl (np 138 rfl ?_)
      refine r_goto (tgt := 109) (dc dkX13_band 61 rfl) rfl ?_
      refine r_pick [1, 2, 3, 4, 0] rfl ?_
      exact ih109 _ _ ⟨by omega, by rw [smI_s _ (by omega), ← hI109.2]; first | (rw [gte_t (by omega), Int.add_zero]; done) | (rw [gte_f (by omega), ec, ec, eP, eP]; done)⟩ (by omega)
    refine r_iload_n (dc dkX13_band 52 rfl) rfl (np 125 rfl ?_)
    refine r_aload_n (dc dkX13_band 53 rfl) rfl (np 126 rfl ?_)
    refine r_iload_n (dc dkX13_band 54 rfl) rfl (np 127 rfl ?_)
    refine r_iload (dc dkX13_band 55 rfl) rfl (np 129 rfl ?_)
    refine r_iconst (dc dkX13_band 56 rfl) (np 130 rfl ?_)
    refine r_pV3 (y' := miX13_crossings) (dc dkX13_band 57 rfl) mlX13_319 ceX13_crossings ob_111 (Nat.le_of_ble_eq_true rfl) (Nat.le_of_ble_eq_true rfl) (c_X13_crossings hN0 (by omega) (by omega) (by omega) (by omega) (by decide)) (np 133 rfl ?_)
    refine r_iadd (dc dkX13_band 58 rfl) (np 134 rfl ?_)
    refine r_istore_n (lv' := [(3, _), (0, _), (1, _), (2, _), (4, _)]) (dc dkX13_band 59 rfl) (Nat.le_of_ble_eq_true rfl) rfl (np 135 rfl ?_)
    refine r_iinc (lv' := [(4, _), (3, _), (0, _), (1, _), (2, _)]) (dc dkX13_band 60 rfl) (Nat.le_of_ble_eq_true rfl) rfl rfl (np 138 rfl ?_)
    refine r_goto (tgt := 109) (dc dkX13_band 61 rfl) rfl ?_
    refine r_pick [2, 3, 4, 1, 0] rfl ?_
    exact ih109 _ _ ⟨by omega, by rw [smI_s _ (by omega), ← hI109.2]; first | (rw [gte_t (by omega), Int.add_zero]; done) | (rw [gte_f (by omega), ec, ec, eP, eP]; done)⟩ (by omega)
  refine r_aload_n (dc dkX13_band 9 rfl) rfl (np 19 rfl ?_)
  refine r_cV0 (y' := miX13_refuse) (dc dkX13_band 10 rfl) mlX13_307 ceX13_refuse ob_111 (Nat.le_of_ble_eq_true rfl) (Nat.le_of_ble_eq_true rfl) (c_X13_refuse ) (fun r τ2 hp2 => (np 22 rfl ?_))
  obtain ⟨hp2, rfl⟩ := hp2
  exact r_iret (dc dkX13_band 11 rfl) rfl ⟨fun z => absurd z (by omega), fun _ => ⟨hp2, rfl⟩⟩
set_option maxRecDepth 100000 in
set_option maxHeartbeats 4000000 in
theorem c_X13_rim {σ : jS} (hN : okN σ) {b w : Int} (hb : iR b) (hw : iR w) : Jm 4 miX13_rim [.ref 111, vI b, vI w] σ (fun r τ => τ = ju σ 111 0 0 ∧ r = some (vI (gte ((0 ≤ b ∧ b < σ 113 4) ∧ 0 ≤ w ∧ w ≤ 3) (if w = 0 then mnN (fun i => rP σ 113 b i % 10) 99 (cn σ 113 b).toNat else if w = 1 then mnN (fun i => rP σ 113 b i / 10) 99 (cn σ 113 b).toNat else if w = 2 then mxN (fun i => rP σ 113 b i % 10) 0 (cn σ 113 b).toNat - mnN (fun i => rP σ 113 b i % 10) 99 (cn σ 113 b).toNat else mxN (fun i => rP σ 113 b i / 10) 0 (cn σ 113 b).toNat - mnN (fun i => rP σ 113 b i / 10) 99 (cn σ 113 b).toNat) (-1)))) := by
  refine jm_ofF (Po := (fun r τ => τ = ju σ 111 0 0 ∧ r = some (vI (gte ((0 ≤ b ∧ b < σ 113 4) ∧ 0 ≤ w ∧ w ≤ 3) (if w = 0 then mnN (fun i => rP σ 113 b i % 10) 99 (cn σ 113 b).toNat else if w = 1 then mnN (fun i => rP σ 113 b i / 10) 99 (cn σ 113 b).toNat else if w = 2 then mxN (fun i => rP σ 113 b i % 10) 0 (cn σ 113 b).toNat - mnN (fun i => rP σ 113 b i % 10) 99 (cn σ 113 b).toNat else mxN (fun i => rP σ 113 b i / 10) 0 (cn σ 113 b).toNat - mnN (fun i => rP σ 113 b i / 10) 99 (cn σ 113 b).toNat) (-1))))) (plainFor_of_name (by decide)) (Nat.le_of_ble_eq_true rfl) (lv := [(0, _), (1, _), (2, _)]) rfl ?_
  refine r_aload_n (dc dkX13_rim 0 rfl) rfl (np 1 rfl ?_)
  refine r_iconst (dc dkX13_rim 1 rfl) (np 2 rfl ?_)
  refine r_pI 0 (dc dkX13_rim 2 rfl) fpX13_94 fd_111_0 rfl (np 5 rfl ?_)
  refine r_abs (fun ρ => ρ = ju σ 111 0 0) rfl ?_
  intro σ0 hσ0
  have e0 : σ0 113 = σ 113 := by rw [hσ0]; exact ju_off _ _ _ _ _ (by decide)
  have hN0 := okN_c hN e0
  have e4 : σ0 113 4 = σ 113 4 := by rw [e0]
  have ec : ∀ b, cn σ0 113 b = cn σ 113 b := cn_c e0
  have eP : ∀ b, rP σ0 113 b = rP σ 113 b := rP_c2 e0
  have m1 := hN.1.2.2.2.2.1
  have w1 := hN.1.1
  have w2 := hN.1.2.1
  refine r_aload_n (dc dkX13_rim 3 rfl) rfl (np 6 rfl ?_)
  refine r_iload_n (dc dkX13_rim 4 rfl) rfl (np 7 rfl ?_)
  refine r_pV1 (y' := miX13_isBand) (dc dkX13_rim 5 rfl) mlX13_304 ceX13_isBand ob_111 (Nat.le_of_ble_eq_true rfl) (Nat.le_of_ble_eq_true rfl) (c_X13_isBand hN0 (by omega)) (np 10 rfl ?_)
  refine r_bz (tgt := 22) (dc dkX13_rim 6 rfl) rfl (fun h10 => ?_) (fun h10 => (np 13 rfl ?_))
  · skip
    refine r_iconst (dc dkX13_rim 12 rfl) (np 23 rfl ?_)
    exact r_iret (dc dkX13_rim 13 rfl) rfl ⟨hσ0, congrArg (fun z => some (vI z)) (by first | (rw [gte_t ⟨h10, h19⟩, if_pos (by omega), hI40.2.2.1, show i = cn σ 113 b by omega]; done) | (rw [gte_t ⟨h10, h19⟩, if_neg (by omega), if_pos (by omega), hI40.2.2.2.1, show i = cn σ 113 b by omega]; done) | (rw [gte_t ⟨h10, h19⟩, if_neg (by omega), if_neg (by omega), if_pos (by omega), hI40.2.2.2.2.1, hI40.2.2.1, show i = cn σ 113 b by omega]; done) | (rw [gte_t ⟨h10, h19⟩, if_neg (by omega), if_neg (by omega), if_neg (by omega), hI40.2.2.2.2.2, hI40.2.2.2.1, show i = cn σ 113 b by omega]; done) | (rw [e4] at h10; rw [gte_f (by omega)]; done) | (rw [gte_f (by omega)]; done))⟩
  refine r_iload_n (dc dkX13_rim 7 rfl) rfl (np 14 rfl ?_)
  refine r_iconst (dc dkX13_rim 8 rfl) (np 15 rfl ?_)
  refine r_iconst (dc dkX13_rim 9 rfl) (np 16 rfl ?_)
  refine r_pS3 (y' := miX13_isIn) (dc dkX13_rim 10 rfl) mlX13_168 seX13_isIn (Nat.le_of_ble_eq_true rfl) (Nat.le_of_ble_eq_true rfl) (c_X13_isIn (by omega) (by decide) (by decide)) (np 19 rfl ?_)
  refine r_bn (tgt := 24) (dc dkX13_rim 11 rfl) rfl (fun h19 => ?_) (fun h19 => (np 22 rfl ?_))
  · skip
    rw [e4] at h10
    have nb := (hN.2 b (by omega) (by omega)).1
    have ecb := ec b
    have ePb := eP b
    refine r_bipush (dc dkX13_rim 14 rfl) bp_99 (np 26 rfl ?_)
    refine r_istore_n (lv' := [(3, _), (0, _), (1, _), (2, _)]) (dc dkX13_rim 15 rfl) (Nat.le_of_ble_eq_true rfl) rfl (np 27 rfl ?_)
    refine r_bipush (dc dkX13_rim 16 rfl) bp_99 (np 29 rfl ?_)
    refine r_istore (lv' := [(4, _), (3, _), (0, _), (1, _), (2, _)]) (dc dkX13_rim 17 rfl) (Nat.le_of_ble_eq_true rfl) rfl (np 31 rfl ?_)
    refine r_iconst (dc dkX13_rim 18 rfl) (np 32 rfl ?_)
    refine r_istore (lv' := [(5, _), (4, _), (3, _), (0, _), (1, _), (2, _)]) (dc dkX13_rim 19 rfl) (Nat.le_of_ble_eq_true rfl) rfl (np 34 rfl ?_)
    refine r_iconst (dc dkX13_rim 20 rfl) (np 35 rfl ?_)
    refine r_istore (lv' := [(6, _), (5, _), (4, _), (3, _), (0, _), (1, _), (2, _)]) (dc dkX13_rim 21 rfl) (Nat.le_of_ble_eq_true rfl) rfl (np 37 rfl ?_)
    refine r_iconst (dc dkX13_rim 22 rfl) (np 38 rfl ?_)
    refine r_istore (lv' := [(7, _), (6, _), (5, _), (4, _), (3, _), (0, _), (1, _), (2, _)]) (dc dkX13_rim 23 rfl) (Nat.le_of_ble_eq_true rfl) rfl (np 40 rfl ?_)
    refine r_pick [5, 6, 7, 4, 3, 2, 1, 0] (lv' := [(0, _), (1, _), (2, _), (3, _), (4, _), (5, _), (6, _), (7, _)]) rfl ?_
    refine jlp5 (P := fun (l : Int) (t : Int) (r : Int) (u : Int) (i : Int) => jR _ _ _ 40 [(0, .ref 111), (1, vI b), (2, vI w), (3, vI l), (4, vI t), (5, vI r), (6, vI u), (7, vI i)] [] σ0) (I := fun (l : Int) (t : Int) (r : Int) (u : Int) (i : Int) => (0 ≤ i ∧ i ≤ cn σ 113 b) ∧ (0 ≤ l ∧ l ≤ 99 ∧ 0 ≤ t ∧ t ≤ 99 ∧ 0 ≤ r ∧ r ≤ 9 ∧ 0 ≤ u ∧ u ≤ 9) ∧ l = mnN (fun i => rP σ 113 b i % 10) 99 i.toNat ∧ t = mnN (fun i => rP σ 113 b i / 10) 99 i.toNat ∧ r = mxN (fun i => rP σ 113 b i % 10) 0 i.toNat ∧ u = mxN (fun i => rP σ 113 b i / 10) 0 i.toNat) (fun (l : Int) (t : Int) (r : Int) (u : Int) (i : Int) => (cn σ 113 b - i).toNat) ?_ _ _ _ _ _ ⟨by omega, by omega, rfl, rfl, rfl, rfl⟩
    intro l t r u i hI40 ih40
    refine r_iload (dc dkX13_rim 24 rfl) rfl (np 42 rfl ?_)
    refine r_aload_n (dc dkX13_rim 25 rfl) rfl (np 43 rfl ?_)
    refine r_iload_n (dc dkX13_rim 26 rfl) rfl (np 44 rfl ?_)
    refine r_pV1 (y' := miX13_corners) (dc dkX13_rim 27 rfl) mlX13_279 ceX13_corners ob_111 (Nat.le_of_ble_eq_true rfl) (Nat.le_of_ble_eq_true rfl) (c_X13_corners (by omega)) (np 47 rfl ?_)
    refine r_icmp_ge (tgt := 157) (dc dkX13_rim 28 rfl) rfl (by first | assumption | decide | omega) (by first | assumption | decide | omega) (fun h47 => ?_) (fun h47 => (np 50 rfl ?_))
    · skip
      refine r_iload_n (dc dkX13_rim 83 rfl) rfl (np 158 rfl ?_)
      refine r_if_ne (tgt := 165) (dc dkX13_rim 84 rfl) rfl (by first | assumption | decide | omega) (fun h158 => ?_) (fun h158 => (np 161 rfl ?_))
      · skip
        refine r_iload_n (dc dkX13_rim 87 rfl) rfl (np 166 rfl ?_)
        refine r_iconst (dc dkX13_rim 88 rfl) (np 167 rfl ?_)
        refine r_icmp_ne (tgt := 175) (dc dkX13_rim 89 rfl) rfl (by first | assumption | decide | omega) (by first | assumption | decide | omega) (fun h167 => ?_) (fun h167 => (np 170 rfl ?_))
        · skip
          refine r_iload_n (dc dkX13_rim 92 rfl) rfl (np 176 rfl ?_)
          refine r_iconst (dc dkX13_rim 93 rfl) (np 177 rfl ?_)
          refine r_icmp_ne (tgt := 187) (dc dkX13_rim 94 rfl) rfl (by first | assumption | decide | omega) (by first | assumption | decide | omega) (fun h177 => ?_) (fun h177 => (np 180 rfl ?_))
          · skip
            refine r_iload (dc dkX13_rim 99 rfl) rfl (np 189 rfl ?_)
            refine r_iload (dc dkX13_rim 100 rfl) rfl (np 191 rfl ?_)
            refine r_isub (dc dkX13_rim 101 rfl) (np 192 rfl ?_)
            exact r_iret (dc dkX13_rim 102 rfl) rfl ⟨hσ0, congrArg (fun z => some (vI z)) (by first | (rw [gte_t ⟨h10, h19⟩, if_pos (by omega), hI40.2.2.1, show i = cn σ 113 b by omega]; done) | (rw [gte_t ⟨h10, h19⟩, if_neg (by omega), if_pos (by omega), hI40.2.2.2.1, show i = cn σ 113 b by omega]; done) | (rw [gte_t ⟨h10, h19⟩, if_neg (by omega), if_neg (by omega), if_pos (by omega), hI40.2.2.2.2.1, hI40.2.2.1, show i = cn σ 113 b by omega]; done) | (rw [gte_t ⟨h10, h19⟩, if_neg (by omega), if_neg (by omega), if_neg (by omega), hI40.2.2.2.2.2, hI40.2.2.2.1, show i = cn σ 113 b by omega]; done) | (rw [e4] at h10; rw [gte_f (by omega)]; done) | (rw [gte_f (by omega)]; done))⟩
          refine r_iload (dc dkX13_rim 95 rfl) rfl (np 182 rfl ?_)
          refine r_iload_n (dc dkX13_rim 96 rfl) rfl (np 183 rfl ?_)
          refine r_isub (dc dkX13_rim 97 rfl) (np 184 rfl ?_)
          refine r_goto (tgt := 192) (dc dkX13_rim 98 rfl) rfl ?_
          exact r_iret (dc dkX13_rim 102 rfl) rfl ⟨hσ0, congrArg (fun z => some (vI z)) (by first | (rw [gte_t ⟨h10, h19⟩, if_pos (by omega), hI40.2.2.1, show i = cn σ 113 b by omega]; done) | (rw [gte_t ⟨h10, h19⟩, if_neg (by omega), if_pos (by omega), hI40.2.2.2.1, show i = cn σ 113 b by omega]; done) | (rw [gte_t ⟨h10, h19⟩, if_neg (by omega), if_neg (by omega), if_pos (by omega), hI40.2.2.2.2.1, hI40.2.2.1, show i = cn σ 113 b by omega]; done) | (rw [gte_t ⟨h10, h19⟩, if_neg (by omega), if_neg (by omega), if_neg (by omega), hI40.2.2.2.2.2, hI40.2.2.2.1, show i = cn σ 113 b by omega]; done) | (rw [e4] at h10; rw [gte_f (by omega)]; done) | (rw [gte_f (by omega)]; done))⟩
        refine r_iload (dc dkX13_rim 90 rfl) rfl (np 172 rfl ?_)
        refine r_goto (tgt := 192) (dc dkX13_rim 91 rfl) rfl ?_
        exact r_iret (dc dkX13_rim 102 rfl) rfl ⟨hσ0, congrArg (fun z => some (vI z)) (by first | (rw [gte_t ⟨h10, h19⟩, if_pos (by omega), hI40.2.2.1, show i = cn σ 113 b by omega]; done) | (rw [gte_t ⟨h10, h19⟩, if_neg (by omega), if_pos (by omega), hI40.2.2.2.1, show i = cn σ 113 b by omega]; done) | (rw [gte_t ⟨h10, h19⟩, if_neg (by omega), if_neg (by omega), if_pos (by omega), hI40.2.2.2.2.1, hI40.2.2.1, show i = cn σ 113 b by omega]; done) | (rw [gte_t ⟨h10, h19⟩, if_neg (by omega), if_neg (by omega), if_neg (by omega), hI40.2.2.2.2.2, hI40.2.2.2.1, show i = cn σ 113 b by omega]; done) | (rw [e4] at h10; rw [gte_f (by omega)]; done) | (rw [gte_f (by omega)]; done))⟩
      refine r_iload_n (dc dkX13_rim 85 rfl) rfl (np 162 rfl ?_)
      refine r_goto (tgt := 192) (dc dkX13_rim 86 rfl) rfl ?_
      exact r_iret (dc dkX13_rim 102 rfl) rfl ⟨hσ0, congrArg (fun z => some (vI z)) (by first | (rw [gte_t ⟨h10, h19⟩, if_pos (by omega), hI40.2.2.1, show i = cn σ 113 b by omega]; done) | (rw [gte_t ⟨h10, h19⟩, if_neg (by omega), if_pos (by omega), hI40.2.2.2.1, show i = cn σ 113 b by omega]; done) | (rw [gte_t ⟨h10, h19⟩, if_neg (by omega), if_neg (by omega), if_pos (by omega), hI40.2.2.2.2.1, hI40.2.2.1, show i = cn σ 113 b by omega]; done) | (rw [gte_t ⟨h10, h19⟩, if_neg (by omega), if_neg (by omega), if_neg (by omega), hI40.2.2.2.2.2, hI40.2.2.2.1, show i = cn σ 113 b by omega]; done) | (rw [e4] at h10; rw [gte_f (by omega)]; done) | (rw [gte_f (by omega)]; done))⟩
    have pg := rP_p (hN.2 b (by omega) (by omega)) i
    have pg0 := pg
    rw [← ePb] at pg0
    refine r_aload_n (dc dkX13_rim 29 rfl) rfl (np 51 rfl ?_)
    have jj72 : ∀ l2 : Int, l2 = min l (rP σ 113 b i % 10) → jR 4 miX13_rim (fun r τ => τ = ju σ 111 0 0 ∧ r = some (vI (gte ((0 ≤ b ∧ b < σ 113 4) ∧ 0 ≤ w ∧ w ≤ 3) (if w = 0 then mnN (fun i => rP σ 113 b i % 10) 99 (cn σ 113 b).toNat else if w = 1 then mnN (fun i => rP σ 113 b i / 10) 99 (cn σ 113 b).toNat else if w = 2 then mxN (fun i => rP σ 113 b i % 10) 0 (cn σ 113 b).toNat - mnN (fun i => rP σ 113 b i % 10) 99 (cn σ 113 b).toNat else mxN (fun i => rP σ 113 b i / 10) 0 (cn σ 113 b).toNat - mnN (fun i => rP σ 113 b i / 10) 99 (cn σ 113 b).toNat) (-1)))) 72 [(0, .ref 111), (1, vI b), (2, vI w), (4, vI t), (5, vI r), (6, vI u), (7, vI i)] [vI l2] σ0 := by
      intro l2 hl2
      refine r_istore_n (lv' := [(3, _), (0, _), (1, _), (2, _), (4, _), (5, _), (6, _), (7, _)]) (dc dkX13_rim 41 rfl) (Nat.le_of_ble_eq_true rfl) rfl (np 73 rfl ?_)
      have jj97 : ∀ t2 : Int, t2 = min t (rP σ 113 b i / 10) → jR 4 miX13_rim (fun r τ => τ = ju σ 111 0 0 ∧ r = some (vI (gte ((0 ≤ b ∧ b < σ 113 4) ∧ 0 ≤ w ∧ w ≤ 3) (if w = 0 then mnN (fun i => rP σ 113 b i % 10) 99 (cn σ 113 b).toNat else if w = 1 then mnN (fun i => rP σ 113 b i / 10) 99 (cn σ 113 b).toNat else if w = 2 then mxN (fun i => rP σ 113 b i % 10) 0 (cn σ 113 b).toNat - mnN (fun i => rP σ 113 b i % 10) 99 (cn σ 113 b).toNat else mxN (fun i => rP σ 113 b i / 10) 0 (cn σ 113 b).toNat - mnN (fun i => rP σ 113 b i / 10) 99 (cn σ 113 b).toNat) (-1)))) 97 [(0, .ref 111), (1, vI b), (2, vI w), (3, vI l2), (5, vI r), (6, vI u), (7, vI i)] [vI t2] σ0 := by
        intro t2 ht2
        refine r_istore (lv' := [(4, _), (0, _), (1, _), (2, _), (3, _), (5, _), (6, _), (7, _)]) (dc dkX13_rim 54 rfl) (Nat.le_of_ble_eq_true rfl) rfl (np 99 rfl ?_)
        have jj123 : ∀ r2 : Int, r2 = max r (rP σ 113 b i % 10) → jR 4 miX13_rim (fun r τ => τ = ju σ 111 0 0 ∧ r = some (vI (gte ((0 ≤ b ∧ b < σ 113 4) ∧ 0 ≤ w ∧ w ≤ 3) (if w = 0 then mnN (fun i => rP σ 113 b i % 10) 99 (cn σ 113 b).toNat else if w = 1 then mnN (fun i => rP σ 113 b i / 10) 99 (cn σ 113 b).toNat else if w = 2 then mxN (fun i => rP σ 113 b i % 10) 0 (cn σ 113 b).toNat - mnN (fun i => rP σ 113 b i % 10) 99 (cn σ 113 b).toNat else mxN (fun i => rP σ 113 b i / 10) 0 (cn σ 113 b).toNat - mnN (fun i => rP σ 113 b i / 10) 99 (cn σ 113 b).toNat) (-1)))) 123 [(0, .ref 111), (1, vI b), (2, vI w), (3, vI l2), (4, vI t2), (6, vI u), (7, vI i)] [vI r2] σ0 := by
          intro r2 hr2
          refine r_istore (lv' := [(5, _), (0, _), (1, _), (2, _), (3, _), (4, _), (6, _), (7, _)]) (dc dkX13_rim 67 rfl) (Nat.le_of_ble_eq_true rfl) rfl (np 125 rfl ?_)
          have jj149 : ∀ u2 : Int, u2 = max u (rP σ 113 b i / 10) → jR 4 miX13_rim (fun r τ => τ = ju σ 111 0 0 ∧ r = some (vI (gte ((0 ≤ b ∧ b < σ 113 4) ∧ 0 ≤ w ∧ w ≤ 3) (if w = 0 then mnN (fun i => rP σ 113 b i % 10) 99 (cn σ 113 b).toNat else if w = 1 then mnN (fun i => rP σ 113 b i / 10) 99 (cn σ 113 b).toNat else if w = 2 then mxN (fun i => rP σ 113 b i % 10) 0 (cn σ 113 b).toNat - mnN (fun i => rP σ 113 b i % 10) 99 (cn σ 113 b).toNat else mxN (fun i => rP σ 113 b i / 10) 0 (cn σ 113 b).toNat - mnN (fun i => rP σ 113 b i / 10) 99 (cn σ 113 b).toNat) (-1)))) 149 [(0, .ref 111), (1, vI b), (2, vI w), (3, vI l2), (4, vI t2), (5, vI r2), (7, vI i)] [vI u2] σ0 := by
            intro u2 hu2
            refine r_istore (lv' := [(6, _), (0, _), (1, _), (2, _), (3, _), (4, _), (5, _), (7, _)]) (dc dkX13_rim 80 rfl) (Nat.le_of_ble_eq_true rfl) rfl (np 151 rfl ?_)
            refine r_iinc (lv' := [(7, _), (6, _), (0, _), (1, _), (2, _), (3, _), (4, _), (5, _)]) (dc dkX13_rim 81 rfl) (Nat.le_of_ble_eq_true rfl) rfl rfl (np 154 rfl ?_)
            refine r_goto (tgt := 40) (dc dkX13_rim 82 rfl) rfl ?_
            refine r_pick [2, 3, 4, 5, 6, 7, 1, 0] rfl ?_
            exact ih40 _ _ _ _ _ ⟨by omega, by omega, by rw [mnN_s _ _ (by omega), ← hI40.2.2.1]; exact hl2, by rw [mnN_s _ _ (by omega), ← hI40.2.2.2.1]; exact ht2, by rw [mxN_s _ _ (by omega), ← hI40.2.2.2.2.1]; exact hr2, by rw [mxN_s _ _ (by omega), ← hI40.2.2.2.2.2]; exact hu2⟩ (by omega)
          refine r_aload_n (dc dkX13_rim 68 rfl) rfl (np 126 rfl ?_)
          refine r_iload_n (dc dkX13_rim 69 rfl) rfl (np 127 rfl ?_)
          refine r_iload (dc dkX13_rim 70 rfl) rfl (np 129 rfl ?_)
          refine r_pV2 (y' := miX13_y) (dc dkX13_rim 71 rfl) mlX13_289 ceX13_y ob_111 (Nat.le_of_ble_eq_true rfl) (Nat.le_of_ble_eq_true rfl) (c_X13_y hN0 (by omega) (by omega) (by omega)) (np 132 rfl ?_)
          refine r_iload (dc dkX13_rim 72 rfl) rfl (np 134 rfl ?_)
          refine r_icmp_le (tgt := 147) (dc dkX13_rim 73 rfl) rfl (by first | assumption | decide | omega) (by first | assumption | decide | omega) (fun h134 => ?_) (fun h134 => (np 137 rfl ?_))
          · skip
            refine r_iload (dc dkX13_rim 79 rfl) rfl (np 149 rfl ?_)
            refine r_pick [1, 2, 3, 4, 5, 0, 7] rfl ?_
            exact jj149 _ (by rw [ePb] at h134; first | (rw [ePb]; omega) | omega)
          refine r_aload_n (dc dkX13_rim 74 rfl) rfl (np 138 rfl ?_)
          refine r_iload_n (dc dkX13_rim 75 rfl) rfl (np 139 rfl ?_)
          refine r_iload (dc dkX13_rim 76 rfl) rfl (np 141 rfl ?_)
          refine r_pV2 (y' := miX13_y) (dc dkX13_rim 77 rfl) mlX13_289 ceX13_y ob_111 (Nat.le_of_ble_eq_true rfl) (Nat.le_of_ble_eq_true rfl) (c_X13_y hN0 (by omega) (by omega) (by omega)) (np 144 rfl ?_)
          refine r_goto (tgt := 149) (dc dkX13_rim 78 rfl) rfl ?_
          refine r_pick [1, 2, 3, 4, 5, 0, 7] rfl ?_
          exact jj149 _ (by rw [ePb] at h134; first | (rw [ePb]; omega) | omega)
        refine r_aload_n (dc dkX13_rim 55 rfl) rfl (np 100 rfl ?_)
        refine r_iload_n (dc dkX13_rim 56 rfl) rfl (np 101 rfl ?_)
        refine r_iload (dc dkX13_rim 57 rfl) rfl (np 103 rfl ?_)
        refine r_pV2 (y' := miX13_x) (dc dkX13_rim 58 rfl) mlX13_285 ceX13_x ob_111 (Nat.le_of_ble_eq_true rfl) (Nat.le_of_ble_eq_true rfl) (c_X13_x hN0 (by omega) (by omega) (by omega)) (np 106 rfl ?_)
        refine r_iload (dc dkX13_rim 59 rfl) rfl (np 108 rfl ?_)
        refine r_icmp_le (tgt := 121) (dc dkX13_rim 60 rfl) rfl (by first | assumption | decide | omega) (by first | assumption | decide | omega) (fun h108 => ?_) (fun h108 => (np 111 rfl ?_))
        · skip
          refine r_iload (dc dkX13_rim 66 rfl) rfl (np 123 rfl ?_)
          refine r_pick [1, 2, 3, 4, 0, 6, 7] rfl ?_
          exact jj123 _ (by rw [ePb] at h108; first | (rw [ePb]; omega) | omega)
        refine r_aload_n (dc dkX13_rim 61 rfl) rfl (np 112 rfl ?_)
        refine r_iload_n (dc dkX13_rim 62 rfl) rfl (np 113 rfl ?_)
        refine r_iload (dc dkX13_rim 63 rfl) rfl (np 115 rfl ?_)
        refine r_pV2 (y' := miX13_x) (dc dkX13_rim 64 rfl) mlX13_285 ceX13_x ob_111 (Nat.le_of_ble_eq_true rfl) (Nat.le_of_ble_eq_true rfl) (c_X13_x hN0 (by omega) (by omega) (by omega)) (np 118 rfl ?_)
        refine r_goto (tgt := 123) (dc dkX13_rim 65 rfl) rfl ?_
        refine r_pick [1, 2, 3, 4, 0, 6, 7] rfl ?_
        exact jj123 _ (by rw [ePb] at h108; first | (rw [ePb]; omega) | omega)
      refine r_aload_n (dc dkX13_rim 42 rfl) rfl (np 74 rfl ?_)
      refine r_iload_n (dc dkX13_rim 43 rfl) rfl (np 75 rfl ?_)
      refine r_iload (dc dkX13_rim 44 rfl) rfl (np 77 rfl ?_)
      refine r_pV2 (y' := miX13_y) (dc dkX13_rim 45 rfl) mlX13_289 ceX13_y ob_111 (Nat.le_of_ble_eq_true rfl) (Nat.le_of_ble_eq_true rfl) (c_X13_y hN0 (by omega) (by omega) (by omega)) (np 80 rfl ?_)
      refine r_iload (dc dkX13_rim 46 rfl) rfl (np 82 rfl ?_)
      refine r_icmp_ge (tgt := 95) (dc dkX13_rim 47 rfl) rfl (by first | assumption | decide | omega) (by first | assumption | decide | omega) (fun h82 => ?_) (fun h82 => (np 85 rfl ?_))
      · skip
        refine r_iload (dc dkX13_rim 53 rfl) rfl (np 97 rfl ?_)
        refine r_pick [1, 2, 3, 0, 5, 6, 7] rfl ?_
        exact jj97 _ (by rw [ePb] at h82; first | (rw [ePb]; omega) | omega)
      refine r_aload_n (dc dkX13_rim 48 rfl) rfl (np 86 rfl ?_)
      refine r_iload_n (dc dkX13_rim 49 rfl) rfl (np 87 rfl ?_)
      refine r_iload (dc dkX13_rim 50 rfl) rfl (np 89 rfl ?_)
      refine r_pV2 (y' := miX13_y) (dc dkX13_rim 51 rfl) mlX13_289 ceX13_y ob_111 (Nat.le_of_ble_eq_true rfl) (Nat.le_of_ble_eq_true rfl) (c_X13_y hN0 (by omega) (by omega) (by omega)) (np 92 rfl ?_)
      refine r_goto (tgt := 97) (dc dkX13_rim 52 rfl) rfl ?_
      refine r_pick [1, 2, 3, 0, 5, 6, 7] rfl ?_
      exact jj97 _ (by rw [ePb] at h82; first | (rw [ePb]; omega) | omega)
    refine r_iload_n (dc dkX13_rim 30 rfl) rfl (np 52 rfl ?_)
    refine r_iload (dc dkX13_rim 31 rfl) rfl (np 54 rfl ?_)
    refine r_pV2 (y' := miX13_x) (dc dkX13_rim 32 rfl) mlX13_285 ceX13_x ob_111 (Nat.le_of_ble_eq_true rfl) (Nat.le_of_ble_eq_true rfl) (c_X13_x hN0 (by omega) (by omega) (by omega)) (np 57 rfl ?_)
    refine r_iload_n (dc dkX13_rim 33 rfl) rfl (np 58 rfl ?_)
    refine r_icmp_ge (tgt := 71) (dc dkX13_rim 34 rfl) rfl (by first | assumption | decide | omega) (by first | assumption | decide | omega) (fun h58 => ?_) (fun h58 => (np 61 rfl ?_))
    · skip
      refine r_iload_n (dc dkX13_rim 40 rfl) rfl (np 72 rfl ?_)
      refine r_pick [0, 1, 2, 4, 5, 6, 7] rfl ?_
      exact jj72 _ (by rw [ePb] at h58; first | (rw [ePb]; omega) | omega)
    refine r_aload_n (dc dkX13_rim 35 rfl) rfl (np 62 rfl ?_)
    refine r_iload_n (dc dkX13_rim 36 rfl) rfl (np 63 rfl ?_)
    refine r_iload (dc dkX13_rim 37 rfl) rfl (np 65 rfl ?_)
    refine r_pV2 (y' := miX13_x) (dc dkX13_rim 38 rfl) mlX13_285 ceX13_x ob_111 (Nat.le_of_ble_eq_true rfl) (Nat.le_of_ble_eq_true rfl) (c_X13_x hN0 (by omega) (by omega) (by omega)) (np 68 rfl ?_)
    refine r_goto (tgt := 72) (dc dkX13_rim 39 rfl) rfl ?_
    refine r_pick [0, 1, 2, 4, 5, 6, 7] rfl ?_
    exact jj72 _ (by rw [ePb] at h58; first | (rw [ePb]; omega) | omega)
  refine r_iconst (dc dkX13_rim 12 rfl) (np 23 rfl ?_)
  exact r_iret (dc dkX13_rim 13 rfl) rfl ⟨hσ0, congrArg (fun z => some (vI z)) (by first | (rw [gte_t ⟨h10, h19⟩, if_pos (by omega), hI40.2.2.1, show i = cn σ 113 b by omega]; done) | (rw [gte_t ⟨h10, h19⟩, if_neg (by omega), if_pos (by omega), hI40.2.2.2.1, show i = cn σ 113 b by omega]; done) | (rw [gte_t ⟨h10, h19⟩, if_neg (by omega), if_neg (by omega), if_pos (by omega), hI40.2.2.2.2.1, hI40.2.2.1, show i = cn σ 113 b by omega]; done) | (rw [gte_t ⟨h10, h19⟩, if_neg (by omega), if_neg (by omega), if_neg (by omega), hI40.2.2.2.2.2, hI40.2.2.2.1, show i = cn σ 113 b by omega]; done) | (rw [e4] at h10; rw [gte_f (by omega)]; done) | (rw [gte_f (by omega)]; done))⟩
set_option maxRecDepth 100000 in
set_option maxHeartbeats 4000000 in
theorem c_X13_wide {σ : jS} (hN : okN σ) {b : Int} (hb : iR b) : Jm 4 miX13_wide [.ref 111, vI b] σ (fun r τ => τ = ju σ 111 0 0 ∧ r = some (vI (gte (0 ≤ b ∧ b < σ 113 4) (wdN (rP σ 113 b) (cn σ 113 b).toNat) (-1)))) := by
  refine jm_ofF (Po := (fun r τ => τ = ju σ 111 0 0 ∧ r = some (vI (gte (0 ≤ b ∧ b < σ 113 4) (wdN (rP σ 113 b) (cn σ 113 b).toNat) (-1))))) (plainFor_of_name (by decide)) (Nat.le_of_ble_eq_true rfl) (lv := [(0, _), (1, _)]) rfl ?_
  refine r_aload_n (dc dkX13_wide 0 rfl) rfl (np 1 rfl ?_)
  refine r_iconst (dc dkX13_wide 1 rfl) (np 2 rfl ?_)
  refine r_pI 0 (dc dkX13_wide 2 rfl) fpX13_94 fd_111_0 rfl (np 5 rfl ?_)
  generalize hσ0 : ju σ 111 0 0 = σ0
  have e0 : σ0 113 = σ 113 := by rw [← hσ0]; exact ju_off _ _ _ _ _ (by decide)
  have hN0 := okN_c hN e0
  have e4 : σ0 113 4 = σ 113 4 := by rw [e0]
  have ec : ∀ b, cn σ0 113 b = cn σ 113 b := cn_c e0
  have eP : ∀ b, rP σ0 113 b = rP σ 113 b := rP_c2 e0
  have m1 := hN.1.2.2.2.2.1
  have w1 := hN.1.1
  have w2 := hN.1.2.1
  refine r_aload_n (dc dkX13_wide 3 rfl) rfl (np 6 rfl ?_)
  refine r_iload_n (dc dkX13_wide 4 rfl) rfl (np 7 rfl ?_)
  refine r_pV1 (y' := miX13_isBand) (dc dkX13_wide 5 rfl) mlX13_304 ceX13_isBand ob_111 (Nat.le_of_ble_eq_true rfl) (Nat.le_of_ble_eq_true rfl) (c_X13_isBand hN0 (by omega)) (np 10 rfl ?_)
  refine r_bn (tgt := 15) (dc dkX13_wide 6 rfl) rfl (fun h10 => ?_) (fun h10 => (np 13 rfl ?_))
  · skip
    rw [e4] at h10
    have nb := (hN.2 b (by omega) (by omega)).1
    have ecb := ec b
    have ePb := eP b
    refine r_iconst (dc dkX13_wide 9 rfl) (np 16 rfl ?_)
    refine r_istore_n (lv' := [(2, _), (0, _), (1, _)]) (dc dkX13_wide 10 rfl) (Nat.le_of_ble_eq_true rfl) rfl (np 17 rfl ?_)
    refine r_iconst (dc dkX13_wide 11 rfl) (np 18 rfl ?_)
    refine r_istore_n (lv' := [(3, _), (2, _), (0, _), (1, _)]) (dc dkX13_wide 12 rfl) (Nat.le_of_ble_eq_true rfl) rfl (np 19 rfl ?_)
    refine r_pick [2, 3, 1, 0] (lv' := [(0, _), (1, _), (2, _), (3, _)]) rfl ?_
    refine jlp2 (P := fun (s : Int) (i : Int) => jR _ _ _ 19 [(0, .ref 111), (1, vI b), (2, vI s), (3, vI i)] [] σ0) (I := fun (s : Int) (i : Int) => (0 ≤ i ∧ i ≤ cn σ 113 b) ∧ s = wdN (rP σ 113 b) i.toNat ∧ 0 ≤ s ∧ s ≤ 162) (fun (s : Int) (i : Int) => (cn σ 113 b - i).toNat) ?_ _ _ ⟨by omega, rfl, by omega, by omega⟩
    intro s i hI19 ih19
    refine r_iload_n (dc dkX13_wide 13 rfl) rfl (np 20 rfl ?_)
    refine r_aload_n (dc dkX13_wide 14 rfl) rfl (np 21 rfl ?_)
    refine r_iload_n (dc dkX13_wide 15 rfl) rfl (np 22 rfl ?_)
    refine r_pV1 (y' := miX13_corners) (dc dkX13_wide 16 rfl) mlX13_279 ceX13_corners ob_111 (Nat.le_of_ble_eq_true rfl) (Nat.le_of_ble_eq_true rfl) (c_X13_corners (by omega)) (np 25 rfl ?_)
    refine r_icmp_ge (tgt := 108) (dc dkX13_wide 17 rfl) rfl (by first | assumption | decide | omega) (by first | assumption | decide | omega) (fun h25 => ?_) (fun h25 => (np 28 rfl ?_))
    · skip
      refine r_iload_n (dc dkX13_wide 64 rfl) rfl (np 109 rfl ?_)
      exact r_iret (dc dkX13_wide 65 rfl) rfl ⟨rfl, congrArg (fun z => some (vI z)) (by first | (rw [gte_t h10, hI19.2.1, show i = cn σ 113 b by omega]; done) | (rw [e4] at h10; rw [gte_f h10]; done))⟩
    refine r_iconst (dc dkX13_wide 18 rfl) (np 29 rfl ?_)
    refine r_istore (lv' := [(4, _), (0, _), (1, _), (2, _), (3, _)]) (dc dkX13_wide 19 rfl) (Nat.le_of_ble_eq_true rfl) rfl (np 31 rfl ?_)
    refine r_pick [1, 2, 3, 4, 0] (lv' := [(0, _), (1, _), (2, _), (3, _), (4, _)]) rfl ?_
    refine jlp2 (P := fun (x : Int) (j : Int) => jR _ _ _ 31 [(0, .ref 111), (1, vI b), (2, vI x), (3, vI i), (4, vI j)] [] σ0) (I := fun (x : Int) (j : Int) => (0 ≤ j ∧ j ≤ i) ∧ x = mxN (fun j => al (rP σ 113 b i) (rP σ 113 b j) (rP σ 113 b j)) s j.toNat ∧ 0 ≤ x ∧ x ≤ 162) (fun (x : Int) (j : Int) => (i - j).toNat) ?_ _ _ ⟨by omega, rfl, by omega, by omega⟩
    intro x j hI31 ih31
    refine r_iload (dc dkX13_wide 20 rfl) rfl (np 33 rfl ?_)
    refine r_iload_n (dc dkX13_wide 21 rfl) rfl (np 34 rfl ?_)
    refine r_icmp_ge (tgt := 102) (dc dkX13_wide 22 rfl) rfl (by first | assumption | decide | omega) (by first | assumption | decide | omega) (fun h34 => ?_) (fun h34 => (np 37 rfl ?_))
    · skip
      refine r_iinc (lv' := [(3, _), (0, _), (1, _), (2, _), (4, _)]) (dc dkX13_wide 62 rfl) (Nat.le_of_ble_eq_true rfl) rfl rfl (np 105 rfl ?_)
      refine r_goto (tgt := 19) (dc dkX13_wide 63 rfl) rfl ?_
      refine r_pick [1, 2, 3, 0] rfl ?_
      exact ih19 _ _ ⟨by omega, by rw [wdN_s _ (by omega), ← hI19.2.1, hI31.2.1, show j = i by omega], by omega, by omega⟩ (by omega)
    refine r_aload_n (dc dkX13_wide 23 rfl) rfl (np 38 rfl ?_)
    refine r_iload_n (dc dkX13_wide 24 rfl) rfl (np 39 rfl ?_)
    refine r_iload_n (dc dkX13_wide 25 rfl) rfl (np 40 rfl ?_)
    refine r_pV2 (y' := miX13_x) (dc dkX13_wide 26 rfl) mlX13_285 ceX13_x ob_111 (Nat.le_of_ble_eq_true rfl) (Nat.le_of_ble_eq_true rfl) (c_X13_x hN0 (by omega) (by omega) (by omega)) (np 43 rfl ?_)
    refine r_aload_n (dc dkX13_wide 27 rfl) rfl (np 44 rfl ?_)
    refine r_iload_n (dc dkX13_wide 28 rfl) rfl (np 45 rfl ?_)
    refine r_iload (dc dkX13_wide 29 rfl) rfl (np 47 rfl ?_)
    refine r_pV2 (y' := miX13_x) (dc dkX13_wide 30 rfl) mlX13_285 ceX13_x ob_111 (Nat.le_of_ble_eq_true rfl) (Nat.le_of_ble_eq_true rfl) (c_X13_x hN0 (by omega) (by omega) (by omega)) (np 50 rfl ?_)
    refine r_isub (dc dkX13_wide 31 rfl) (np 51 rfl ?_)
    refine r_istore (lv' := [(5, _), (0, _), (1, _), (2, _), (3, _), (4, _)]) (dc dkX13_wide 32 rfl) (Nat.le_of_ble_eq_true rfl) rfl (np 53 rfl ?_)
    refine r_aload_n (dc dkX13_wide 33 rfl) rfl (np 54 rfl ?_)
    refine r_iload_n (dc dkX13_wide 34 rfl) rfl (np 55 rfl ?_)
    refine r_iload_n (dc dkX13_wide 35 rfl) rfl (np 56 rfl ?_)
    refine r_pV2 (y' := miX13_y) (dc dkX13_wide 36 rfl) mlX13_289 ceX13_y ob_111 (Nat.le_of_ble_eq_true rfl) (Nat.le_of_ble_eq_true rfl) (c_X13_y hN0 (by omega) (by omega) (by omega)) (np 59 rfl ?_)
    refine r_aload_n (dc dkX13_wide 37 rfl) rfl (np 60 rfl ?_)
    refine r_iload_n (dc dkX13_wide 38 rfl) rfl (np 61 rfl ?_)
    refine r_iload (dc dkX13_wide 39 rfl) rfl (np 63 rfl ?_)
    refine r_pV2 (y' := miX13_y) (dc dkX13_wide 40 rfl) mlX13_289 ceX13_y ob_111 (Nat.le_of_ble_eq_true rfl) (Nat.le_of_ble_eq_true rfl) (c_X13_y hN0 (by omega) (by omega) (by omega)) (np 66 rfl ?_)
    refine r_isub (dc dkX13_wide 41 rfl) (np 67 rfl ?_)
    refine r_istore (lv' := [(6, _), (5, _), (0, _), (1, _), (2, _), (3, _), (4, _)]) (dc dkX13_wide 42 rfl) (Nat.le_of_ble_eq_true rfl) rfl (np 69 rfl ?_)
    refine r_iload (dc dkX13_wide 43 rfl) rfl (np 71 rfl ?_)
    refine r_iload (dc dkX13_wide 44 rfl) rfl (np 73 rfl ?_)
    refine r_imul (dc dkX13_wide 45 rfl) (np 74 rfl ?_)
    refine r_iload (dc dkX13_wide 46 rfl) rfl (np 76 rfl ?_)
    refine r_iload (dc dkX13_wide 47 rfl) rfl (np 78 rfl ?_)
    refine r_imul (dc dkX13_wide 48 rfl) (np 79 rfl ?_)
    refine r_iadd (dc dkX13_wide 49 rfl) (np 80 rfl ?_)
    refine r_eqI (al (rP σ 113 b i) (rP σ 113 b j) (rP σ 113 b j)) (by rw [ePb]; exact al_sq _ _) ?_
    have alb := al_b (rP_p (hN.2 b h10.1 h10.2) i) (rP_p (hN.2 b h10.1 h10.2) j) (rP_p (hN.2 b h10.1 h10.2) j)
    refine r_iload_n (dc dkX13_wide 50 rfl) rfl (np 81 rfl ?_)
    refine r_icmp_le (tgt := 96) (dc dkX13_wide 51 rfl) rfl (by first | assumption | decide | omega) (by first | assumption | decide | omega) (fun h81 => ?_) (fun h81 => (np 84 rfl ?_))
    · skip
      refine r_iinc (lv' := [(4, _), (6, _), (5, _), (0, _), (1, _), (2, _), (3, _)]) (dc dkX13_wide 60 rfl) (Nat.le_of_ble_eq_true rfl) rfl rfl (np 99 rfl ?_)
      refine r_goto (tgt := 31) (dc dkX13_wide 61 rfl) rfl ?_
      refine r_pick [3, 4, 5, 6, 0] rfl ?_
      exact ih31 _ _ ⟨by omega, by rw [mxN_s _ _ (by omega), ← hI31.2.1]; omega, by omega, by omega⟩ (by omega)
    refine r_iload (dc dkX13_wide 52 rfl) rfl (np 86 rfl ?_)
    refine r_iload (dc dkX13_wide 53 rfl) rfl (np 88 rfl ?_)
    refine r_imul (dc dkX13_wide 54 rfl) (np 89 rfl ?_)
    refine r_iload (dc dkX13_wide 55 rfl) rfl (np 91 rfl ?_)
    refine r_iload (dc dkX13_wide 56 rfl) rfl (np 93 rfl ?_)
    refine r_imul (dc dkX13_wide 57 rfl) (np 94 rfl ?_)
    refine r_iadd (dc dkX13_wide 58 rfl) (np 95 rfl ?_)
    refine r_eqI (al (rP σ 113 b i) (rP σ 113 b j) (rP σ 113 b j)) (by rw [ePb]; exact al_sq _ _) ?_
    refine r_istore_n (lv' := [(2, _), (6, _), (5, _), (0, _), (1, _), (3, _), (4, _)]) (dc dkX13_wide 59 rfl) (Nat.le_of_ble_eq_true rfl) rfl (np 96 rfl ?_)
    refine r_iinc (lv' := [(4, _), (2, _), (6, _), (5, _), (0, _), (1, _), (3, _)]) (dc dkX13_wide 60 rfl) (Nat.le_of_ble_eq_true rfl) rfl rfl (np 99 rfl ?_)
    refine r_goto (tgt := 31) (dc dkX13_wide 61 rfl) rfl ?_
    refine r_pick [4, 5, 1, 6, 0] rfl ?_
    exact ih31 _ _ ⟨by omega, by rw [mxN_s _ _ (by omega), ← hI31.2.1]; omega, by omega, by omega⟩ (by omega)
  refine r_iconst (dc dkX13_wide 7 rfl) (np 14 rfl ?_)
  exact r_iret (dc dkX13_wide 8 rfl) rfl ⟨rfl, congrArg (fun z => some (vI z)) (by first | (rw [gte_t h10, hI19.2.1, show i = cn σ 113 b by omega]; done) | (rw [e4] at h10; rw [gte_f h10]; done))⟩
set_option maxRecDepth 100000 in
set_option maxHeartbeats 4000000 in
theorem c_X12_band_ok {σ : jS} (hB : okB σ 30) (hn : ∀ b, 0 ≤ b → b < σ 30 0 → 3 ≤ σ 32 b) {b w : Int} (h0 : 0 ≤ b) (h1 : b < σ 30 0) (hw : 0 ≤ w ∧ w ≤ 6) : Jp 6 miX12_band [.ref 0, vI b, vI w] σ (vI (if w = 0 then σ 32 b else if w = 1 then ((areaS (σ 32 b) (bAt σ 30 b)).natAbs : Int) else if w = 2 then onN (σ 32 b) (bAt σ 30 b) else if w = 3 then ((areaS (σ 32 b) (bAt σ 30 b)).natAbs - onN (σ 32 b) (bAt σ 30 b) + 2).tdiv 2 else if w = 4 then bentN (σ 32 b) (bAt σ 30 b) else if w = 5 then rightN (σ 32 b) (bAt σ 30 b) else smI (fun x => gte (x = b) 0 (meetN (σ 32 b) (bAt σ 30 b) (σ 32 x) (bAt σ 30 x) 1)) (σ 30 0))) := by
  have m8 := hB.1
  refine jm_ofF (Po := (jP (vI (if w = 0 then σ 32 b else if w = 1 then ((areaS (σ 32 b) (bAt σ 30 b)).natAbs : Int) else if w = 2 then onN (σ 32 b) (bAt σ 30 b) else if w = 3 then ((areaS (σ 32 b) (bAt σ 30 b)).natAbs - onN (σ 32 b) (bAt σ 30 b) + 2).tdiv 2 else if w = 4 then bentN (σ 32 b) (bAt σ 30 b) else if w = 5 then rightN (σ 32 b) (bAt σ 30 b) else smI (fun x => gte (x = b) 0 (meetN (σ 32 b) (bAt σ 30 b) (σ 32 x) (bAt σ 30 x) 1)) (σ 30 0))) σ)) (plainFor_of_name (by decide)) (Nat.le_of_ble_eq_true rfl) (lv := [(0, _), (1, _), (2, _)]) rfl ?_
  refine r_aload_n (dc dkX12_band 0 rfl) rfl (np 1 rfl ?_)
  refine r_getR (dc dkX12_band 1 rfl) flX12_24 fd_0_2 (np 4 rfl ?_)
  refine r_getR (dc dkX12_band 2 rfl) flX12_105 fd_27_1 (np 7 rfl ?_)
  refine r_getR (dc dkX12_band 3 rfl) flX12_167 fd_28_9 (np 10 rfl ?_)
  refine r_astore_n (lv' := [(3, _), (0, _), (1, _), (2, _)]) (dc dkX12_band 4 rfl) (Nat.le_of_ble_eq_true rfl) rfl (np 11 rfl ?_)
  refine r_aload_n (dc dkX12_band 5 rfl) rfl (np 12 rfl ?_)
  refine r_iload_n (dc dkX12_band 6 rfl) rfl (np 13 rfl ?_)
  refine r_pV1 (y' := miX0_has) (dc dkX12_band 7 rfl) mlX12_171 ceX0_has ob_30 (Nat.le_of_ble_eq_true rfl) (Nat.le_of_ble_eq_true rfl) (c_X0_has isBands_at30 hB (by omega)) (np 16 rfl ?_)
  refine r_bz (tgt := 29) (dc dkX12_band 8 rfl) rfl (fun h16 => ?_) (fun h16 => (np 19 rfl ?_))
  · skip
    exact absurd ⟨h0, h1⟩ h16
  refine r_iload_n (dc dkX12_band 9 rfl) rfl (np 20 rfl ?_)
  refine r_if_lt (tgt := 29) (dc dkX12_band 10 rfl) rfl (by first | assumption | decide | omega) (fun h20 => ?_) (fun h20 => (np 23 rfl ?_))
  · skip
    exact absurd hw (by omega)
  refine r_iload_n (dc dkX12_band 11 rfl) rfl (np 24 rfl ?_)
  refine r_bipush (dc dkX12_band 12 rfl) bp_6 (np 26 rfl ?_)
  refine r_icmp_le (tgt := 37) (dc dkX12_band 13 rfl) rfl (by first | assumption | decide | omega) (by first | assumption | decide | omega) (fun h26 => ?_) (fun h26 => (np 29 rfl ?_))
  · skip
    refine r_iload_n (dc dkX12_band 18 rfl) rfl (np 38 rfl ?_)
    by_cases hs0 : w = 0
    · skip
      refine r_tableIn (tgt := 76) (off := 38) (dc dkX12_band 19 rfl) (by omega) (by omega) (by omega) (by rw [show ((w) - (0) : Int).toNat = 0 by omega]; rfl) rfl ?_
      refine r_aload_n (dc dkX12_band 20 rfl) rfl (np 77 rfl ?_)
      refine r_iload_n (dc dkX12_band 21 rfl) rfl (np 78 rfl ?_)
      refine r_pV1 (y' := miX0_sizeOf) (dc dkX12_band 22 rfl) mlX12_177 ceX0_sizeOf ob_30 (Nat.le_of_ble_eq_true rfl) (Nat.le_of_ble_eq_true rfl) (c_X0_sizeOf isBands_at30 (by omega) (by omega)) (np 81 rfl ?_)
      exact r_iret (dc dkX12_band 23 rfl) rfl ⟨congrArg (fun z => some (vI z)) (by first | (rw [if_pos (by omega)]; done) | (rw [if_neg (by omega), if_pos (by omega)]; done) | (rw [if_neg (by omega), if_neg (by omega), if_pos (by omega)]; done) | (rw [if_neg (by omega), if_neg (by omega), if_neg (by omega), if_pos (by omega)]; done) | (rw [if_neg (by omega), if_neg (by omega), if_neg (by omega), if_neg (by omega), if_pos (by omega)]; done) | (rw [if_neg (by omega), if_neg (by omega), if_neg (by omega), if_neg (by omega), if_neg (by omega), if_pos (by omega)]; done) | (rw [if_neg (by omega), if_neg (by omega), if_neg (by omega), if_neg (by omega), if_neg (by omega), if_neg (by omega)]; done)), rfl⟩
    by_cases hs1 : w = 1
    · skip
      refine r_tableIn (tgt := 82) (off := 44) (dc dkX12_band 19 rfl) (by omega) (by omega) (by omega) (by rw [show ((w) - (0) : Int).toNat = 1 by omega]; rfl) rfl ?_
      refine r_aload_n (dc dkX12_band 24 rfl) rfl (np 83 rfl ?_)
      refine r_iload_n (dc dkX12_band 25 rfl) rfl (np 84 rfl ?_)
      refine r_pV1 (y' := miX0_areaOf) (dc dkX12_band 26 rfl) mlX12_180 ceX0_areaOf ob_30 (Nat.le_of_ble_eq_true rfl) (Nat.le_of_ble_eq_true rfl) (c_X0_areaOf isBands_at30 hB (by omega) (by omega)) (np 87 rfl ?_)
      exact r_iret (dc dkX12_band 27 rfl) rfl ⟨congrArg (fun z => some (vI z)) (by first | (rw [if_pos (by omega)]; done) | (rw [if_neg (by omega), if_pos (by omega)]; done) | (rw [if_neg (by omega), if_neg (by omega), if_pos (by omega)]; done) | (rw [if_neg (by omega), if_neg (by omega), if_neg (by omega), if_pos (by omega)]; done) | (rw [if_neg (by omega), if_neg (by omega), if_neg (by omega), if_neg (by omega), if_pos (by omega)]; done) | (rw [if_neg (by omega), if_neg (by omega), if_neg (by omega), if_neg (by omega), if_neg (by omega), if_pos (by omega)]; done) | (rw [if_neg (by omega), if_neg (by omega), if_neg (by omega), if_neg (by omega), if_neg (by omega), if_neg (by omega)]; done)), rfl⟩
    by_cases hs2 : w = 2
    · skip
      refine r_tableIn (tgt := 88) (off := 50) (dc dkX12_band 19 rfl) (by omega) (by omega) (by omega) (by rw [show ((w) - (0) : Int).toNat = 2 by omega]; rfl) rfl ?_
      refine r_aload_n (dc dkX12_band 28 rfl) rfl (np 89 rfl ?_)
      refine r_iload_n (dc dkX12_band 29 rfl) rfl (np 90 rfl ?_)
      refine r_pV1 (y' := miX0_placesOn) (dc dkX12_band 30 rfl) mlX12_183 ceX0_placesOn ob_30 (Nat.le_of_ble_eq_true rfl) (Nat.le_of_ble_eq_true rfl) (c_X0_placesOn isBands_at30 hB (by omega) (by omega)) (np 93 rfl ?_)
      exact r_iret (dc dkX12_band 31 rfl) rfl ⟨congrArg (fun z => some (vI z)) (by first | (rw [if_pos (by omega)]; done) | (rw [if_neg (by omega), if_pos (by omega)]; done) | (rw [if_neg (by omega), if_neg (by omega), if_pos (by omega)]; done) | (rw [if_neg (by omega), if_neg (by omega), if_neg (by omega), if_pos (by omega)]; done) | (rw [if_neg (by omega), if_neg (by omega), if_neg (by omega), if_neg (by omega), if_pos (by omega)]; done) | (rw [if_neg (by omega), if_neg (by omega), if_neg (by omega), if_neg (by omega), if_neg (by omega), if_pos (by omega)]; done) | (rw [if_neg (by omega), if_neg (by omega), if_neg (by omega), if_neg (by omega), if_neg (by omega), if_neg (by omega)]; done)), rfl⟩
    by_cases hs3 : w = 3
    · skip
      refine r_tableIn (tgt := 94) (off := 56) (dc dkX12_band 19 rfl) (by omega) (by omega) (by omega) (by rw [show ((w) - (0) : Int).toNat = 3 by omega]; rfl) rfl ?_
      refine r_aload_n (dc dkX12_band 32 rfl) rfl (np 95 rfl ?_)
      refine r_iload_n (dc dkX12_band 33 rfl) rfl (np 96 rfl ?_)
      refine r_pV1 (y' := miX0_placesWithin) (dc dkX12_band 34 rfl) mlX12_186 ceX0_placesWithin ob_30 (Nat.le_of_ble_eq_true rfl) (Nat.le_of_ble_eq_true rfl) (c_X0_placesWithin isBands_at30 hB (by omega) (by omega)) (np 99 rfl ?_)
      exact r_iret (dc dkX12_band 35 rfl) rfl ⟨congrArg (fun z => some (vI z)) (by first | (rw [if_pos (by omega)]; done) | (rw [if_neg (by omega), if_pos (by omega)]; done) | (rw [if_neg (by omega), if_neg (by omega), if_pos (by omega)]; done) | (rw [if_neg (by omega), if_neg (by omega), if_neg (by omega), if_pos (by omega)]; done) | (rw [if_neg (by omega), if_neg (by omega), if_neg (by omega), if_neg (by omega), if_pos (by omega)]; done) | (rw [if_neg (by omega), if_neg (by omega), if_neg (by omega), if_neg (by omega), if_neg (by omega), if_pos (by omega)]; done) | (rw [if_neg (by omega), if_neg (by omega), if_neg (by omega), if_neg (by omega), if_neg (by omega), if_neg (by omega)]; done)), rfl⟩
    by_cases hs4 : w = 4
    · skip
      refine r_tableIn (tgt := 100) (off := 62) (dc dkX12_band 19 rfl) (by omega) (by omega) (by omega) (by rw [show ((w) - (0) : Int).toNat = 4 by omega]; rfl) rfl ?_
      refine r_aload_n (dc dkX12_band 36 rfl) rfl (np 101 rfl ?_)
      refine r_iload_n (dc dkX12_band 37 rfl) rfl (np 102 rfl ?_)
      refine r_pV1 (y' := miX0_bentIn) (dc dkX12_band 38 rfl) mlX12_189 ceX0_bentIn ob_30 (Nat.le_of_ble_eq_true rfl) (Nat.le_of_ble_eq_true rfl) (c_X0_bentIn isBands_at30 hB (by omega) (by omega)) (np 105 rfl ?_)
      exact r_iret (dc dkX12_band 39 rfl) rfl ⟨congrArg (fun z => some (vI z)) (by first | (rw [if_pos (by omega)]; done) | (rw [if_neg (by omega), if_pos (by omega)]; done) | (rw [if_neg (by omega), if_neg (by omega), if_pos (by omega)]; done) | (rw [if_neg (by omega), if_neg (by omega), if_neg (by omega), if_pos (by omega)]; done) | (rw [if_neg (by omega), if_neg (by omega), if_neg (by omega), if_neg (by omega), if_pos (by omega)]; done) | (rw [if_neg (by omega), if_neg (by omega), if_neg (by omega), if_neg (by omega), if_neg (by omega), if_pos (by omega)]; done) | (rw [if_neg (by omega), if_neg (by omega), if_neg (by omega), if_neg (by omega), if_neg (by omega), if_neg (by omega)]; done)), rfl⟩
    by_cases hs5 : w = 5
    · skip
      refine r_tableIn (tgt := 106) (off := 68) (dc dkX12_band 19 rfl) (by omega) (by omega) (by omega) (by rw [show ((w) - (0) : Int).toNat = 5 by omega]; rfl) rfl ?_
      refine r_aload_n (dc dkX12_band 40 rfl) rfl (np 107 rfl ?_)
      refine r_iload_n (dc dkX12_band 41 rfl) rfl (np 108 rfl ?_)
      refine r_pV1 (y' := miX0_rightOnes) (dc dkX12_band 42 rfl) mlX12_192 ceX0_rightOnes ob_30 (Nat.le_of_ble_eq_true rfl) (Nat.le_of_ble_eq_true rfl) (c_X0_rightOnes isBands_at30 hB (by omega) (by omega)) (np 111 rfl ?_)
      exact r_iret (dc dkX12_band 43 rfl) rfl ⟨congrArg (fun z => some (vI z)) (by first | (rw [if_pos (by omega)]; done) | (rw [if_neg (by omega), if_pos (by omega)]; done) | (rw [if_neg (by omega), if_neg (by omega), if_pos (by omega)]; done) | (rw [if_neg (by omega), if_neg (by omega), if_neg (by omega), if_pos (by omega)]; done) | (rw [if_neg (by omega), if_neg (by omega), if_neg (by omega), if_neg (by omega), if_pos (by omega)]; done) | (rw [if_neg (by omega), if_neg (by omega), if_neg (by omega), if_neg (by omega), if_neg (by omega), if_pos (by omega)]; done) | (rw [if_neg (by omega), if_neg (by omega), if_neg (by omega), if_neg (by omega), if_neg (by omega), if_neg (by omega)]; done)), rfl⟩
    refine r_tableOut (tgt := 112) (dc dkX12_band 19 rfl) (by first | assumption | decide | omega) (by omega) rfl ?_
    refine r_aload_n (dc dkX12_band 44 rfl) rfl (np 113 rfl ?_)
    refine r_iload_n (dc dkX12_band 45 rfl) rfl (np 114 rfl ?_)
    refine r_pV1 (y' := miX12_crossingsOfAll) (dc dkX12_band 46 rfl) mlX12_195 ceX12_crossingsOfAll ob_0 (Nat.le_of_ble_eq_true rfl) (Nat.le_of_ble_eq_true rfl) (c_X12_crossingsOfAll hB hn h0 h1) (np 117 rfl ?_)
    exact r_iret (dc dkX12_band 47 rfl) rfl ⟨congrArg (fun z => some (vI z)) (by first | (rw [if_pos (by omega)]; done) | (rw [if_neg (by omega), if_pos (by omega)]; done) | (rw [if_neg (by omega), if_neg (by omega), if_pos (by omega)]; done) | (rw [if_neg (by omega), if_neg (by omega), if_neg (by omega), if_pos (by omega)]; done) | (rw [if_neg (by omega), if_neg (by omega), if_neg (by omega), if_neg (by omega), if_pos (by omega)]; done) | (rw [if_neg (by omega), if_neg (by omega), if_neg (by omega), if_neg (by omega), if_neg (by omega), if_pos (by omega)]; done) | (rw [if_neg (by omega), if_neg (by omega), if_neg (by omega), if_neg (by omega), if_neg (by omega), if_neg (by omega)]; done)), rfl⟩
  exact absurd hw (by omega)
