set_option maxRecDepth 100000 in
set_option maxHeartbeats 4000000 in
theorem c_X13_fault {σ : jS} : Jm 1 miX13_fault [.ref 111] σ (fun r τ => τ = ju σ 111 0 0 ∧ r = some (vI (σ 111 10))) := by
  refine jm_ofF (Po := (fun r τ => τ = ju σ 111 0 0 ∧ r = some (vI (σ 111 10)))) (plainFor_of_name (by decide)) (Nat.le_of_ble_eq_true rfl) (lv := [(0, _)]) rfl ?_
  refine r_aload_n (dc dkX13_fault 0 rfl) rfl (np 1 rfl ?_)
  refine r_iconst (dc dkX13_fault 1 rfl) (np 2 rfl ?_)
  refine r_pI 0 (dc dkX13_fault 2 rfl) fpX13_94 fd_111_0 rfl (np 5 rfl ?_)
  refine r_aload_n (dc dkX13_fault 3 rfl) rfl (np 6 rfl ?_)
  refine r_gI 10 (dc dkX13_fault 4 rfl) flX13_159 fd_111_10 rfl (np 9 rfl ?_)
  exact r_iret (dc dkX13_fault 5 rfl) rfl ⟨rfl, by rw [ju_ne (by decide)]⟩
set_option maxRecDepth 100000 in
set_option maxHeartbeats 4000000 in
theorem c_X13_why {σ : jS} : Jm 1 miX13_why [.ref 111] σ (fun r τ => τ = ju σ 111 0 0 ∧ r = some (vI (σ 111 12))) := by
  refine jm_ofF (Po := (fun r τ => τ = ju σ 111 0 0 ∧ r = some (vI (σ 111 12)))) (plainFor_of_name (by decide)) (Nat.le_of_ble_eq_true rfl) (lv := [(0, _)]) rfl ?_
  refine r_aload_n (dc dkX13_why 0 rfl) rfl (np 1 rfl ?_)
  refine r_iconst (dc dkX13_why 1 rfl) (np 2 rfl ?_)
  refine r_pI 0 (dc dkX13_why 2 rfl) fpX13_94 fd_111_0 rfl (np 5 rfl ?_)
  refine r_aload_n (dc dkX13_why 3 rfl) rfl (np 6 rfl ?_)
  refine r_gI 12 (dc dkX13_why 4 rfl) flX13_249 fd_111_12 rfl (np 9 rfl ?_)
  exact r_iret (dc dkX13_why 5 rfl) rfl ⟨rfl, by rw [ju_ne (by decide)]⟩
set_option maxRecDepth 100000 in
set_option maxHeartbeats 4000000 in
theorem c_X13_thrown {σ : jS} : Jp 1 miX13_thrown [.ref 111] σ (vI (σ 111 0)) := by
  refine jm_ofF (Po := (jP (vI (σ 111 0)) σ)) (plainFor_of_name (by decide)) (Nat.le_of_ble_eq_true rfl) (lv := [(0, _)]) rfl ?_
  refine r_aload_n (dc dkX13_thrown 0 rfl) rfl (np 1 rfl ?_)
  refine r_gI 0 (dc dkX13_thrown 1 rfl) flX13_94 fd_111_0 rfl (np 4 rfl ?_)
  exact r_iret (dc dkX13_thrown 2 rfl) rfl ⟨rfl, rfl⟩
set_option maxRecDepth 100000 in
set_option maxHeartbeats 4000000 in
theorem c_X13_refuse {σ : jS} : Jm 1 miX13_refuse [.ref 111] σ (fun r τ => τ = ju σ 111 0 1 ∧ r = some (vI 0)) := by
  refine jm_ofF (Po := (fun r τ => τ = ju σ 111 0 1 ∧ r = some (vI 0))) (plainFor_of_name (by decide)) (Nat.le_of_ble_eq_true rfl) (lv := [(0, _)]) rfl ?_
  refine r_aload_n (dc dkX13_refuse 0 rfl) rfl (np 1 rfl ?_)
  refine r_iconst (dc dkX13_refuse 1 rfl) (np 2 rfl ?_)
  refine r_pI 0 (dc dkX13_refuse 2 rfl) fpX13_94 fd_111_0 rfl (np 5 rfl ?_)
  refine r_iconst (dc dkX13_refuse 3 rfl) (np 6 rfl ?_)
  exact r_iret (dc dkX13_refuse 4 rfl) rfl ⟨rfl, rfl⟩
set_option maxRecDepth 100000 in
set_option maxHeartbeats 4000000 in
theorem c_X13_peg {σ : jS} (hN : okN σ) {p : Int} (hp : iR p) : Jm 3 miX13_peg [.ref 111, vI p] σ (fun r τ => τ = ju σ 111 0 0 ∧ r = some (vI (pkR σ 113 p))) := by
  refine jm_ofF (Po := (fun r τ => τ = ju σ 111 0 0 ∧ r = some (vI (pkR σ 113 p)))) (plainFor_of_name (by decide)) (Nat.le_of_ble_eq_true rfl) (lv := [(0, _), (1, _)]) rfl ?_
  refine r_aload_n (dc dkX13_peg 0 rfl) rfl (np 1 rfl ?_)
  refine r_iconst (dc dkX13_peg 1 rfl) (np 2 rfl ?_)
  refine r_pI 0 (dc dkX13_peg 2 rfl) fpX13_94 fd_111_0 rfl (np 5 rfl ?_)
  generalize hσ0 : ju σ 111 0 0 = σ0
  have e0 : σ0 113 = σ 113 := by rw [← hσ0]; exact ju_off _ _ _ _ _ (by decide)
  have hN0 := okN_c hN e0
  have e4 : σ0 113 4 = σ 113 4 := by rw [e0]
  have ec : ∀ b, cn σ0 113 b = cn σ 113 b := cn_c e0
  have eP : ∀ b, rP σ0 113 b = rP σ 113 b := rP_c2 e0
  have m1 := hN.1.2.2.2.2.1
  have w1 := hN.1.1
  have w2 := hN.1.2.1
  refine r_aload_n (dc dkX13_peg 3 rfl) rfl (np 6 rfl ?_)
  refine r_iload_n (dc dkX13_peg 4 rfl) rfl (np 7 rfl ?_)
  refine r_pV1 (y' := miX13_isAt) (dc dkX13_peg 5 rfl) mlX13_282 ceX13_isAt ob_111 (Nat.le_of_ble_eq_true rfl) (Nat.le_of_ble_eq_true rfl) (c_X13_isAt hN0 (by omega)) (np 10 rfl ?_)
  refine r_bz (tgt := 39) (dc dkX13_peg 6 rfl) rfl (fun h10 => ?_) (fun h10 => (np 13 rfl ?_))
  · skip
    refine r_iconst (dc dkX13_peg 21 rfl) (np 40 rfl ?_)
    exact r_iret (dc dkX13_peg 22 rfl) rfl ⟨rfl, congrArg (fun z => some (vI z)) (by first | (unfold pkR; rw [e0] at h10 h28; rw [if_pos (by omega), if_pos (by have := h28.2; rw [show 5 + 10 * (p / 10) + p % 10 = 5 + p by omega] at this; exact this)]; done) | (unfold pkR; rw [e0] at h10 h28; rw [if_pos (by omega), if_neg (fun z => h28 ⟨by omega, by rw [show 5 + 10 * (p / 10) + p % 10 = 5 + p by omega]; exact z⟩)]; done) | (unfold pkR; rw [e0] at h10; rw [if_neg (by omega)]; done))⟩
  refine r_aload_n (dc dkX13_peg 7 rfl) rfl (np 14 rfl ?_)
  refine r_getR (dc dkX13_peg 8 rfl) flX13_13 fd_111_15 (np 17 rfl ?_)
  refine r_iload_n (dc dkX13_peg 9 rfl) rfl (np 18 rfl ?_)
  refine r_bipush (dc dkX13_peg 10 rfl) bp_10 (np 20 rfl ?_)
  refine r_iremn (dc dkX13_peg 11 rfl) (by first | assumption | decide | omega) (by first | assumption | decide | omega) (np 21 rfl ?_)
  refine r_iload_n (dc dkX13_peg 12 rfl) rfl (np 22 rfl ?_)
  refine r_bipush (dc dkX13_peg 13 rfl) bp_10 (np 24 rfl ?_)
  refine r_idivn (dc dkX13_peg 14 rfl) (by first | assumption | decide | omega) (by first | assumption | decide | omega) (np 25 rfl ?_)
  refine r_pS3 (y' := miX13_isPeg) (dc dkX13_peg 15 rfl) mlX13_226 seX13_isPeg (Nat.le_of_ble_eq_true rfl) (Nat.le_of_ble_eq_true rfl) (c_X13_isPeg ar_113 (by decide) hN0.1 (by omega) (by omega)) (np 28 rfl ?_)
  refine r_bz (tgt := 35) (dc dkX13_peg 16 rfl) rfl (fun h28 => ?_) (fun h28 => (np 31 rfl ?_))
  · skip
    refine r_iconst (dc dkX13_peg 19 rfl) (np 36 rfl ?_)
    refine r_goto (tgt := 40) (dc dkX13_peg 20 rfl) rfl ?_
    exact r_iret (dc dkX13_peg 22 rfl) rfl ⟨rfl, congrArg (fun z => some (vI z)) (by first | (unfold pkR; rw [e0] at h10 h28; rw [if_pos (by omega), if_pos (by have := h28.2; rw [show 5 + 10 * (p / 10) + p % 10 = 5 + p by omega] at this; exact this)]; done) | (unfold pkR; rw [e0] at h10 h28; rw [if_pos (by omega), if_neg (fun z => h28 ⟨by omega, by rw [show 5 + 10 * (p / 10) + p % 10 = 5 + p by omega]; exact z⟩)]; done) | (unfold pkR; rw [e0] at h10; rw [if_neg (by omega)]; done))⟩
  refine r_iconst (dc dkX13_peg 17 rfl) (np 32 rfl ?_)
  refine r_goto (tgt := 40) (dc dkX13_peg 18 rfl) rfl ?_
  exact r_iret (dc dkX13_peg 22 rfl) rfl ⟨rfl, congrArg (fun z => some (vI z)) (by first | (unfold pkR; rw [e0] at h10 h28; rw [if_pos (by omega), if_pos (by have := h28.2; rw [show 5 + 10 * (p / 10) + p % 10 = 5 + p by omega] at this; exact this)]; done) | (unfold pkR; rw [e0] at h10 h28; rw [if_pos (by omega), if_neg (fun z => h28 ⟨by omega, by rw [show 5 + 10 * (p / 10) + p % 10 = 5 + p by omega]; exact z⟩)]; done) | (unfold pkR; rw [e0] at h10; rw [if_neg (by omega)]; done))⟩
set_option maxRecDepth 100000 in
set_option maxHeartbeats 4000000 in
theorem c_X13_side {σ : jS} (hN : okN σ) {b i : Int} (hb : iR b) (hi : iR i) : Jm 4 miX13_side [.ref 111, vI b, vI i] σ (fun r τ => τ = ju σ 111 0 0 ∧ r = some (vI (gte ((0 ≤ b ∧ b < σ 113 4) ∧ 0 ≤ i ∧ i < cn σ 113 b) (al (rP σ 113 b i) (rP σ 113 b (i + 1)) (rP σ 113 b (i + 1))) (-1)))) := by
  refine jm_ofF (Po := (fun r τ => τ = ju σ 111 0 0 ∧ r = some (vI (gte ((0 ≤ b ∧ b < σ 113 4) ∧ 0 ≤ i ∧ i < cn σ 113 b) (al (rP σ 113 b i) (rP σ 113 b (i + 1)) (rP σ 113 b (i + 1))) (-1))))) (plainFor_of_name (by decide)) (Nat.le_of_ble_eq_true rfl) (lv := [(0, _), (1, _), (2, _)]) rfl ?_
  refine r_aload_n (dc dkX13_side 0 rfl) rfl (np 1 rfl ?_)
  refine r_iconst (dc dkX13_side 1 rfl) (np 2 rfl ?_)
  refine r_pI 0 (dc dkX13_side 2 rfl) fpX13_94 fd_111_0 rfl (np 5 rfl ?_)
  generalize hσ0 : ju σ 111 0 0 = σ0
  have e0 : σ0 113 = σ 113 := by rw [← hσ0]; exact ju_off _ _ _ _ _ (by decide)
  have hN0 := okN_c hN e0
  have e4 : σ0 113 4 = σ 113 4 := by rw [e0]
  have ec : ∀ b, cn σ0 113 b = cn σ 113 b := cn_c e0
  have eP : ∀ b, rP σ0 113 b = rP σ 113 b := rP_c2 e0
  have m1 := hN.1.2.2.2.2.1
  have w1 := hN.1.1
  have w2 := hN.1.2.1
  refine r_aload_n (dc dkX13_side 3 rfl) rfl (np 6 rfl ?_)
  refine r_iload_n (dc dkX13_side 4 rfl) rfl (np 7 rfl ?_)
  refine r_pV1 (y' := miX13_isBand) (dc dkX13_side 5 rfl) mlX13_304 ceX13_isBand ob_111 (Nat.le_of_ble_eq_true rfl) (Nat.le_of_ble_eq_true rfl) (c_X13_isBand hN0 (by omega)) (np 10 rfl ?_)
  refine r_bz (tgt := 26) (dc dkX13_side 6 rfl) rfl (fun h10 => ?_) (fun h10 => (np 13 rfl ?_))
  · skip
    refine r_iconst (dc dkX13_side 14 rfl) (np 27 rfl ?_)
    exact r_iret (dc dkX13_side 15 rfl) rfl ⟨rfl, congrArg (fun z => some (vI z)) (by first | (rw [gte_t (by omega)]; simp only [eP]; rfl; done) | (rw [gte_f (by omega)]; done) | (rw [e4] at h10; rw [gte_f (by omega)]; done))⟩
  rw [e4] at h10
  have nb := (hN.2 b (by omega) (by omega)).1
  have ecb := ec b
  refine r_iload_n (dc dkX13_side 7 rfl) rfl (np 14 rfl ?_)
  refine r_if_lt (tgt := 26) (dc dkX13_side 8 rfl) rfl (by first | assumption | decide | omega) (fun h14 => ?_) (fun h14 => (np 17 rfl ?_))
  · skip
    refine r_iconst (dc dkX13_side 14 rfl) (np 27 rfl ?_)
    exact r_iret (dc dkX13_side 15 rfl) rfl ⟨rfl, congrArg (fun z => some (vI z)) (by first | (rw [gte_t (by omega)]; simp only [eP]; rfl; done) | (rw [gte_f (by omega)]; done) | (rw [e4] at h10; rw [gte_f (by omega)]; done))⟩
  refine r_iload_n (dc dkX13_side 9 rfl) rfl (np 18 rfl ?_)
  refine r_aload_n (dc dkX13_side 10 rfl) rfl (np 19 rfl ?_)
  refine r_iload_n (dc dkX13_side 11 rfl) rfl (np 20 rfl ?_)
  refine r_pV1 (y' := miX13_corners) (dc dkX13_side 12 rfl) mlX13_279 ceX13_corners ob_111 (Nat.le_of_ble_eq_true rfl) (Nat.le_of_ble_eq_true rfl) (c_X13_corners (by omega)) (np 23 rfl ?_)
  refine r_icmp_lt (tgt := 28) (dc dkX13_side 13 rfl) rfl (by first | assumption | decide | omega) (by first | assumption | decide | omega) (fun h23 => ?_) (fun h23 => (np 26 rfl ?_))
  · skip
    refine r_aload_n (dc dkX13_side 16 rfl) rfl (np 29 rfl ?_)
    refine r_iload_n (dc dkX13_side 17 rfl) rfl (np 30 rfl ?_)
    refine r_iload_n (dc dkX13_side 18 rfl) rfl (np 31 rfl ?_)
    refine r_iconst (dc dkX13_side 19 rfl) (np 32 rfl ?_)
    refine r_iadd (dc dkX13_side 20 rfl) (np 33 rfl ?_)
    refine r_pV2 (y' := miX13_x) (dc dkX13_side 21 rfl) mlX13_285 ceX13_x ob_111 (Nat.le_of_ble_eq_true rfl) (Nat.le_of_ble_eq_true rfl) (c_X13_x hN0 (by omega) (by omega) (by omega)) (np 36 rfl ?_)
    refine r_aload_n (dc dkX13_side 22 rfl) rfl (np 37 rfl ?_)
    refine r_iload_n (dc dkX13_side 23 rfl) rfl (np 38 rfl ?_)
    refine r_iload_n (dc dkX13_side 24 rfl) rfl (np 39 rfl ?_)
    refine r_pV2 (y' := miX13_x) (dc dkX13_side 25 rfl) mlX13_285 ceX13_x ob_111 (Nat.le_of_ble_eq_true rfl) (Nat.le_of_ble_eq_true rfl) (c_X13_x hN0 (by omega) (by omega) (by omega)) (np 42 rfl ?_)
    refine r_isub (dc dkX13_side 26 rfl) (np 43 rfl ?_)
    refine r_istore_n (lv' := [(3, _), (0, _), (1, _), (2, _)]) (dc dkX13_side 27 rfl) (Nat.le_of_ble_eq_true rfl) rfl (np 44 rfl ?_)
    refine r_aload_n (dc dkX13_side 28 rfl) rfl (np 45 rfl ?_)
    refine r_iload_n (dc dkX13_side 29 rfl) rfl (np 46 rfl ?_)
    refine r_iload_n (dc dkX13_side 30 rfl) rfl (np 47 rfl ?_)
    refine r_iconst (dc dkX13_side 31 rfl) (np 48 rfl ?_)
    refine r_iadd (dc dkX13_side 32 rfl) (np 49 rfl ?_)
    refine r_pV2 (y' := miX13_y) (dc dkX13_side 33 rfl) mlX13_289 ceX13_y ob_111 (Nat.le_of_ble_eq_true rfl) (Nat.le_of_ble_eq_true rfl) (c_X13_y hN0 (by omega) (by omega) (by omega)) (np 52 rfl ?_)
    refine r_aload_n (dc dkX13_side 34 rfl) rfl (np 53 rfl ?_)
    refine r_iload_n (dc dkX13_side 35 rfl) rfl (np 54 rfl ?_)
    refine r_iload_n (dc dkX13_side 36 rfl) rfl (np 55 rfl ?_)
    refine r_pV2 (y' := miX13_y) (dc dkX13_side 37 rfl) mlX13_289 ceX13_y ob_111 (Nat.le_of_ble_eq_true rfl) (Nat.le_of_ble_eq_true rfl) (c_X13_y hN0 (by omega) (by omega) (by omega)) (np 58 rfl ?_)
    refine r_isub (dc dkX13_side 38 rfl) (np 59 rfl ?_)
    refine r_istore (lv' := [(4, _), (3, _), (0, _), (1, _), (2, _)]) (dc dkX13_side 39 rfl) (Nat.le_of_ble_eq_true rfl) rfl (np 61 rfl ?_)
    refine r_iload_n (dc dkX13_side 40 rfl) rfl (np 62 rfl ?_)
    refine r_iload_n (dc dkX13_side 41 rfl) rfl (np 63 rfl ?_)
    refine r_imul (dc dkX13_side 42 rfl) (np 64 rfl ?_)
    refine r_iload (dc dkX13_side 43 rfl) rfl (np 66 rfl ?_)
    refine r_iload (dc dkX13_side 44 rfl) rfl (np 68 rfl ?_)
    refine r_imul (dc dkX13_side 45 rfl) (np 69 rfl ?_)
    refine r_iadd (dc dkX13_side 46 rfl) (np 70 rfl ?_)
    exact r_iret (dc dkX13_side 47 rfl) rfl ⟨rfl, congrArg (fun z => some (vI z)) (by first | (rw [gte_t (by omega)]; simp only [eP]; rfl; done) | (rw [gte_f (by omega)]; done) | (rw [e4] at h10; rw [gte_f (by omega)]; done))⟩
  refine r_iconst (dc dkX13_side 14 rfl) (np 27 rfl ?_)
  exact r_iret (dc dkX13_side 15 rfl) rfl ⟨rfl, congrArg (fun z => some (vI z)) (by first | (rw [gte_t (by omega)]; simp only [eP]; rfl; done) | (rw [gte_f (by omega)]; done) | (rw [e4] at h10; rw [gte_f (by omega)]; done))⟩
set_option maxRecDepth 100000 in
set_option maxHeartbeats 4000000 in
theorem c_X13_in {σ : jS} (hN : okN σ) {a b : Int} (ha : iR a) (hb : iR b) : Jm 8 miX13_in [.ref 111, vI a, vI b] σ (fun r τ => τ = ju σ 111 0 0 ∧ r = some (vI (gte ((0 ≤ a ∧ a < σ 113 4) ∧ (0 ≤ b ∧ b < σ 113 4)) (bI (¬ a = b ∧ (¬ ∃ i j, (0 ≤ i ∧ i < cn σ 113 a) ∧ (0 ≤ j ∧ j < cn σ 113 b) ∧ 0 < mt (rP σ 113 a i) (rP σ 113 a (i + 1)) (rP σ 113 b j) (rP σ 113 b (j + 1))) ∧ ¬ isOnB (cn σ 113 b) (rP σ 113 b) (10 * (rP σ 113 a 0 / 10) + rP σ 113 a 0 % 10) ∧ encRB 1 (cn σ 113 b) (rP σ 113 b) (rP σ 113 a 0 % 10) (rP σ 113 a 0 / 10))) (-1)))) := by
  refine jm_ofF (Po := (fun r τ => τ = ju σ 111 0 0 ∧ r = some (vI (gte ((0 ≤ a ∧ a < σ 113 4) ∧ (0 ≤ b ∧ b < σ 113 4)) (bI (¬ a = b ∧ (¬ ∃ i j, (0 ≤ i ∧ i < cn σ 113 a) ∧ (0 ≤ j ∧ j < cn σ 113 b) ∧ 0 < mt (rP σ 113 a i) (rP σ 113 a (i + 1)) (rP σ 113 b j) (rP σ 113 b (j + 1))) ∧ ¬ isOnB (cn σ 113 b) (rP σ 113 b) (10 * (rP σ 113 a 0 / 10) + rP σ 113 a 0 % 10) ∧ encRB 1 (cn σ 113 b) (rP σ 113 b) (rP σ 113 a 0 % 10) (rP σ 113 a 0 / 10))) (-1))))) (plainFor_of_name (by decide)) (Nat.le_of_ble_eq_true rfl) (lv := [(0, _), (1, _), (2, _)]) rfl ?_
  refine r_aload_n (dc dkX13_in 0 rfl) rfl (np 1 rfl ?_)
  refine r_iconst (dc dkX13_in 1 rfl) (np 2 rfl ?_)
  refine r_pI 0 (dc dkX13_in 2 rfl) fpX13_94 fd_111_0 rfl (np 5 rfl ?_)
  generalize hσ0 : ju σ 111 0 0 = σ0
  have e0 : σ0 113 = σ 113 := by rw [← hσ0]; exact ju_off _ _ _ _ _ (by decide)
  have hN0 := okN_c hN e0
  have e4 : σ0 113 4 = σ 113 4 := by rw [e0]
  have ec : ∀ b, cn σ0 113 b = cn σ 113 b := cn_c e0
  have eP : ∀ b, rP σ0 113 b = rP σ 113 b := rP_c2 e0
  have m1 := hN.1.2.2.2.2.1
  have w1 := hN.1.1
  have w2 := hN.1.2.1
  refine r_aload_n (dc dkX13_in 3 rfl) rfl (np 6 rfl ?_)
  refine r_iload_n (dc dkX13_in 4 rfl) rfl (np 7 rfl ?_)
  refine r_pV1 (y' := miX13_isBand) (dc dkX13_in 5 rfl) mlX13_304 ceX13_isBand ob_111 (Nat.le_of_ble_eq_true rfl) (Nat.le_of_ble_eq_true rfl) (c_X13_isBand hN0 (by omega)) (np 10 rfl ?_)
  refine r_bz (tgt := 38) (dc dkX13_in 6 rfl) rfl (fun h10 => ?_) (fun h10 => (np 13 rfl ?_))
  · skip
    refine r_iconst (dc dkX13_in 20 rfl) (np 39 rfl ?_)
    exact r_iret (dc dkX13_in 21 rfl) rfl ⟨rfl, congrArg (fun z => some (vI z)) (by first | (rw [e4] at h10 h18; simp only [ec, eP] at h27; rw [gte_t ⟨h10, h18⟩, bI_t h27]; done) | (rw [e4] at h10 h18; simp only [ec, eP] at h27; rw [gte_t ⟨h10, h18⟩, bI_f h27]; done) | (rw [e4] at h10; rw [gte_f (by omega)]; done) | (rw [e4] at h18; rw [gte_f (by omega)]; done))⟩
  refine r_aload_n (dc dkX13_in 7 rfl) rfl (np 14 rfl ?_)
  refine r_iload_n (dc dkX13_in 8 rfl) rfl (np 15 rfl ?_)
  refine r_pV1 (y' := miX13_isBand) (dc dkX13_in 9 rfl) mlX13_304 ceX13_isBand ob_111 (Nat.le_of_ble_eq_true rfl) (Nat.le_of_ble_eq_true rfl) (c_X13_isBand hN0 (by omega)) (np 18 rfl ?_)
  refine r_bz (tgt := 38) (dc dkX13_in 10 rfl) rfl (fun h18 => ?_) (fun h18 => (np 21 rfl ?_))
  · skip
    refine r_iconst (dc dkX13_in 20 rfl) (np 39 rfl ?_)
    exact r_iret (dc dkX13_in 21 rfl) rfl ⟨rfl, congrArg (fun z => some (vI z)) (by first | (rw [e4] at h10 h18; simp only [ec, eP] at h27; rw [gte_t ⟨h10, h18⟩, bI_t h27]; done) | (rw [e4] at h10 h18; simp only [ec, eP] at h27; rw [gte_t ⟨h10, h18⟩, bI_f h27]; done) | (rw [e4] at h10; rw [gte_f (by omega)]; done) | (rw [e4] at h18; rw [gte_f (by omega)]; done))⟩
  refine r_aload_n (dc dkX13_in 11 rfl) rfl (np 22 rfl ?_)
  refine r_iload_n (dc dkX13_in 12 rfl) rfl (np 23 rfl ?_)
  refine r_iload_n (dc dkX13_in 13 rfl) rfl (np 24 rfl ?_)
  refine r_pV2 (y' := miX13_liesIn) (dc dkX13_in 14 rfl) mlX13_333 ceX13_liesIn ob_111 (Nat.le_of_ble_eq_true rfl) (Nat.le_of_ble_eq_true rfl) (c_X13_liesIn hN0 (by omega) (by omega) (by omega) (by omega)) (np 27 rfl ?_)
  refine r_bz (tgt := 34) (dc dkX13_in 15 rfl) rfl (fun h27 => ?_) (fun h27 => (np 30 rfl ?_))
  · skip
    refine r_iconst (dc dkX13_in 18 rfl) (np 35 rfl ?_)
    refine r_goto (tgt := 39) (dc dkX13_in 19 rfl) rfl ?_
    exact r_iret (dc dkX13_in 21 rfl) rfl ⟨rfl, congrArg (fun z => some (vI z)) (by first | (rw [e4] at h10 h18; simp only [ec, eP] at h27; rw [gte_t ⟨h10, h18⟩, bI_t h27]; done) | (rw [e4] at h10 h18; simp only [ec, eP] at h27; rw [gte_t ⟨h10, h18⟩, bI_f h27]; done) | (rw [e4] at h10; rw [gte_f (by omega)]; done) | (rw [e4] at h18; rw [gte_f (by omega)]; done))⟩
  refine r_iconst (dc dkX13_in 16 rfl) (np 31 rfl ?_)
  refine r_goto (tgt := 39) (dc dkX13_in 17 rfl) rfl ?_
  exact r_iret (dc dkX13_in 21 rfl) rfl ⟨rfl, congrArg (fun z => some (vI z)) (by first | (rw [e4] at h10 h18; simp only [ec, eP] at h27; rw [gte_t ⟨h10, h18⟩, bI_t h27]; done) | (rw [e4] at h10 h18; simp only [ec, eP] at h27; rw [gte_t ⟨h10, h18⟩, bI_f h27]; done) | (rw [e4] at h10; rw [gte_f (by omega)]; done) | (rw [e4] at h18; rw [gte_f (by omega)]; done))⟩
set_option maxRecDepth 100000 in
set_option maxHeartbeats 4000000 in
theorem c_X13_over {σ : jS} (hN : okN σ) {p w : Int} (hp : iR p) (hw : iR w) : Jm 6 miX13_over [.ref 111, vI p, vI w] σ (fun r τ => τ = ju σ 111 0 0 ∧ r = some (vI (gte ((0 ≤ p ∧ p % 10 < σ 113 0 ∧ p / 10 < σ 113 1) ∧ 0 ≤ w ∧ w ≤ 1) (ovF (fun b => (w = 0 ∧ (¬ isOnB (cn σ 113 b) (rP σ 113 b) (10 * (p / 10) + p % 10) ∧ encRB 1 (cn σ 113 b) (rP σ 113 b) (p % 10) (p / 10))) ∨ (w = 1 ∧ isOnB (cn σ 113 b) (rP σ 113 b) (10 * (p / 10) + p % 10))) (σ 113 4).toNat) (-1)))) := by
  refine jm_ofF (Po := (fun r τ => τ = ju σ 111 0 0 ∧ r = some (vI (gte ((0 ≤ p ∧ p % 10 < σ 113 0 ∧ p / 10 < σ 113 1) ∧ 0 ≤ w ∧ w ≤ 1) (ovF (fun b => (w = 0 ∧ (¬ isOnB (cn σ 113 b) (rP σ 113 b) (10 * (p / 10) + p % 10) ∧ encRB 1 (cn σ 113 b) (rP σ 113 b) (p % 10) (p / 10))) ∨ (w = 1 ∧ isOnB (cn σ 113 b) (rP σ 113 b) (10 * (p / 10) + p % 10))) (σ 113 4).toNat) (-1))))) (plainFor_of_name (by decide)) (Nat.le_of_ble_eq_true rfl) (lv := [(0, _), (1, _), (2, _)]) rfl ?_
  refine r_aload_n (dc dkX13_over 0 rfl) rfl (np 1 rfl ?_)
  refine r_iconst (dc dkX13_over 1 rfl) (np 2 rfl ?_)
  refine r_pI 0 (dc dkX13_over 2 rfl) fpX13_94 fd_111_0 rfl (np 5 rfl ?_)
  generalize hσ0 : ju σ 111 0 0 = σ0
  have e0 : σ0 113 = σ 113 := by rw [← hσ0]; exact ju_off _ _ _ _ _ (by decide)
  have hN0 := okN_c hN e0
  have e4 : σ0 113 4 = σ 113 4 := by rw [e0]
  have ec : ∀ b, cn σ0 113 b = cn σ 113 b := cn_c e0
  have eP : ∀ b, rP σ0 113 b = rP σ 113 b := rP_c2 e0
  have m1 := hN.1.2.2.2.2.1
  have w1 := hN.1.1
  have w2 := hN.1.2.1
  refine r_aload_n (dc dkX13_over 3 rfl) rfl (np 6 rfl ?_)
  refine r_iload_n (dc dkX13_over 4 rfl) rfl (np 7 rfl ?_)
  refine r_pV1 (y' := miX13_isAt) (dc dkX13_over 5 rfl) mlX13_282 ceX13_isAt ob_111 (Nat.le_of_ble_eq_true rfl) (Nat.le_of_ble_eq_true rfl) (c_X13_isAt hN0 (by omega)) (np 10 rfl ?_)
  refine r_bz (tgt := 22) (dc dkX13_over 6 rfl) rfl (fun h10 => ?_) (fun h10 => (np 13 rfl ?_))
  · skip
    refine r_iconst (dc dkX13_over 12 rfl) (np 23 rfl ?_)
    exact r_iret (dc dkX13_over 13 rfl) rfl ⟨rfl, congrArg (fun z => some (vI z)) (by first | (rw [gte_t ⟨h10, h19⟩, hI29.2, show i = σ 113 4 by omega]; done) | (rw [e0] at h10; rw [gte_f (by omega)]; done) | (rw [gte_f (by omega)]; done))⟩
  refine r_iload_n (dc dkX13_over 7 rfl) rfl (np 14 rfl ?_)
  refine r_iconst (dc dkX13_over 8 rfl) (np 15 rfl ?_)
  refine r_iconst (dc dkX13_over 9 rfl) (np 16 rfl ?_)
  refine r_pS3 (y' := miX13_isIn) (dc dkX13_over 10 rfl) mlX13_168 seX13_isIn (Nat.le_of_ble_eq_true rfl) (Nat.le_of_ble_eq_true rfl) (c_X13_isIn (by omega) (by decide) (by decide)) (np 19 rfl ?_)
  refine r_bn (tgt := 24) (dc dkX13_over 11 rfl) rfl (fun h19 => ?_) (fun h19 => (np 22 rfl ?_))
  · skip
    rw [e0] at h10
    refine r_iconst (dc dkX13_over 14 rfl) (np 25 rfl ?_)
    refine r_istore_n (lv' := [(3, _), (0, _), (1, _), (2, _)]) (dc dkX13_over 15 rfl) (Nat.le_of_ble_eq_true rfl) rfl (np 26 rfl ?_)
    refine r_iconst (dc dkX13_over 16 rfl) (np 27 rfl ?_)
    refine r_istore (lv' := [(4, _), (3, _), (0, _), (1, _), (2, _)]) (dc dkX13_over 17 rfl) (Nat.le_of_ble_eq_true rfl) rfl (np 29 rfl ?_)
    refine r_pick [2, 3, 4, 1, 0] (lv' := [(0, _), (1, _), (2, _), (3, _), (4, _)]) rfl ?_
    refine jlp2 (P := fun (s : Int) (i : Int) => jR _ _ _ 29 [(0, .ref 111), (1, vI p), (2, vI w), (3, vI s), (4, vI i)] [] σ0) (I := fun (s : Int) (i : Int) => (0 ≤ i ∧ i ≤ σ 113 4) ∧ s = ovF (fun b => (w = 0 ∧ (¬ isOnB (cn σ 113 b) (rP σ 113 b) (10 * (p / 10) + p % 10) ∧ encRB 1 (cn σ 113 b) (rP σ 113 b) (p % 10) (p / 10))) ∨ (w = 1 ∧ isOnB (cn σ 113 b) (rP σ 113 b) (10 * (p / 10) + p % 10))) i.toNat) (fun (s : Int) (i : Int) => (σ 113 4 - i).toNat) ?_ _ _ ⟨by omega, rfl⟩
    intro s i hI29 ih29
    refine r_iload (dc dkX13_over 18 rfl) rfl (np 31 rfl ?_)
    refine r_aload_n (dc dkX13_over 19 rfl) rfl (np 32 rfl ?_)
    refine r_pV0 (y' := miX13_bands) (dc dkX13_over 20 rfl) mlX13_276 ceX13_bands ob_111 (Nat.le_of_ble_eq_true rfl) (Nat.le_of_ble_eq_true rfl) (c_X13_bands ) (np 35 rfl ?_)
    refine r_icmp_ge (tgt := 92) (dc dkX13_over 21 rfl) rfl (by first | assumption | decide | omega) (by first | assumption | decide | omega) (fun h35 => ?_) (fun h35 => (np 38 rfl ?_))
    · skip
      refine r_iload_n (dc dkX13_over 53 rfl) rfl (np 93 rfl ?_)
      exact r_iret (dc dkX13_over 54 rfl) rfl ⟨rfl, congrArg (fun z => some (vI z)) (by first | (rw [gte_t ⟨h10, h19⟩, hI29.2, show i = σ 113 4 by omega]; done) | (rw [e0] at h10; rw [gte_f (by omega)]; done) | (rw [gte_f (by omega)]; done))⟩
    refine r_iload_n (dc dkX13_over 22 rfl) rfl (np 39 rfl ?_)
    refine r_if_ne (tgt := 62) (dc dkX13_over 23 rfl) rfl (by first | assumption | decide | omega) (fun h39 => ?_) (fun h39 => (np 42 rfl ?_))
    · skip
      refine r_aload_n (dc dkX13_over 35 rfl) rfl (np 63 rfl ?_)
      refine r_iload (dc dkX13_over 36 rfl) rfl (np 65 rfl ?_)
      refine r_iload_n (dc dkX13_over 37 rfl) rfl (np 66 rfl ?_)
      refine r_bipush (dc dkX13_over 38 rfl) bp_10 (np 68 rfl ?_)
      refine r_iremn (dc dkX13_over 39 rfl) (by first | assumption | decide | omega) (by first | assumption | decide | omega) (np 69 rfl ?_)
      refine r_iload_n (dc dkX13_over 40 rfl) rfl (np 70 rfl ?_)
      refine r_bipush (dc dkX13_over 41 rfl) bp_10 (np 72 rfl ?_)
      refine r_idivn (dc dkX13_over 42 rfl) (by first | assumption | decide | omega) (by first | assumption | decide | omega) (np 73 rfl ?_)
      refine r_pV3 (y' := miX13_isOn) (dc dkX13_over 43 rfl) mlX13_323 ceX13_isOn ob_111 (Nat.le_of_ble_eq_true rfl) (Nat.le_of_ble_eq_true rfl) (c_X13_isOn hN0 (by omega) (by omega) (by omega) (by omega)) (np 76 rfl ?_)
      refine r_bz (tgt := 86) (dc dkX13_over 44 rfl) rfl (fun h76 => ?_) (fun h76 => (np 79 rfl ?_))
      · skip
        refine r_iinc (lv' := [(4, _), (0, _), (1, _), (2, _), (3, _)]) (dc dkX13_over 51 rfl) (Nat.le_of_ble_eq_true rfl) rfl rfl (np 89 rfl ?_)
        refine r_goto (tgt := 29) (dc dkX13_over 52 rfl) rfl ?_
        refine r_pick [1, 2, 3, 4, 0] rfl ?_
        exact ih29 _ _ ⟨by omega, by rw [ovF_s (by omega), ← hI29.2]; first | (rw [gte_t (Or.inl ⟨by omega, by simp only [ec, eP] at h56; exact h56⟩)]; done) | (rw [gte_t (Or.inr ⟨by omega, by simp only [ec, eP] at h76; exact h76⟩)]; done) | (rw [gte_f (fun z => by simp only [ec, eP] at h56; rcases z with z | z; exact h56 z.2; omega)]; done) | (rw [gte_f (fun z => by simp only [ec, eP] at h76; rcases z with z | z; omega; exact h76 z.2)]; done)⟩ (by omega)
      refine r_iload_n (dc dkX13_over 45 rfl) rfl (np 80 rfl ?_)
      refine r_iconst (dc dkX13_over 46 rfl) (np 81 rfl ?_)
      refine r_iload (dc dkX13_over 47 rfl) rfl (np 83 rfl ?_)
      refine r_ishl (dc dkX13_over 48 rfl) (np 84 rfl ?_)
      refine r_ior (dc dkX13_over 49 rfl) (np 85 rfl ?_)
      refine r_istore_n (lv' := [(3, _), (0, _), (1, _), (2, _), (4, _)]) (dc dkX13_over 50 rfl) (Nat.le_of_ble_eq_true rfl) rfl (np 86 rfl ?_)
      refine r_iinc (lv' := [(4, _), (3, _), (0, _), (1, _), (2, _)]) (dc dkX13_over 51 rfl) (Nat.le_of_ble_eq_true rfl) rfl rfl (np 89 rfl ?_)
      refine r_goto (tgt := 29) (dc dkX13_over 52 rfl) rfl ?_
      refine r_pick [2, 3, 4, 1, 0] rfl ?_
      exact ih29 _ _ ⟨by omega, by rw [ovF_s (by omega), ← hI29.2]; first | (rw [gte_t (Or.inl ⟨by omega, by simp only [ec, eP] at h56; exact h56⟩)]; done) | (rw [gte_t (Or.inr ⟨by omega, by simp only [ec, eP] at h76; exact h76⟩)]; done) | (rw [gte_f (fun z => by simp only [ec, eP] at h56; rcases z with z | z; exact h56 z.2; omega)]; done) | (rw [gte_f (fun z => by simp only [ec, eP] at h76; rcases z with z | z; omega; exact h76 z.2)]; done)⟩ (by omega)
    refine r_aload_n (dc dkX13_over 24 rfl) rfl (np 43 rfl ?_)
    refine r_iload (dc dkX13_over 25 rfl) rfl (np 45 rfl ?_)
    refine r_iload_n (dc dkX13_over 26 rfl) rfl (np 46 rfl ?_)
    refine r_bipush (dc dkX13_over 27 rfl) bp_10 (np 48 rfl ?_)
    refine r_iremn (dc dkX13_over 28 rfl) (by first | assumption | decide | omega) (by first | assumption | decide | omega) (np 49 rfl ?_)
    refine r_iload_n (dc dkX13_over 29 rfl) rfl (np 50 rfl ?_)
    refine r_bipush (dc dkX13_over 30 rfl) bp_10 (np 52 rfl ?_)
    refine r_idivn (dc dkX13_over 31 rfl) (by first | assumption | decide | omega) (by first | assumption | decide | omega) (np 53 rfl ?_)
    refine r_pV3 (y' := miX13_isWithin) (dc dkX13_over 32 rfl) mlX13_330 ceX13_isWithin ob_111 (Nat.le_of_ble_eq_true rfl) (Nat.le_of_ble_eq_true rfl) (c_X13_isWithin hN0 (by omega) (by omega) (by omega) (by omega)) (np 56 rfl ?_)
    refine r_bz (tgt := 86) (dc dkX13_over 33 rfl) rfl (fun h56 => ?_) (fun h56 => (np 59 rfl ?_))
    · skip
      refine r_iinc (lv' := [(4, _), (0, _), (1, _), (2, _), (3, _)]) (dc dkX13_over 51 rfl) (Nat.le_of_ble_eq_true rfl) rfl rfl (np 89 rfl ?_)
      refine r_goto (tgt := 29) (dc dkX13_over 52 rfl) rfl ?_
      refine r_pick [1, 2, 3, 4, 0] rfl ?_
      exact ih29 _ _ ⟨by omega, by rw [ovF_s (by omega), ← hI29.2]; first | (rw [gte_t (Or.inl ⟨by omega, by simp only [ec, eP] at h56; exact h56⟩)]; done) | (rw [gte_t (Or.inr ⟨by omega, by simp only [ec, eP] at h76; exact h76⟩)]; done) | (rw [gte_f (fun z => by simp only [ec, eP] at h56; rcases z with z | z; exact h56 z.2; omega)]; done) | (rw [gte_f (fun z => by simp only [ec, eP] at h76; rcases z with z | z; omega; exact h76 z.2)]; done)⟩ (by omega)
    refine r_goto (tgt := 79) (dc dkX13_over 34 rfl) rfl ?_
    refine r_iload_n (dc dkX13_over 45 rfl) rfl (np 80 rfl ?_)
    refine r_iconst (dc dkX13_over 46 rfl) (np 81 rfl ?_)
    refine r_iload (dc dkX13_over 47 rfl) rfl (np 83 rfl ?_)
    refine r_ishl (dc dkX13_over 48 rfl) (np 84 rfl ?_)
    refine r_ior (dc dkX13_over 49 rfl) (np 85 rfl ?_)
    refine r_istore_n (lv' := [(3, _), (0, _), (1, _), (2, _), (4, _)]) (dc dkX13_over 50 rfl) (Nat.le_of_ble_eq_true rfl) rfl (np 86 rfl ?_)
    refine r_iinc (lv' := [(4, _), (3, _), (0, _), (1, _), (2, _)]) (dc dkX13_over 51 rfl) (Nat.le_of_ble_eq_true rfl) rfl rfl (np 89 rfl ?_)
    refine r_goto (tgt := 29) (dc dkX13_over 52 rfl) rfl ?_
    refine r_pick [2, 3, 4, 1, 0] rfl ?_
    exact ih29 _ _ ⟨by omega, by rw [ovF_s (by omega), ← hI29.2]; first | (rw [gte_t (Or.inl ⟨by omega, by simp only [ec, eP] at h56; exact h56⟩)]; done) | (rw [gte_t (Or.inr ⟨by omega, by simp only [ec, eP] at h76; exact h76⟩)]; done) | (rw [gte_f (fun z => by simp only [ec, eP] at h56; rcases z with z | z; exact h56 z.2; omega)]; done) | (rw [gte_f (fun z => by simp only [ec, eP] at h76; rcases z with z | z; omega; exact h76 z.2)]; done)⟩ (by omega)
  refine r_iconst (dc dkX13_over 12 rfl) (np 23 rfl ?_)
  exact r_iret (dc dkX13_over 13 rfl) rfl ⟨rfl, congrArg (fun z => some (vI z)) (by first | (rw [gte_t ⟨h10, h19⟩, hI29.2, show i = σ 113 4 by omega]; done) | (rw [e0] at h10; rw [gte_f (by omega)]; done) | (rw [gte_f (by omega)]; done))⟩
set_option maxRecDepth 100000 in
set_option maxHeartbeats 4000000 in
theorem c_X13_count {σ : jS} {w : Int} (hw : iR w) : Jm 2 miX13_count [.ref 111, vI w] σ (fun r τ => τ = ju σ 111 0 0 ∧ r = some (vI (if w = 0 then σ 113 0 else if w = 1 then σ 113 1 else if w = 2 then σ 113 4 else if w = 3 then σ 113 3 else if w = 4 then σ 113 2 else if w = 5 then σ 113 242 else if w = 6 then σ 113 261 else if w = 7 then σ 111 2 else -1))) := by
  refine jm_ofF (Po := (fun r τ => τ = ju σ 111 0 0 ∧ r = some (vI (if w = 0 then σ 113 0 else if w = 1 then σ 113 1 else if w = 2 then σ 113 4 else if w = 3 then σ 113 3 else if w = 4 then σ 113 2 else if w = 5 then σ 113 242 else if w = 6 then σ 113 261 else if w = 7 then σ 111 2 else -1)))) (plainFor_of_name (by decide)) (Nat.le_of_ble_eq_true rfl) (lv := [(0, _), (1, _)]) rfl ?_
  refine r_aload_n (dc dkX13_count 0 rfl) rfl (np 1 rfl ?_)
  refine r_iconst (dc dkX13_count 1 rfl) (np 2 rfl ?_)
  refine r_pI 0 (dc dkX13_count 2 rfl) fpX13_94 fd_111_0 rfl (np 5 rfl ?_)
  refine r_iload_n (dc dkX13_count 3 rfl) rfl (np 6 rfl ?_)
  by_cases hs0 : w = 0
  · skip
    refine r_tableIn (tgt := 52) (off := 46) (dc dkX13_count 4 rfl) (by omega) (by omega) (by omega) (by rw [show ((w) - (0) : Int).toNat = 0 by omega]; rfl) rfl ?_
    refine r_aload_n (dc dkX13_count 5 rfl) rfl (np 53 rfl ?_)
    refine r_getR (dc dkX13_count 6 rfl) flX13_13 fd_111_15 (np 56 rfl ?_)
    refine r_iconst (dc dkX13_count 7 rfl) (np 57 rfl ?_)
    refine r_iald (dc dkX13_count 8 rfl) ar_113 (by omega) (np 58 rfl ?_)
    exact r_iret (dc dkX13_count 9 rfl) rfl ⟨rfl, congrArg (fun z => some (vI z)) (by first | (rw [if_pos (by omega)]; done) | (rw [if_neg (by omega), if_pos (by omega)]; done) | (rw [if_neg (by omega), if_neg (by omega), if_pos (by omega)]; done) | (rw [if_neg (by omega), if_neg (by omega), if_neg (by omega), if_pos (by omega)]; done) | (rw [if_neg (by omega), if_neg (by omega), if_neg (by omega), if_neg (by omega), if_pos (by omega)]; done) | (rw [if_neg (by omega), if_neg (by omega), if_neg (by omega), if_neg (by omega), if_neg (by omega), if_pos (by omega)]; done) | (rw [if_neg (by omega), if_neg (by omega), if_neg (by omega), if_neg (by omega), if_neg (by omega), if_neg (by omega), if_pos (by omega)]; done) | (rw [if_neg (by omega), if_neg (by omega), if_neg (by omega), if_neg (by omega), if_neg (by omega), if_neg (by omega), if_neg (by omega), if_pos (by omega)]; done) | (rw [if_neg (by omega), if_neg (by omega), if_neg (by omega), if_neg (by omega), if_neg (by omega), if_neg (by omega), if_neg (by omega), if_neg (by omega)]; done) | (rw [if_pos (by omega), ju_off _ _ _ _ _ (by decide)]; done) | (rw [if_neg (by omega), if_pos (by omega), ju_off _ _ _ _ _ (by decide)]; done) | (rw [if_neg (by omega), if_neg (by omega), if_pos (by omega), ju_off _ _ _ _ _ (by decide)]; done) | (rw [if_neg (by omega), if_neg (by omega), if_neg (by omega), if_pos (by omega), ju_off _ _ _ _ _ (by decide)]; done) | (rw [if_neg (by omega), if_neg (by omega), if_neg (by omega), if_neg (by omega), if_pos (by omega), ju_off _ _ _ _ _ (by decide)]; done) | (rw [if_neg (by omega), if_neg (by omega), if_neg (by omega), if_neg (by omega), if_neg (by omega), if_pos (by omega), ju_off _ _ _ _ _ (by decide)]; done) | (rw [if_neg (by omega), if_neg (by omega), if_neg (by omega), if_neg (by omega), if_neg (by omega), if_neg (by omega), if_pos (by omega), ju_off _ _ _ _ _ (by decide)]; done) | (rw [if_neg (by omega), if_neg (by omega), if_neg (by omega), if_neg (by omega), if_neg (by omega), if_neg (by omega), if_neg (by omega), if_pos (by omega), ju_off _ _ _ _ _ (by decide)]; done) | (rw [if_pos (by omega), ju_ne (by decide)]; done) | (rw [if_neg (by omega), if_pos (by omega), ju_ne (by decide)]; done) | (rw [if_neg (by omega), if_neg (by omega), if_pos (by omega), ju_ne (by decide)]; done) | (rw [if_neg (by omega), if_neg (by omega), if_neg (by omega), if_pos (by omega), ju_ne (by decide)]; done) | (rw [if_neg (by omega), if_neg (by omega), if_neg (by omega), if_neg (by omega), if_pos (by omega), ju_ne (by decide)]; done) | (rw [if_neg (by omega), if_neg (by omega), if_neg (by omega), if_neg (by omega), if_neg (by omega), if_pos (by omega), ju_ne (by decide)]; done) | (rw [if_neg (by omega), if_neg (by omega), if_neg (by omega), if_neg (by omega), if_neg (by omega), if_neg (by omega), if_pos (by omega), ju_ne (by decide)]; done) | (rw [if_neg (by omega), if_neg (by omega), if_neg (by omega), if_neg (by omega), if_neg (by omega), if_neg (by omega), if_neg (by omega), if_pos (by omega), ju_ne (by decide)]; done))⟩
  by_cases hs1 : w = 1
  · skip
    refine r_tableIn (tgt := 59) (off := 53) (dc dkX13_count 4 rfl) (by omega) (by omega) (by omega) (by rw [show ((w) - (0) : Int).toNat = 1 by omega]; rfl) rfl ?_
    refine r_aload_n (dc dkX13_count 10 rfl) rfl (np 60 rfl ?_)
    refine r_getR (dc dkX13_count 11 rfl) flX13_13 fd_111_15 (np 63 rfl ?_)
    refine r_iconst (dc dkX13_count 12 rfl) (np 64 rfl ?_)
    refine r_iald (dc dkX13_count 13 rfl) ar_113 (by omega) (np 65 rfl ?_)
    exact r_iret (dc dkX13_count 14 rfl) rfl ⟨rfl, congrArg (fun z => some (vI z)) (by first | (rw [if_pos (by omega)]; done) | (rw [if_neg (by omega), if_pos (by omega)]; done) | (rw [if_neg (by omega), if_neg (by omega), if_pos (by omega)]; done) | (rw [if_neg (by omega), if_neg (by omega), if_neg (by omega), if_pos (by omega)]; done) | (rw [if_neg (by omega), if_neg (by omega), if_neg (by omega), if_neg (by omega), if_pos (by omega)]; done) | (rw [if_neg (by omega), if_neg (by omega), if_neg (by omega), if_neg (by omega), if_neg (by omega), if_pos (by omega)]; done) | (rw [if_neg (by omega), if_neg (by omega), if_neg (by omega), if_neg (by omega), if_neg (by omega), if_neg (by omega), if_pos (by omega)]; done) | (rw [if_neg (by omega), if_neg (by omega), if_neg (by omega), if_neg (by omega), if_neg (by omega), if_neg (by omega), if_neg (by omega), if_pos (by omega)]; done) | (rw [if_neg (by omega), if_neg (by omega), if_neg (by omega), if_neg (by omega), if_neg (by omega), if_neg (by omega), if_neg (by omega), if_neg (by omega)]; done) | (rw [if_pos (by omega), ju_off _ _ _ _ _ (by decide)]; done) | (rw [if_neg (by omega), if_pos (by omega), ju_off _ _ _ _ _ (by decide)]; done) | (rw [if_neg (by omega), if_neg (by omega), if_pos (by omega), ju_off _ _ _ _ _ (by decide)]; done) | (rw [if_neg (by omega), if_neg (by omega), if_neg (by omega), if_pos (by omega), ju_off _ _ _ _ _ (by decide)]; done) | (rw [if_neg (by omega), if_neg (by omega), if_neg (by omega), if_neg (by omega), if_pos (by omega), ju_off _ _ _ _ _ (by decide)]; done) | (rw [if_neg (by omega), if_neg (by omega), if_neg (by omega), if_neg (by omega), if_neg (by omega), if_pos (by omega), ju_off _ _ _ _ _ (by decide)]; done) | (rw [if_neg (by omega), if_neg (by omega), if_neg (by omega), if_neg (by omega), if_neg (by omega), if_neg (by omega), if_pos (by omega), ju_off _ _ _ _ _ (by decide)]; done) | (rw [if_neg (by omega), if_neg (by omega), if_neg (by omega), if_neg (by omega), if_neg (by omega), if_neg (by omega), if_neg (by omega), if_pos (by omega), ju_off _ _ _ _ _ (by decide)]; done) | (rw [if_pos (by omega), ju_ne (by decide)]; done) | (rw [if_neg (by omega), if_pos (by omega), ju_ne (by decide)]; done) | (rw [if_neg (by omega), if_neg (by omega), if_pos (by omega), ju_ne (by decide)]; done) | (rw [if_neg (by omega), if_neg (by omega), if_neg (by omega), if_pos (by omega), ju_ne (by decide)]; done) | (rw [if_neg (by omega), if_neg (by omega), if_neg (by omega), if_neg (by omega), if_pos (by omega), ju_ne (by decide)]; done) | (rw [if_neg (by omega), if_neg (by omega), if_neg (by omega), if_neg (by omega), if_neg (by omega), if_pos (by omega), ju_ne (by decide)]; done) | (rw [if_neg (by omega), if_neg (by omega), if_neg (by omega), if_neg (by omega), if_neg (by omega), if_neg (by omega), if_pos (by omega), ju_ne (by decide)]; done) | (rw [if_neg (by omega), if_neg (by omega), if_neg (by omega), if_neg (by omega), if_neg (by omega), if_neg (by omega), if_neg (by omega), if_pos (by omega), ju_ne (by decide)]; done))⟩
  by_cases hs2 : w = 2
  · skip
    refine r_tableIn (tgt := 66) (off := 60) (dc dkX13_count 4 rfl) (by omega) (by omega) (by omega) (by rw [show ((w) - (0) : Int).toNat = 2 by omega]; rfl) rfl ?_
    refine r_aload_n (dc dkX13_count 15 rfl) rfl (np 67 rfl ?_)
    refine r_pV0 (y' := miX13_bands) (dc dkX13_count 16 rfl) mlX13_276 ceX13_bands ob_111 (Nat.le_of_ble_eq_true rfl) (Nat.le_of_ble_eq_true rfl) (c_X13_bands ) (np 70 rfl ?_)
    exact r_iret (dc dkX13_count 17 rfl) rfl ⟨rfl, congrArg (fun z => some (vI z)) (by first | (rw [if_pos (by omega)]; done) | (rw [if_neg (by omega), if_pos (by omega)]; done) | (rw [if_neg (by omega), if_neg (by omega), if_pos (by omega)]; done) | (rw [if_neg (by omega), if_neg (by omega), if_neg (by omega), if_pos (by omega)]; done) | (rw [if_neg (by omega), if_neg (by omega), if_neg (by omega), if_neg (by omega), if_pos (by omega)]; done) | (rw [if_neg (by omega), if_neg (by omega), if_neg (by omega), if_neg (by omega), if_neg (by omega), if_pos (by omega)]; done) | (rw [if_neg (by omega), if_neg (by omega), if_neg (by omega), if_neg (by omega), if_neg (by omega), if_neg (by omega), if_pos (by omega)]; done) | (rw [if_neg (by omega), if_neg (by omega), if_neg (by omega), if_neg (by omega), if_neg (by omega), if_neg (by omega), if_neg (by omega), if_pos (by omega)]; done) | (rw [if_neg (by omega), if_neg (by omega), if_neg (by omega), if_neg (by omega), if_neg (by omega), if_neg (by omega), if_neg (by omega), if_neg (by omega)]; done) | (rw [if_pos (by omega), ju_off _ _ _ _ _ (by decide)]; done) | (rw [if_neg (by omega), if_pos (by omega), ju_off _ _ _ _ _ (by decide)]; done) | (rw [if_neg (by omega), if_neg (by omega), if_pos (by omega), ju_off _ _ _ _ _ (by decide)]; done) | (rw [if_neg (by omega), if_neg (by omega), if_neg (by omega), if_pos (by omega), ju_off _ _ _ _ _ (by decide)]; done) | (rw [if_neg (by omega), if_neg (by omega), if_neg (by omega), if_neg (by omega), if_pos (by omega), ju_off _ _ _ _ _ (by decide)]; done) | (rw [if_neg (by omega), if_neg (by omega), if_neg (by omega), if_neg (by omega), if_neg (by omega), if_pos (by omega), ju_off _ _ _ _ _ (by decide)]; done) | (rw [if_neg (by omega), if_neg (by omega), if_neg (by omega), if_neg (by omega), if_neg (by omega), if_neg (by omega), if_pos (by omega), ju_off _ _ _ _ _ (by decide)]; done) | (rw [if_neg (by omega), if_neg (by omega), if_neg (by omega), if_neg (by omega), if_neg (by omega), if_neg (by omega), if_neg (by omega), if_pos (by omega), ju_off _ _ _ _ _ (by decide)]; done) | (rw [if_pos (by omega), ju_ne (by decide)]; done) | (rw [if_neg (by omega), if_pos (by omega), ju_ne (by decide)]; done) | (rw [if_neg (by omega), if_neg (by omega), if_pos (by omega), ju_ne (by decide)]; done) | (rw [if_neg (by omega), if_neg (by omega), if_neg (by omega), if_pos (by omega), ju_ne (by decide)]; done) | (rw [if_neg (by omega), if_neg (by omega), if_neg (by omega), if_neg (by omega), if_pos (by omega), ju_ne (by decide)]; done) | (rw [if_neg (by omega), if_neg (by omega), if_neg (by omega), if_neg (by omega), if_neg (by omega), if_pos (by omega), ju_ne (by decide)]; done) | (rw [if_neg (by omega), if_neg (by omega), if_neg (by omega), if_neg (by omega), if_neg (by omega), if_neg (by omega), if_pos (by omega), ju_ne (by decide)]; done) | (rw [if_neg (by omega), if_neg (by omega), if_neg (by omega), if_neg (by omega), if_neg (by omega), if_neg (by omega), if_neg (by omega), if_pos (by omega), ju_ne (by decide)]; done))⟩
  by_cases hs3 : w = 3
  · skip
    refine r_tableIn (tgt := 71) (off := 65) (dc dkX13_count 4 rfl) (by omega) (by omega) (by omega) (by rw [show ((w) - (0) : Int).toNat = 3 by omega]; rfl) rfl ?_
    refine r_aload_n (dc dkX13_count 18 rfl) rfl (np 72 rfl ?_)
    refine r_getR (dc dkX13_count 19 rfl) flX13_13 fd_111_15 (np 75 rfl ?_)
    refine r_iconst (dc dkX13_count 20 rfl) (np 76 rfl ?_)
    refine r_iald (dc dkX13_count 21 rfl) ar_113 (by omega) (np 77 rfl ?_)
    exact r_iret (dc dkX13_count 22 rfl) rfl ⟨rfl, congrArg (fun z => some (vI z)) (by first | (rw [if_pos (by omega)]; done) | (rw [if_neg (by omega), if_pos (by omega)]; done) | (rw [if_neg (by omega), if_neg (by omega), if_pos (by omega)]; done) | (rw [if_neg (by omega), if_neg (by omega), if_neg (by omega), if_pos (by omega)]; done) | (rw [if_neg (by omega), if_neg (by omega), if_neg (by omega), if_neg (by omega), if_pos (by omega)]; done) | (rw [if_neg (by omega), if_neg (by omega), if_neg (by omega), if_neg (by omega), if_neg (by omega), if_pos (by omega)]; done) | (rw [if_neg (by omega), if_neg (by omega), if_neg (by omega), if_neg (by omega), if_neg (by omega), if_neg (by omega), if_pos (by omega)]; done) | (rw [if_neg (by omega), if_neg (by omega), if_neg (by omega), if_neg (by omega), if_neg (by omega), if_neg (by omega), if_neg (by omega), if_pos (by omega)]; done) | (rw [if_neg (by omega), if_neg (by omega), if_neg (by omega), if_neg (by omega), if_neg (by omega), if_neg (by omega), if_neg (by omega), if_neg (by omega)]; done) | (rw [if_pos (by omega), ju_off _ _ _ _ _ (by decide)]; done) | (rw [if_neg (by omega), if_pos (by omega), ju_off _ _ _ _ _ (by decide)]; done) | (rw [if_neg (by omega), if_neg (by omega), if_pos (by omega), ju_off _ _ _ _ _ (by decide)]; done) | (rw [if_neg (by omega), if_neg (by omega), if_neg (by omega), if_pos (by omega), ju_off _ _ _ _ _ (by decide)]; done) | (rw [if_neg (by omega), if_neg (by omega), if_neg (by omega), if_neg (by omega), if_pos (by omega), ju_off _ _ _ _ _ (by decide)]; done) | (rw [if_neg (by omega), if_neg (by omega), if_neg (by omega), if_neg (by omega), if_neg (by omega), if_pos (by omega), ju_off _ _ _ _ _ (by decide)]; done) | (rw [if_neg (by omega), if_neg (by omega), if_neg (by omega), if_neg (by omega), if_neg (by omega), if_neg (by omega), if_pos (by omega), ju_off _ _ _ _ _ (by decide)]; done) | (rw [if_neg (by omega), if_neg (by omega), if_neg (by omega), if_neg (by omega), if_neg (by omega), if_neg (by omega), if_neg (by omega), if_pos (by omega), ju_off _ _ _ _ _ (by decide)]; done) | (rw [if_pos (by omega), ju_ne (by decide)]; done) | (rw [if_neg (by omega), if_pos (by omega), ju_ne (by decide)]; done) | (rw [if_neg (by omega), if_neg (by omega), if_pos (by omega), ju_ne (by decide)]; done) | (rw [if_neg (by omega), if_neg (by omega), if_neg (by omega), if_pos (by omega), ju_ne (by decide)]; done) | (rw [if_neg (by omega), if_neg (by omega), if_neg (by omega), if_neg (by omega), if_pos (by omega), ju_ne (by decide)]; done) | (rw [if_neg (by omega), if_neg (by omega), if_neg (by omega), if_neg (by omega), if_neg (by omega), if_pos (by omega), ju_ne (by decide)]; done) | (rw [if_neg (by omega), if_neg (by omega), if_neg (by omega), if_neg (by omega), if_neg (by omega), if_neg (by omega), if_pos (by omega), ju_ne (by decide)]; done) | (rw [if_neg (by omega), if_neg (by omega), if_neg (by omega), if_neg (by omega), if_neg (by omega), if_neg (by omega), if_neg (by omega), if_pos (by omega), ju_ne (by decide)]; done))⟩
  by_cases hs4 : w = 4
  · skip
    refine r_tableIn (tgt := 78) (off := 72) (dc dkX13_count 4 rfl) (by omega) (by omega) (by omega) (by rw [show ((w) - (0) : Int).toNat = 4 by omega]; rfl) rfl ?_
    refine r_aload_n (dc dkX13_count 23 rfl) rfl (np 79 rfl ?_)
    refine r_getR (dc dkX13_count 24 rfl) flX13_13 fd_111_15 (np 82 rfl ?_)
    refine r_iconst (dc dkX13_count 25 rfl) (np 83 rfl ?_)
    refine r_iald (dc dkX13_count 26 rfl) ar_113 (by omega) (np 84 rfl ?_)
    exact r_iret (dc dkX13_count 27 rfl) rfl ⟨rfl, congrArg (fun z => some (vI z)) (by first | (rw [if_pos (by omega)]; done) | (rw [if_neg (by omega), if_pos (by omega)]; done) | (rw [if_neg (by omega), if_neg (by omega), if_pos (by omega)]; done) | (rw [if_neg (by omega), if_neg (by omega), if_neg (by omega), if_pos (by omega)]; done) | (rw [if_neg (by omega), if_neg (by omega), if_neg (by omega), if_neg (by omega), if_pos (by omega)]; done) | (rw [if_neg (by omega), if_neg (by omega), if_neg (by omega), if_neg (by omega), if_neg (by omega), if_pos (by omega)]; done) | (rw [if_neg (by omega), if_neg (by omega), if_neg (by omega), if_neg (by omega), if_neg (by omega), if_neg (by omega), if_pos (by omega)]; done) | (rw [if_neg (by omega), if_neg (by omega), if_neg (by omega), if_neg (by omega), if_neg (by omega), if_neg (by omega), if_neg (by omega), if_pos (by omega)]; done) | (rw [if_neg (by omega), if_neg (by omega), if_neg (by omega), if_neg (by omega), if_neg (by omega), if_neg (by omega), if_neg (by omega), if_neg (by omega)]; done) | (rw [if_pos (by omega), ju_off _ _ _ _ _ (by decide)]; done) | (rw [if_neg (by omega), if_pos (by omega), ju_off _ _ _ _ _ (by decide)]; done) | (rw [if_neg (by omega), if_neg (by omega), if_pos (by omega), ju_off _ _ _ _ _ (by decide)]; done) | (rw [if_neg (by omega), if_neg (by omega), if_neg (by omega), if_pos (by omega), ju_off _ _ _ _ _ (by decide)]; done) | (rw [if_neg (by omega), if_neg (by omega), if_neg (by omega), if_neg (by omega), if_pos (by omega), ju_off _ _ _ _ _ (by decide)]; done) | (rw [if_neg (by omega), if_neg (by omega), if_neg (by omega), if_neg (by omega), if_neg (by omega), if_pos (by omega), ju_off _ _ _ _ _ (by decide)]; done) | (rw [if_neg (by omega), if_neg (by omega), if_neg (by omega), if_neg (by omega), if_neg (by omega), if_neg (by omega), if_pos (by omega), ju_off _ _ _ _ _ (by decide)]; done) | (rw [if_neg (by omega), if_neg (by omega), if_neg (by omega), if_neg (by omega), if_neg (by omega), if_neg (by omega), if_neg (by omega), if_pos (by omega), ju_off _ _ _ _ _ (by decide)]; done) | (rw [if_pos (by omega), ju_ne (by decide)]; done) | (rw [if_neg (by omega), if_pos (by omega), ju_ne (by decide)]; done) | (rw [if_neg (by omega), if_neg (by omega), if_pos (by omega), ju_ne (by decide)]; done) | (rw [if_neg (by omega), if_neg (by omega), if_neg (by omega), if_pos (by omega), ju_ne (by decide)]; done) | (rw [if_neg (by omega), if_neg (by omega), if_neg (by omega), if_neg (by omega), if_pos (by omega), ju_ne (by decide)]; done) | (rw [if_neg (by omega), if_neg (by omega), if_neg (by omega), if_neg (by omega), if_neg (by omega), if_pos (by omega), ju_ne (by decide)]; done) | (rw [if_neg (by omega), if_neg (by omega), if_neg (by omega), if_neg (by omega), if_neg (by omega), if_neg (by omega), if_pos (by omega), ju_ne (by decide)]; done) | (rw [if_neg (by omega), if_neg (by omega), if_neg (by omega), if_neg (by omega), if_neg (by omega), if_neg (by omega), if_neg (by omega), if_pos (by omega), ju_ne (by decide)]; done))⟩
  by_cases hs5 : w = 5
  · skip
    refine r_tableIn (tgt := 85) (off := 79) (dc dkX13_count 4 rfl) (by omega) (by omega) (by omega) (by rw [show ((w) - (0) : Int).toNat = 5 by omega]; rfl) rfl ?_
    refine r_aload_n (dc dkX13_count 28 rfl) rfl (np 86 rfl ?_)
    refine r_getR (dc dkX13_count 29 rfl) flX13_13 fd_111_15 (np 89 rfl ?_)
    refine r_sipush (dc dkX13_count 30 rfl) sp_242 (np 92 rfl ?_)
    refine r_iald (dc dkX13_count 31 rfl) ar_113 (by omega) (np 93 rfl ?_)
    exact r_iret (dc dkX13_count 32 rfl) rfl ⟨rfl, congrArg (fun z => some (vI z)) (by first | (rw [if_pos (by omega)]; done) | (rw [if_neg (by omega), if_pos (by omega)]; done) | (rw [if_neg (by omega), if_neg (by omega), if_pos (by omega)]; done) | (rw [if_neg (by omega), if_neg (by omega), if_neg (by omega), if_pos (by omega)]; done) | (rw [if_neg (by omega), if_neg (by omega), if_neg (by omega), if_neg (by omega), if_pos (by omega)]; done) | (rw [if_neg (by omega), if_neg (by omega), if_neg (by omega), if_neg (by omega), if_neg (by omega), if_pos (by omega)]; done) | (rw [if_neg (by omega), if_neg (by omega), if_neg (by omega), if_neg (by omega), if_neg (by omega), if_neg (by omega), if_pos (by omega)]; done) | (rw [if_neg (by omega), if_neg (by omega), if_neg (by omega), if_neg (by omega), if_neg (by omega), if_neg (by omega), if_neg (by omega), if_pos (by omega)]; done) | (rw [if_neg (by omega), if_neg (by omega), if_neg (by omega), if_neg (by omega), if_neg (by omega), if_neg (by omega), if_neg (by omega), if_neg (by omega)]; done) | (rw [if_pos (by omega), ju_off _ _ _ _ _ (by decide)]; done) | (rw [if_neg (by omega), if_pos (by omega), ju_off _ _ _ _ _ (by decide)]; done) | (rw [if_neg (by omega), if_neg (by omega), if_pos (by omega), ju_off _ _ _ _ _ (by decide)]; done) | (rw [if_neg (by omega), if_neg (by omega), if_neg (by omega), if_pos (by omega), ju_off _ _ _ _ _ (by decide)]; done) | (rw [if_neg (by omega), if_neg (by omega), if_neg (by omega), if_neg (by omega), if_pos (by omega), ju_off _ _ _ _ _ (by decide)]; done) | (rw [if_neg (by omega), if_neg (by omega), if_neg (by omega), if_neg (by omega), if_neg (by omega), if_pos (by omega), ju_off _ _ _ _ _ (by decide)]; done) | (rw [if_neg (by omega), if_neg (by omega), if_neg (by omega), if_neg (by omega), if_neg (by omega), if_neg (by omega), if_pos (by omega), ju_off _ _ _ _ _ (by decide)]; done) | (rw [if_neg (by omega), if_neg (by omega), if_neg (by omega), if_neg (by omega), if_neg (by omega), if_neg (by omega), if_neg (by omega), if_pos (by omega), ju_off _ _ _ _ _ (by decide)]; done) | (rw [if_pos (by omega), ju_ne (by decide)]; done) | (rw [if_neg (by omega), if_pos (by omega), ju_ne (by decide)]; done) | (rw [if_neg (by omega), if_neg (by omega), if_pos (by omega), ju_ne (by decide)]; done) | (rw [if_neg (by omega), if_neg (by omega), if_neg (by omega), if_pos (by omega), ju_ne (by decide)]; done) | (rw [if_neg (by omega), if_neg (by omega), if_neg (by omega), if_neg (by omega), if_pos (by omega), ju_ne (by decide)]; done) | (rw [if_neg (by omega), if_neg (by omega), if_neg (by omega), if_neg (by omega), if_neg (by omega), if_pos (by omega), ju_ne (by decide)]; done) | (rw [if_neg (by omega), if_neg (by omega), if_neg (by omega), if_neg (by omega), if_neg (by omega), if_neg (by omega), if_pos (by omega), ju_ne (by decide)]; done) | (rw [if_neg (by omega), if_neg (by omega), if_neg (by omega), if_neg (by omega), if_neg (by omega), if_neg (by omega), if_neg (by omega), if_pos (by omega), ju_ne (by decide)]; done))⟩
  by_cases hs6 : w = 6
  · skip
    refine r_tableIn (tgt := 94) (off := 88) (dc dkX13_count 4 rfl) (by omega) (by omega) (by omega) (by rw [show ((w) - (0) : Int).toNat = 6 by omega]; rfl) rfl ?_
    refine r_aload_n (dc dkX13_count 33 rfl) rfl (np 95 rfl ?_)
    refine r_getR (dc dkX13_count 34 rfl) flX13_13 fd_111_15 (np 98 rfl ?_)
    refine r_sipush (dc dkX13_count 35 rfl) sp_261 (np 101 rfl ?_)
    refine r_iald (dc dkX13_count 36 rfl) ar_113 (by omega) (np 102 rfl ?_)
    exact r_iret (dc dkX13_count 37 rfl) rfl ⟨rfl, congrArg (fun z => some (vI z)) (by first | (rw [if_pos (by omega)]; done) | (rw [if_neg (by omega), if_pos (by omega)]; done) | (rw [if_neg (by omega), if_neg (by omega), if_pos (by omega)]; done) | (rw [if_neg (by omega), if_neg (by omega), if_neg (by omega), if_pos (by omega)]; done) | (rw [if_neg (by omega), if_neg (by omega), if_neg (by omega), if_neg (by omega), if_pos (by omega)]; done) | (rw [if_neg (by omega), if_neg (by omega), if_neg (by omega), if_neg (by omega), if_neg (by omega), if_pos (by omega)]; done) | (rw [if_neg (by omega), if_neg (by omega), if_neg (by omega), if_neg (by omega), if_neg (by omega), if_neg (by omega), if_pos (by omega)]; done) | (rw [if_neg (by omega), if_neg (by omega), if_neg (by omega), if_neg (by omega), if_neg (by omega), if_neg (by omega), if_neg (by omega), if_pos (by omega)]; done) | (rw [if_neg (by omega), if_neg (by omega), if_neg (by omega), if_neg (by omega), if_neg (by omega), if_neg (by omega), if_neg (by omega), if_neg (by omega)]; done) | (rw [if_pos (by omega), ju_off _ _ _ _ _ (by decide)]; done) | (rw [if_neg (by omega), if_pos (by omega), ju_off _ _ _ _ _ (by decide)]; done) | (rw [if_neg (by omega), if_neg (by omega), if_pos (by omega), ju_off _ _ _ _ _ (by decide)]; done) | (rw [if_neg (by omega), if_neg (by omega), if_neg (by omega), if_pos (by omega), ju_off _ _ _ _ _ (by decide)]; done) | (rw [if_neg (by omega), if_neg (by omega), if_neg (by omega), if_neg (by omega), if_pos (by omega), ju_off _ _ _ _ _ (by decide)]; done) | (rw [if_neg (by omega), if_neg (by omega), if_neg (by omega), if_neg (by omega), if_neg (by omega), if_pos (by omega), ju_off _ _ _ _ _ (by decide)]; done) | (rw [if_neg (by omega), if_neg (by omega), if_neg (by omega), if_neg (by omega), if_neg (by omega), if_neg (by omega), if_pos (by omega), ju_off _ _ _ _ _ (by decide)]; done) | (rw [if_neg (by omega), if_neg (by omega), if_neg (by omega), if_neg (by omega), if_neg (by omega), if_neg (by omega), if_neg (by omega), if_pos (by omega), ju_off _ _ _ _ _ (by decide)]; done) | (rw [if_pos (by omega), ju_ne (by decide)]; done) | (rw [if_neg (by omega), if_pos (by omega), ju_ne (by decide)]; done) | (rw [if_neg (by omega), if_neg (by omega), if_pos (by omega), ju_ne (by decide)]; done) | (rw [if_neg (by omega), if_neg (by omega), if_neg (by omega), if_pos (by omega), ju_ne (by decide)]; done) | (rw [if_neg (by omega), if_neg (by omega), if_neg (by omega), if_neg (by omega), if_pos (by omega), ju_ne (by decide)]; done) | (rw [if_neg (by omega), if_neg (by omega), if_neg (by omega), if_neg (by omega), if_neg (by omega), if_pos (by omega), ju_ne (by decide)]; done) | (rw [if_neg (by omega), if_neg (by omega), if_neg (by omega), if_neg (by omega), if_neg (by omega), if_neg (by omega), if_pos (by omega), ju_ne (by decide)]; done) | (rw [if_neg (by omega), if_neg (by omega), if_neg (by omega), if_neg (by omega), if_neg (by omega), if_neg (by omega), if_neg (by omega), if_pos (by omega), ju_ne (by decide)]; done))⟩
  by_cases hs7 : w = 7
  · skip
    refine r_tableIn (tgt := 103) (off := 97) (dc dkX13_count 4 rfl) (by omega) (by omega) (by omega) (by rw [show ((w) - (0) : Int).toNat = 7 by omega]; rfl) rfl ?_
    refine r_aload_n (dc dkX13_count 38 rfl) rfl (np 104 rfl ?_)
    refine r_gI 2 (dc dkX13_count 39 rfl) flX13_98 fd_111_2 rfl (np 107 rfl ?_)
    exact r_iret (dc dkX13_count 40 rfl) rfl ⟨rfl, congrArg (fun z => some (vI z)) (by first | (rw [if_pos (by omega)]; done) | (rw [if_neg (by omega), if_pos (by omega)]; done) | (rw [if_neg (by omega), if_neg (by omega), if_pos (by omega)]; done) | (rw [if_neg (by omega), if_neg (by omega), if_neg (by omega), if_pos (by omega)]; done) | (rw [if_neg (by omega), if_neg (by omega), if_neg (by omega), if_neg (by omega), if_pos (by omega)]; done) | (rw [if_neg (by omega), if_neg (by omega), if_neg (by omega), if_neg (by omega), if_neg (by omega), if_pos (by omega)]; done) | (rw [if_neg (by omega), if_neg (by omega), if_neg (by omega), if_neg (by omega), if_neg (by omega), if_neg (by omega), if_pos (by omega)]; done) | (rw [if_neg (by omega), if_neg (by omega), if_neg (by omega), if_neg (by omega), if_neg (by omega), if_neg (by omega), if_neg (by omega), if_pos (by omega)]; done) | (rw [if_neg (by omega), if_neg (by omega), if_neg (by omega), if_neg (by omega), if_neg (by omega), if_neg (by omega), if_neg (by omega), if_neg (by omega)]; done) | (rw [if_pos (by omega), ju_off _ _ _ _ _ (by decide)]; done) | (rw [if_neg (by omega), if_pos (by omega), ju_off _ _ _ _ _ (by decide)]; done) | (rw [if_neg (by omega), if_neg (by omega), if_pos (by omega), ju_off _ _ _ _ _ (by decide)]; done) | (rw [if_neg (by omega), if_neg (by omega), if_neg (by omega), if_pos (by omega), ju_off _ _ _ _ _ (by decide)]; done) | (rw [if_neg (by omega), if_neg (by omega), if_neg (by omega), if_neg (by omega), if_pos (by omega), ju_off _ _ _ _ _ (by decide)]; done) | (rw [if_neg (by omega), if_neg (by omega), if_neg (by omega), if_neg (by omega), if_neg (by omega), if_pos (by omega), ju_off _ _ _ _ _ (by decide)]; done) | (rw [if_neg (by omega), if_neg (by omega), if_neg (by omega), if_neg (by omega), if_neg (by omega), if_neg (by omega), if_pos (by omega), ju_off _ _ _ _ _ (by decide)]; done) | (rw [if_neg (by omega), if_neg (by omega), if_neg (by omega), if_neg (by omega), if_neg (by omega), if_neg (by omega), if_neg (by omega), if_pos (by omega), ju_off _ _ _ _ _ (by decide)]; done) | (rw [if_pos (by omega), ju_ne (by decide)]; done) | (rw [if_neg (by omega), if_pos (by omega), ju_ne (by decide)]; done) | (rw [if_neg (by omega), if_neg (by omega), if_pos (by omega), ju_ne (by decide)]; done) | (rw [if_neg (by omega), if_neg (by omega), if_neg (by omega), if_pos (by omega), ju_ne (by decide)]; done) | (rw [if_neg (by omega), if_neg (by omega), if_neg (by omega), if_neg (by omega), if_pos (by omega), ju_ne (by decide)]; done) | (rw [if_neg (by omega), if_neg (by omega), if_neg (by omega), if_neg (by omega), if_neg (by omega), if_pos (by omega), ju_ne (by decide)]; done) | (rw [if_neg (by omega), if_neg (by omega), if_neg (by omega), if_neg (by omega), if_neg (by omega), if_neg (by omega), if_pos (by omega), ju_ne (by decide)]; done) | (rw [if_neg (by omega), if_neg (by omega), if_neg (by omega), if_neg (by omega), if_neg (by omega), if_neg (by omega), if_neg (by omega), if_pos (by omega), ju_ne (by decide)]; done))⟩
  refine r_tableOut (tgt := 108) (dc dkX13_count 4 rfl) (by first | assumption | decide | omega) (by omega) rfl ?_
  refine r_iconst (dc dkX13_count 41 rfl) (np 109 rfl ?_)
  exact r_iret (dc dkX13_count 42 rfl) rfl ⟨rfl, congrArg (fun z => some (vI z)) (by first | (rw [if_pos (by omega)]; done) | (rw [if_neg (by omega), if_pos (by omega)]; done) | (rw [if_neg (by omega), if_neg (by omega), if_pos (by omega)]; done) | (rw [if_neg (by omega), if_neg (by omega), if_neg (by omega), if_pos (by omega)]; done) | (rw [if_neg (by omega), if_neg (by omega), if_neg (by omega), if_neg (by omega), if_pos (by omega)]; done) | (rw [if_neg (by omega), if_neg (by omega), if_neg (by omega), if_neg (by omega), if_neg (by omega), if_pos (by omega)]; done) | (rw [if_neg (by omega), if_neg (by omega), if_neg (by omega), if_neg (by omega), if_neg (by omega), if_neg (by omega), if_pos (by omega)]; done) | (rw [if_neg (by omega), if_neg (by omega), if_neg (by omega), if_neg (by omega), if_neg (by omega), if_neg (by omega), if_neg (by omega), if_pos (by omega)]; done) | (rw [if_neg (by omega), if_neg (by omega), if_neg (by omega), if_neg (by omega), if_neg (by omega), if_neg (by omega), if_neg (by omega), if_neg (by omega)]; done) | (rw [if_pos (by omega), ju_off _ _ _ _ _ (by decide)]; done) | (rw [if_neg (by omega), if_pos (by omega), ju_off _ _ _ _ _ (by decide)]; done) | (rw [if_neg (by omega), if_neg (by omega), if_pos (by omega), ju_off _ _ _ _ _ (by decide)]; done) | (rw [if_neg (by omega), if_neg (by omega), if_neg (by omega), if_pos (by omega), ju_off _ _ _ _ _ (by decide)]; done) | (rw [if_neg (by omega), if_neg (by omega), if_neg (by omega), if_neg (by omega), if_pos (by omega), ju_off _ _ _ _ _ (by decide)]; done) | (rw [if_neg (by omega), if_neg (by omega), if_neg (by omega), if_neg (by omega), if_neg (by omega), if_pos (by omega), ju_off _ _ _ _ _ (by decide)]; done) | (rw [if_neg (by omega), if_neg (by omega), if_neg (by omega), if_neg (by omega), if_neg (by omega), if_neg (by omega), if_pos (by omega), ju_off _ _ _ _ _ (by decide)]; done) | (rw [if_neg (by omega), if_neg (by omega), if_neg (by omega), if_neg (by omega), if_neg (by omega), if_neg (by omega), if_neg (by omega), if_pos (by omega), ju_off _ _ _ _ _ (by decide)]; done) | (rw [if_pos (by omega), ju_ne (by decide)]; done) | (rw [if_neg (by omega), if_pos (by omega), ju_ne (by decide)]; done) | (rw [if_neg (by omega), if_neg (by omega), if_pos (by omega), ju_ne (by decide)]; done) | (rw [if_neg (by omega), if_neg (by omega), if_neg (by omega), if_pos (by omega), ju_ne (by decide)]; done) | (rw [if_neg (by omega), if_neg (by omega), if_neg (by omega), if_neg (by omega), if_pos (by omega), ju_ne (by decide)]; done) | (rw [if_neg (by omega), if_neg (by omega), if_neg (by omega), if_neg (by omega), if_neg (by omega), if_pos (by omega), ju_ne (by decide)]; done) | (rw [if_neg (by omega), if_neg (by omega), if_neg (by omega), if_neg (by omega), if_neg (by omega), if_neg (by omega), if_pos (by omega), ju_ne (by decide)]; done) | (rw [if_neg (by omega), if_neg (by omega), if_neg (by omega), if_neg (by omega), if_neg (by omega), if_neg (by omega), if_neg (by omega), if_pos (by omega), ju_ne (by decide)]; done))⟩
set_option maxRecDepth 100000 in
set_option maxHeartbeats 4000000 in
theorem c_X13_again {σ : jS} : Jm 1 miX13_again [.ref 111] σ (fun r τ => r = some (vI (σ 113 261)) ∧ τ = ju (ju σ 111 0 0) 113 261 0) := by
  refine jm_ofF (Po := (fun r τ => r = some (vI (σ 113 261)) ∧ τ = ju (ju σ 111 0 0) 113 261 0)) (plainFor_of_name (by decide)) (Nat.le_of_ble_eq_true rfl) (lv := [(0, _)]) rfl ?_
  refine r_aload_n (dc dkX13_again 0 rfl) rfl (np 1 rfl ?_)
  refine r_iconst (dc dkX13_again 1 rfl) (np 2 rfl ?_)
  refine r_pI 0 (dc dkX13_again 2 rfl) fpX13_94 fd_111_0 rfl (np 5 rfl ?_)
  refine r_aload_n (dc dkX13_again 3 rfl) rfl (np 6 rfl ?_)
  refine r_getR (dc dkX13_again 4 rfl) flX13_13 fd_111_15 (np 9 rfl ?_)
  refine r_sipush (dc dkX13_again 5 rfl) sp_261 (np 12 rfl ?_)
  refine r_iald (dc dkX13_again 6 rfl) ar_113 (by omega) (np 13 rfl ?_)
  refine r_istore_n (lv' := [(1, _), (0, _)]) (dc dkX13_again 7 rfl) (Nat.le_of_ble_eq_true rfl) rfl (np 14 rfl ?_)
  refine r_aload_n (dc dkX13_again 8 rfl) rfl (np 15 rfl ?_)
  refine r_getR (dc dkX13_again 9 rfl) flX13_13 fd_111_15 (np 18 rfl ?_)
  refine r_sipush (dc dkX13_again 10 rfl) sp_261 (np 21 rfl ?_)
  refine r_iconst (dc dkX13_again 11 rfl) (np 22 rfl ?_)
  refine r_iast (dc dkX13_again 12 rfl) ar_113 (by omega) (np 23 rfl ?_)
  refine r_iload_n (dc dkX13_again 13 rfl) rfl (np 24 rfl ?_)
  exact r_iret (dc dkX13_again 14 rfl) rfl ⟨by rw [ju_off _ _ _ _ _ (by decide)], rfl⟩
set_option maxRecDepth 100000 in
set_option maxHeartbeats 4000000 in
theorem c_X13_byteAt {σ : jS} {i : Int} (hi : iR i) (h36 : cB 200 (σ 111 36)) : Jm 1 miX13_byteAt [.ref 111, vI i] σ (fun r τ => τ = ju σ 111 0 0 ∧ r = some (vI (if 0 ≤ i ∧ i < σ 111 36 then σ 130 i else -1))) := by
  have e33 : ju σ 111 0 0 111 36 = σ 111 36 := ju_ne (by decide)
  refine jm_ofF (Po := (fun r τ => τ = ju σ 111 0 0 ∧ r = some (vI (if 0 ≤ i ∧ i < σ 111 36 then σ 130 i else -1)))) (plainFor_of_name (by decide)) (Nat.le_of_ble_eq_true rfl) (lv := [(0, _), (1, _)]) rfl ?_
  refine r_aload_n (dc dkX13_byteAt 0 rfl) rfl (np 1 rfl ?_)
  refine r_iconst (dc dkX13_byteAt 1 rfl) (np 2 rfl ?_)
  refine r_pI 0 (dc dkX13_byteAt 2 rfl) fpX13_94 fd_111_0 rfl (np 5 rfl ?_)
  refine r_iload_n (dc dkX13_byteAt 3 rfl) rfl (np 6 rfl ?_)
  refine r_if_lt (tgt := 26) (dc dkX13_byteAt 4 rfl) rfl (by first | assumption | decide | omega) (fun h6 => ?_) (fun h6 => (np 9 rfl ?_))
  · skip
    refine r_iconst (dc dkX13_byteAt 14 rfl) (np 27 rfl ?_)
    exact r_iret (dc dkX13_byteAt 15 rfl) rfl (by
        try rw [e33] at h14
        first | exact ⟨rfl, by rw [if_neg (by omega)]⟩ | exact ⟨rfl, by rw [if_pos (by omega), ju_off _ _ _ _ _ (by decide)]⟩)
  refine r_iload_n (dc dkX13_byteAt 5 rfl) rfl (np 10 rfl ?_)
  refine r_aload_n (dc dkX13_byteAt 6 rfl) rfl (np 11 rfl ?_)
  refine r_gI 36 (dc dkX13_byteAt 7 rfl) flX13_399 fd_111_36 rfl (np 14 rfl ?_)
  refine r_icmp_ge (tgt := 26) (dc dkX13_byteAt 8 rfl) rfl (by first | assumption | decide | omega) (by rw [e33]; omega) (fun h14 => ?_) (fun h14 => (np 17 rfl ?_))
  · skip
    refine r_iconst (dc dkX13_byteAt 14 rfl) (np 27 rfl ?_)
    exact r_iret (dc dkX13_byteAt 15 rfl) rfl (by
        try rw [e33] at h14
        first | exact ⟨rfl, by rw [if_neg (by omega)]⟩ | exact ⟨rfl, by rw [if_pos (by omega), ju_off _ _ _ _ _ (by decide)]⟩)
  refine r_aload_n (dc dkX13_byteAt 9 rfl) rfl (np 18 rfl ?_)
  refine r_getR (dc dkX13_byteAt 10 rfl) flX13_66 fd_111_35 (np 21 rfl ?_)
  refine r_iload_n (dc dkX13_byteAt 11 rfl) rfl (np 22 rfl ?_)
  refine r_iald (dc dkX13_byteAt 12 rfl) ar_130 (by omega) (np 23 rfl ?_)
  refine r_goto (tgt := 27) (dc dkX13_byteAt 13 rfl) rfl ?_
  exact r_iret (dc dkX13_byteAt 15 rfl) rfl (by
      try rw [e33] at h14
      first | exact ⟨rfl, by rw [if_neg (by omega)]⟩ | exact ⟨rfl, by rw [if_pos (by omega), ju_off _ _ _ _ _ (by decide)]⟩)
set_option maxRecDepth 100000 in
set_option maxHeartbeats 4000000 in
theorem c_X13_end {σ : jS} (hL : cB 640 (σ 111 2)) {n : Int} (hn : iR n) : Jm 1 miX13_end [.ref 111, vI n] σ (fun r τ => r = some (vI (bI (0 ≤ n ∧ n ≤ σ 111 2))) ∧ τ = gte (0 ≤ n ∧ n ≤ σ 111 2) (ju (ju σ 111 0 0) 111 2 n) (ju σ 111 0 0)) := by
  have e33 : ju σ 111 0 0 111 2 = σ 111 2 := ju_ne (by decide)
  refine jm_ofF (Po := (fun r τ => r = some (vI (bI (0 ≤ n ∧ n ≤ σ 111 2))) ∧ τ = gte (0 ≤ n ∧ n ≤ σ 111 2) (ju (ju σ 111 0 0) 111 2 n) (ju σ 111 0 0))) (plainFor_of_name (by decide)) (Nat.le_of_ble_eq_true rfl) (lv := [(0, _), (1, _)]) rfl ?_
  refine r_aload_n (dc dkX13_end 0 rfl) rfl (np 1 rfl ?_)
  refine r_iconst (dc dkX13_end 1 rfl) (np 2 rfl ?_)
  refine r_pI 0 (dc dkX13_end 2 rfl) fpX13_94 fd_111_0 rfl (np 5 rfl ?_)
  refine r_iload_n (dc dkX13_end 3 rfl) rfl (np 6 rfl ?_)
  refine r_if_lt (tgt := 17) (dc dkX13_end 4 rfl) rfl (by first | assumption | decide | omega) (fun h6 => ?_) (fun h6 => (np 9 rfl ?_))
  · skip
    refine r_iconst (dc dkX13_end 9 rfl) (np 18 rfl ?_)
    exact r_zret (dc dkX13_end 10 rfl) rfl (by first | exact Or.inl rfl | exact Or.inr rfl) (by
        try rw [e33] at h14
        first | exact ⟨by rw [bI_t (by omega)], by rw [gte_t (by omega)]⟩ | exact ⟨by rw [bI_f (by omega)], by rw [gte_f (by omega)]⟩)
  refine r_iload_n (dc dkX13_end 5 rfl) rfl (np 10 rfl ?_)
  refine r_aload_n (dc dkX13_end 6 rfl) rfl (np 11 rfl ?_)
  refine r_gI 2 (dc dkX13_end 7 rfl) flX13_98 fd_111_2 rfl (np 14 rfl ?_)
  refine r_icmp_le (tgt := 19) (dc dkX13_end 8 rfl) rfl (by first | assumption | decide | omega) (by rw [e33]; omega) (fun h14 => ?_) (fun h14 => (np 17 rfl ?_))
  · skip
    refine r_aload_n (dc dkX13_end 11 rfl) rfl (np 20 rfl ?_)
    refine r_iload_n (dc dkX13_end 12 rfl) rfl (np 21 rfl ?_)
    refine r_pI 2 (dc dkX13_end 13 rfl) fpX13_98 fd_111_2 rfl (np 24 rfl ?_)
    refine r_iconst (dc dkX13_end 14 rfl) (np 25 rfl ?_)
    exact r_zret (dc dkX13_end 15 rfl) rfl (by first | exact Or.inl rfl | exact Or.inr rfl) (by
        try rw [e33] at h14
        first | exact ⟨by rw [bI_t (by omega)], by rw [gte_t (by omega)]⟩ | exact ⟨by rw [bI_f (by omega)], by rw [gte_f (by omega)]⟩)
  refine r_iconst (dc dkX13_end 9 rfl) (np 18 rfl ?_)
  exact r_zret (dc dkX13_end 10 rfl) rfl (by first | exact Or.inl rfl | exact Or.inr rfl) (by
      try rw [e33] at h14
      first | exact ⟨by rw [bI_t (by omega)], by rw [gte_t (by omega)]⟩ | exact ⟨by rw [bI_f (by omega)], by rw [gte_f (by omega)]⟩)
