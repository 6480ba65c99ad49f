set_option maxRecDepth 100000 in
set_option maxHeartbeats 4000000 in
theorem c_X13_placeOf {σ : jS} {x y : Int} : Jp 1 miX13_placeOf [.ref 111, vI x, vI y] σ (vI (σ 113 0 * y + x)) := by
  refine jm_ofF (Po := (jP (vI (σ 113 0 * y + x)) σ)) (plainFor_of_name (by decide)) (Nat.le_of_ble_eq_true rfl) (lv := [(0, _), (1, _), (2, _)]) rfl ?_
  refine r_aload_n (dc dkX13_placeOf 0 rfl) rfl (np 1 rfl ?_)
  refine r_getR (dc dkX13_placeOf 1 rfl) flX13_13 fd_111_15 (np 4 rfl ?_)
  refine r_iconst (dc dkX13_placeOf 2 rfl) (np 5 rfl ?_)
  refine r_iald (dc dkX13_placeOf 3 rfl) ar_113 (by omega) (np 6 rfl ?_)
  refine r_iload_n (dc dkX13_placeOf 4 rfl) rfl (np 7 rfl ?_)
  refine r_imul (dc dkX13_placeOf 5 rfl) (np 8 rfl ?_)
  refine r_iload_n (dc dkX13_placeOf 6 rfl) rfl (np 9 rfl ?_)
  refine r_iadd (dc dkX13_placeOf 7 rfl) (np 10 rfl ?_)
  exact r_iret (dc dkX13_placeOf 8 rfl) rfl ⟨rfl, rfl⟩
set_option maxRecDepth 100000 in
set_option maxHeartbeats 4000000 in
theorem c_X13_stateOf {σ : jS} (hN : okN σ) {b : Int} (h0 : 0 ≤ b) (h1 : b < σ 113 4) : Jp 4 miX13_stateOf [.ref 111, vI b] σ (vI (36 * (36 * (ixW (σ 113 0) (rP σ 113 b 0)) + (ixW (σ 113 0) (rP σ 113 b 1))) + (ixW (σ 113 0) (rP σ 113 b 2)))) := by
  have ee : ∀ p, σ 113 0 * (p / 10) + p % 10 = ixW (σ 113 0) p := fun p => by unfold ixW; rw [Int.mul_comm]
  refine jm_ofF (Po := (jP (vI (36 * (36 * (ixW (σ 113 0) (rP σ 113 b 0)) + (ixW (σ 113 0) (rP σ 113 b 1))) + (ixW (σ 113 0) (rP σ 113 b 2)))) σ)) (plainFor_of_name (by decide)) (Nat.le_of_ble_eq_true rfl) (lv := [(0, _), (1, _)]) rfl ?_
  refine r_bipush (dc dkX13_stateOf 0 rfl) bp_36 (np 2 rfl ?_)
  refine r_bipush (dc dkX13_stateOf 1 rfl) bp_36 (np 4 rfl ?_)
  refine r_aload_n (dc dkX13_stateOf 2 rfl) rfl (np 5 rfl ?_)
  refine r_aload_n (dc dkX13_stateOf 3 rfl) rfl (np 6 rfl ?_)
  refine r_iload_n (dc dkX13_stateOf 4 rfl) rfl (np 7 rfl ?_)
  refine r_iconst (dc dkX13_stateOf 5 rfl) (np 8 rfl ?_)
  refine r_pV2 (y' := miX13_x) (dc dkX13_stateOf 6 rfl) mlX13_285 ceX13_x ob_111 (Nat.le_of_ble_eq_true rfl) (Nat.le_of_ble_eq_true rfl) (c_X13_x hN h0 h1 (by decide)) (np 11 rfl ?_)
  refine r_aload_n (dc dkX13_stateOf 7 rfl) rfl (np 12 rfl ?_)
  refine r_iload_n (dc dkX13_stateOf 8 rfl) rfl (np 13 rfl ?_)
  refine r_iconst (dc dkX13_stateOf 9 rfl) (np 14 rfl ?_)
  refine r_pV2 (y' := miX13_y) (dc dkX13_stateOf 10 rfl) mlX13_289 ceX13_y ob_111 (Nat.le_of_ble_eq_true rfl) (Nat.le_of_ble_eq_true rfl) (c_X13_y hN h0 h1 (by decide)) (np 17 rfl ?_)
  refine r_pV2 (y' := miX13_placeOf) (dc dkX13_stateOf 11 rfl) mlX13_420 ceX13_placeOf ob_111 (Nat.le_of_ble_eq_true rfl) (Nat.le_of_ble_eq_true rfl) (c_X13_placeOf ) (np 20 rfl ?_)
  refine r_eqI _ (ee _) ?_
  refine r_imul (dc dkX13_stateOf 12 rfl) (np 21 rfl ?_)
  refine r_aload_n (dc dkX13_stateOf 13 rfl) rfl (np 22 rfl ?_)
  refine r_aload_n (dc dkX13_stateOf 14 rfl) rfl (np 23 rfl ?_)
  refine r_iload_n (dc dkX13_stateOf 15 rfl) rfl (np 24 rfl ?_)
  refine r_iconst (dc dkX13_stateOf 16 rfl) (np 25 rfl ?_)
  refine r_pV2 (y' := miX13_x) (dc dkX13_stateOf 17 rfl) mlX13_285 ceX13_x ob_111 (Nat.le_of_ble_eq_true rfl) (Nat.le_of_ble_eq_true rfl) (c_X13_x hN h0 h1 (by decide)) (np 28 rfl ?_)
  refine r_aload_n (dc dkX13_stateOf 18 rfl) rfl (np 29 rfl ?_)
  refine r_iload_n (dc dkX13_stateOf 19 rfl) rfl (np 30 rfl ?_)
  refine r_iconst (dc dkX13_stateOf 20 rfl) (np 31 rfl ?_)
  refine r_pV2 (y' := miX13_y) (dc dkX13_stateOf 21 rfl) mlX13_289 ceX13_y ob_111 (Nat.le_of_ble_eq_true rfl) (Nat.le_of_ble_eq_true rfl) (c_X13_y hN h0 h1 (by decide)) (np 34 rfl ?_)
  refine r_pV2 (y' := miX13_placeOf) (dc dkX13_stateOf 22 rfl) mlX13_420 ceX13_placeOf ob_111 (Nat.le_of_ble_eq_true rfl) (Nat.le_of_ble_eq_true rfl) (c_X13_placeOf ) (np 37 rfl ?_)
  refine r_eqI _ (ee _) ?_
  refine r_iadd (dc dkX13_stateOf 23 rfl) (np 38 rfl ?_)
  refine r_imul (dc dkX13_stateOf 24 rfl) (np 39 rfl ?_)
  refine r_aload_n (dc dkX13_stateOf 25 rfl) rfl (np 40 rfl ?_)
  refine r_aload_n (dc dkX13_stateOf 26 rfl) rfl (np 41 rfl ?_)
  refine r_iload_n (dc dkX13_stateOf 27 rfl) rfl (np 42 rfl ?_)
  refine r_iconst (dc dkX13_stateOf 28 rfl) (np 43 rfl ?_)
  refine r_pV2 (y' := miX13_x) (dc dkX13_stateOf 29 rfl) mlX13_285 ceX13_x ob_111 (Nat.le_of_ble_eq_true rfl) (Nat.le_of_ble_eq_true rfl) (c_X13_x hN h0 h1 (by decide)) (np 46 rfl ?_)
  refine r_aload_n (dc dkX13_stateOf 30 rfl) rfl (np 47 rfl ?_)
  refine r_iload_n (dc dkX13_stateOf 31 rfl) rfl (np 48 rfl ?_)
  refine r_iconst (dc dkX13_stateOf 32 rfl) (np 49 rfl ?_)
  refine r_pV2 (y' := miX13_y) (dc dkX13_stateOf 33 rfl) mlX13_289 ceX13_y ob_111 (Nat.le_of_ble_eq_true rfl) (Nat.le_of_ble_eq_true rfl) (c_X13_y hN h0 h1 (by decide)) (np 52 rfl ?_)
  refine r_pV2 (y' := miX13_placeOf) (dc dkX13_stateOf 34 rfl) mlX13_420 ceX13_placeOf ob_111 (Nat.le_of_ble_eq_true rfl) (Nat.le_of_ble_eq_true rfl) (c_X13_placeOf ) (np 55 rfl ?_)
  refine r_eqI _ (ee _) ?_
  refine r_iadd (dc dkX13_stateOf 35 rfl) (np 56 rfl ?_)
  exact r_iret (dc dkX13_stateOf 36 rfl) rfl ⟨rfl, rfl⟩
set_option maxRecDepth 100000 in
set_option maxHeartbeats 4000000 in
theorem c_X13_setOf {σ : jS} {s : Int} (hs : 0 ≤ s ∧ s < 46656) : Jp 1 miX13_setOf [vI s] σ (vI (stO s)) := by
  have a1 : 0 ≤ sA s ∧ sA s < 36 := by unfold sA; omega
  have a2 : 0 ≤ sB s ∧ sB s < 36 := by unfold sB; omega
  have a3 : 0 ≤ sC s ∧ sC s < 36 := by unfold sC; omega
  refine jm_ofF (Po := (jP (vI (stO s)) σ)) (plainFor_of_name (by decide)) (Nat.le_of_ble_eq_true rfl) (lv := [(0, _)]) rfl ?_
  refine r_iload_n (dc dkX13_setOf 0 rfl) rfl (np 1 rfl ?_)
  refine r_sipush (dc dkX13_setOf 1 rfl) sp_1296 (np 4 rfl ?_)
  refine r_idivn (dc dkX13_setOf 2 rfl) (by first | assumption | decide | omega) (by first | assumption | decide | omega) (np 5 rfl ?_)
  refine r_eqI (sA s) rfl ?_
  refine r_istore_n (lv' := [(1, _), (0, _)]) (dc dkX13_setOf 3 rfl) (Nat.le_of_ble_eq_true rfl) rfl (np 6 rfl ?_)
  refine r_iload_n (dc dkX13_setOf 4 rfl) rfl (np 7 rfl ?_)
  refine r_bipush (dc dkX13_setOf 5 rfl) bp_36 (np 9 rfl ?_)
  refine r_idivn (dc dkX13_setOf 6 rfl) (by first | assumption | decide | omega) (by first | assumption | decide | omega) (np 10 rfl ?_)
  refine r_bipush (dc dkX13_setOf 7 rfl) bp_36 (np 12 rfl ?_)
  refine r_iremn (dc dkX13_setOf 8 rfl) (by first | assumption | decide | omega) (by first | assumption | decide | omega) (np 13 rfl ?_)
  refine r_eqI (sB s) rfl ?_
  refine r_istore_n (lv' := [(2, _), (1, _), (0, _)]) (dc dkX13_setOf 9 rfl) (Nat.le_of_ble_eq_true rfl) rfl (np 14 rfl ?_)
  refine r_iload_n (dc dkX13_setOf 10 rfl) rfl (np 15 rfl ?_)
  refine r_bipush (dc dkX13_setOf 11 rfl) bp_36 (np 17 rfl ?_)
  refine r_iremn (dc dkX13_setOf 12 rfl) (by first | assumption | decide | omega) (by first | assumption | decide | omega) (np 18 rfl ?_)
  refine r_eqI (sC s) rfl ?_
  refine r_istore_n (lv' := [(3, _), (2, _), (1, _), (0, _)]) (dc dkX13_setOf 13 rfl) (Nat.le_of_ble_eq_true rfl) rfl (np 19 rfl ?_)
  have jj47 : ∀ l : Int, (l = lo3 (sA s) (sB s) (sC s)) → jR 1 miX13_setOf (jP (vI (stO s)) σ) 47 [(0, vI s), (1, vI (sA s)), (2, vI (sB s)), (3, vI (sC s))] [vI l] σ := by
    intro l hl
    refine r_istore (lv' := [(4, _), (0, _), (1, _), (2, _), (3, _)]) (dc dkX13_setOf 30 rfl) (Nat.le_of_ble_eq_true rfl) rfl (np 49 rfl ?_)
    have jj77 : ∀ g : Int, (g = hi3 (sA s) (sB s) (sC s)) → jR 1 miX13_setOf (jP (vI (stO s)) σ) 77 [(0, vI s), (1, vI (sA s)), (2, vI (sB s)), (3, vI (sC s)), (4, vI l)] [vI g] σ := by
      intro g hg
      refine r_istore (lv' := [(5, _), (0, _), (1, _), (2, _), (3, _), (4, _)]) (dc dkX13_setOf 47 rfl) (Nat.le_of_ble_eq_true rfl) rfl (np 79 rfl ?_)
      refine r_bipush (dc dkX13_setOf 48 rfl) bp_36 (np 81 rfl ?_)
      refine r_bipush (dc dkX13_setOf 49 rfl) bp_36 (np 83 rfl ?_)
      refine r_iload (dc dkX13_setOf 50 rfl) rfl (np 85 rfl ?_)
      refine r_imul (dc dkX13_setOf 51 rfl) (np 86 rfl ?_)
      refine r_iload_n (dc dkX13_setOf 52 rfl) rfl (np 87 rfl ?_)
      refine r_iadd (dc dkX13_setOf 53 rfl) (np 88 rfl ?_)
      refine r_iload_n (dc dkX13_setOf 54 rfl) rfl (np 89 rfl ?_)
      refine r_iadd (dc dkX13_setOf 55 rfl) (np 90 rfl ?_)
      refine r_iload_n (dc dkX13_setOf 56 rfl) rfl (np 91 rfl ?_)
      refine r_iadd (dc dkX13_setOf 57 rfl) (np 92 rfl ?_)
      refine r_iload (dc dkX13_setOf 58 rfl) rfl (np 94 rfl ?_)
      refine r_isub (dc dkX13_setOf 59 rfl) (np 95 rfl ?_)
      refine r_iload (dc dkX13_setOf 60 rfl) rfl (np 97 rfl ?_)
      refine r_isub (dc dkX13_setOf 61 rfl) (np 98 rfl ?_)
      refine r_imul (dc dkX13_setOf 62 rfl) (np 99 rfl ?_)
      refine r_iload (dc dkX13_setOf 63 rfl) rfl (np 101 rfl ?_)
      refine r_iadd (dc dkX13_setOf 64 rfl) (np 102 rfl ?_)
      exact r_iret (dc dkX13_setOf 65 rfl) rfl ⟨congrArg (fun z => some (vI z)) (by unfold stO st3 md3; rw [← hl, ← hg]; omega), rfl⟩
    refine r_iload_n (dc dkX13_setOf 31 rfl) rfl (np 50 rfl ?_)
    refine r_iload_n (dc dkX13_setOf 32 rfl) rfl (np 51 rfl ?_)
    refine r_icmp_le (tgt := 67) (dc dkX13_setOf 33 rfl) rfl (by first | assumption | decide | omega) (by first | assumption | decide | omega) (fun h51 => ?_) (fun h51 => (np 54 rfl ?_))
    · skip
      refine r_iload_n (dc dkX13_setOf 41 rfl) rfl (np 68 rfl ?_)
      refine r_iload_n (dc dkX13_setOf 42 rfl) rfl (np 69 rfl ?_)
      refine r_icmp_le (tgt := 76) (dc dkX13_setOf 43 rfl) rfl (by first | assumption | decide | omega) (by first | assumption | decide | omega) (fun h69 => ?_) (fun h69 => (np 72 rfl ?_))
      · skip
        refine r_iload_n (dc dkX13_setOf 46 rfl) rfl (np 77 rfl ?_)
        refine r_pick [1, 2, 3, 4, 0] rfl ?_
        exact jj77 _ (by unfold hi3; omega)
      refine r_iload_n (dc dkX13_setOf 44 rfl) rfl (np 73 rfl ?_)
      refine r_goto (tgt := 77) (dc dkX13_setOf 45 rfl) rfl ?_
      refine r_pick [1, 2, 3, 4, 0] rfl ?_
      exact jj77 _ (by unfold hi3; omega)
    refine r_iload_n (dc dkX13_setOf 34 rfl) rfl (np 55 rfl ?_)
    refine r_iload_n (dc dkX13_setOf 35 rfl) rfl (np 56 rfl ?_)
    refine r_icmp_le (tgt := 63) (dc dkX13_setOf 36 rfl) rfl (by first | assumption | decide | omega) (by first | assumption | decide | omega) (fun h56 => ?_) (fun h56 => (np 59 rfl ?_))
    · skip
      refine r_iload_n (dc dkX13_setOf 39 rfl) rfl (np 64 rfl ?_)
      refine r_goto (tgt := 77) (dc dkX13_setOf 40 rfl) rfl ?_
      refine r_pick [1, 2, 3, 4, 0] rfl ?_
      exact jj77 _ (by unfold hi3; omega)
    refine r_iload_n (dc dkX13_setOf 37 rfl) rfl (np 60 rfl ?_)
    refine r_goto (tgt := 77) (dc dkX13_setOf 38 rfl) rfl ?_
    refine r_pick [1, 2, 3, 4, 0] rfl ?_
    exact jj77 _ (by unfold hi3; omega)
  refine r_iload_n (dc dkX13_setOf 14 rfl) rfl (np 20 rfl ?_)
  refine r_iload_n (dc dkX13_setOf 15 rfl) rfl (np 21 rfl ?_)
  refine r_icmp_ge (tgt := 37) (dc dkX13_setOf 16 rfl) rfl (by first | assumption | decide | omega) (by first | assumption | decide | omega) (fun h21 => ?_) (fun h21 => (np 24 rfl ?_))
  · skip
    refine r_iload_n (dc dkX13_setOf 24 rfl) rfl (np 38 rfl ?_)
    refine r_iload_n (dc dkX13_setOf 25 rfl) rfl (np 39 rfl ?_)
    refine r_icmp_ge (tgt := 46) (dc dkX13_setOf 26 rfl) rfl (by first | assumption | decide | omega) (by first | assumption | decide | omega) (fun h39 => ?_) (fun h39 => (np 42 rfl ?_))
    · skip
      refine r_iload_n (dc dkX13_setOf 29 rfl) rfl (np 47 rfl ?_)
      refine r_pick [3, 2, 1, 0] rfl ?_
      exact jj47 _ (by unfold lo3; omega)
    refine r_iload_n (dc dkX13_setOf 27 rfl) rfl (np 43 rfl ?_)
    refine r_goto (tgt := 47) (dc dkX13_setOf 28 rfl) rfl ?_
    refine r_pick [3, 2, 1, 0] rfl ?_
    exact jj47 _ (by unfold lo3; omega)
  refine r_iload_n (dc dkX13_setOf 17 rfl) rfl (np 25 rfl ?_)
  refine r_iload_n (dc dkX13_setOf 18 rfl) rfl (np 26 rfl ?_)
  refine r_icmp_ge (tgt := 33) (dc dkX13_setOf 19 rfl) rfl (by first | assumption | decide | omega) (by first | assumption | decide | omega) (fun h26 => ?_) (fun h26 => (np 29 rfl ?_))
  · skip
    refine r_iload_n (dc dkX13_setOf 22 rfl) rfl (np 34 rfl ?_)
    refine r_goto (tgt := 47) (dc dkX13_setOf 23 rfl) rfl ?_
    refine r_pick [3, 2, 1, 0] rfl ?_
    exact jj47 _ (by unfold lo3; omega)
  refine r_iload_n (dc dkX13_setOf 20 rfl) rfl (np 30 rfl ?_)
  refine r_goto (tgt := 47) (dc dkX13_setOf 21 rfl) rfl ?_
  refine r_pick [3, 2, 1, 0] rfl ?_
  exact jj47 _ (by unfold lo3; omega)
set_option maxRecDepth 100000 in
set_option maxHeartbeats 4000000 in
theorem c_X13_bends {σ : jS} (hw : 2 ≤ σ 113 0 ∧ σ 113 0 ≤ 10) (hh : 2 ≤ σ 113 1 ∧ σ 113 1 ≤ 10) {t : Int} (ht : 0 ≤ t ∧ t < 46656) (hA : 0 ≤ sA t ∧ sA t < σ 113 0 * σ 113 1) (hB : 0 ≤ sB t ∧ sB t < σ 113 0 * σ 113 1) (hC : 0 ≤ sC t ∧ sC t < σ 113 0 * σ 113 1) : Jp 3 miX13_bends [.ref 111, vI t] σ (vI (bI (¬ tn (pgW (σ 113 0) (sA t)) (pgW (σ 113 0) (sB t)) (pgW (σ 113 0) (sC t)) = 0))) := by
  have a1 := pgW_b hw hh hA
  have a2 := pgW_b hw hh hB
  have a3 := pgW_b hw hh hC
  have b1 : sA t < 36 := by unfold sA; omega
  have b2 : sB t < 36 := by unfold sB; omega
  have b3 : sC t < 36 := by unfold sC; omega
  refine jm_ofF (Po := (jP (vI (bI (¬ tn (pgW (σ 113 0) (sA t)) (pgW (σ 113 0) (sB t)) (pgW (σ 113 0) (sC t)) = 0))) σ)) (plainFor_of_name (by decide)) (Nat.le_of_ble_eq_true rfl) (lv := [(0, _), (1, _)]) rfl ?_
  refine r_aload_n (dc dkX13_bends 0 rfl) rfl (np 1 rfl ?_)
  refine r_getR (dc dkX13_bends 1 rfl) flX13_13 fd_111_15 (np 4 rfl ?_)
  refine r_iconst (dc dkX13_bends 2 rfl) (np 5 rfl ?_)
  refine r_iald (dc dkX13_bends 3 rfl) ar_113 (by omega) (np 6 rfl ?_)
  refine r_istore_n (lv' := [(2, _), (0, _), (1, _)]) (dc dkX13_bends 4 rfl) (Nat.le_of_ble_eq_true rfl) rfl (np 7 rfl ?_)
  refine r_iload_n (dc dkX13_bends 5 rfl) rfl (np 8 rfl ?_)
  refine r_sipush (dc dkX13_bends 6 rfl) sp_1296 (np 11 rfl ?_)
  refine r_idivn (dc dkX13_bends 7 rfl) (by first | assumption | decide | omega) (by first | assumption | decide | omega) (np 12 rfl ?_)
  refine r_eqI (sA t) rfl ?_
  refine r_istore_n (lv' := [(3, _), (2, _), (0, _), (1, _)]) (dc dkX13_bends 8 rfl) (Nat.le_of_ble_eq_true rfl) rfl (np 13 rfl ?_)
  refine r_iload_n (dc dkX13_bends 9 rfl) rfl (np 14 rfl ?_)
  refine r_bipush (dc dkX13_bends 10 rfl) bp_36 (np 16 rfl ?_)
  refine r_idivn (dc dkX13_bends 11 rfl) (by first | assumption | decide | omega) (by first | assumption | decide | omega) (np 17 rfl ?_)
  refine r_bipush (dc dkX13_bends 12 rfl) bp_36 (np 19 rfl ?_)
  refine r_iremn (dc dkX13_bends 13 rfl) (by first | assumption | decide | omega) (by first | assumption | decide | omega) (np 20 rfl ?_)
  refine r_eqI (sB t) rfl ?_
  refine r_istore (lv' := [(4, _), (3, _), (2, _), (0, _), (1, _)]) (dc dkX13_bends 14 rfl) (Nat.le_of_ble_eq_true rfl) rfl (np 22 rfl ?_)
  refine r_iload_n (dc dkX13_bends 15 rfl) rfl (np 23 rfl ?_)
  refine r_bipush (dc dkX13_bends 16 rfl) bp_36 (np 25 rfl ?_)
  refine r_iremn (dc dkX13_bends 17 rfl) (by first | assumption | decide | omega) (by first | assumption | decide | omega) (np 26 rfl ?_)
  refine r_eqI (sC t) rfl ?_
  refine r_istore (lv' := [(5, _), (4, _), (3, _), (2, _), (0, _), (1, _)]) (dc dkX13_bends 18 rfl) (Nat.le_of_ble_eq_true rfl) rfl (np 28 rfl ?_)
  refine r_iload_n (dc dkX13_bends 19 rfl) rfl (np 29 rfl ?_)
  refine r_iload_n (dc dkX13_bends 20 rfl) rfl (np 30 rfl ?_)
  refine r_iremn (dc dkX13_bends 21 rfl) (by first | assumption | decide | omega) (by first | assumption | decide | omega) (np 31 rfl ?_)
  refine r_iload_n (dc dkX13_bends 22 rfl) rfl (np 32 rfl ?_)
  refine r_iload_n (dc dkX13_bends 23 rfl) rfl (np 33 rfl ?_)
  refine r_idivn (dc dkX13_bends 24 rfl) (by first | assumption | decide | omega) (by first | assumption | decide | omega) (np 34 rfl ?_)
  refine r_iload (dc dkX13_bends 25 rfl) rfl (np 36 rfl ?_)
  refine r_iload_n (dc dkX13_bends 26 rfl) rfl (np 37 rfl ?_)
  refine r_iremn (dc dkX13_bends 27 rfl) (by first | assumption | decide | omega) (by first | assumption | decide | omega) (np 38 rfl ?_)
  refine r_iload (dc dkX13_bends 28 rfl) rfl (np 40 rfl ?_)
  refine r_iload_n (dc dkX13_bends 29 rfl) rfl (np 41 rfl ?_)
  refine r_idivn (dc dkX13_bends 30 rfl) (by first | assumption | decide | omega) (by first | assumption | decide | omega) (np 42 rfl ?_)
  refine r_iload (dc dkX13_bends 31 rfl) rfl (np 44 rfl ?_)
  refine r_iload_n (dc dkX13_bends 32 rfl) rfl (np 45 rfl ?_)
  refine r_iremn (dc dkX13_bends 33 rfl) (by first | assumption | decide | omega) (by first | assumption | decide | omega) (np 46 rfl ?_)
  refine r_iload (dc dkX13_bends 34 rfl) rfl (np 48 rfl ?_)
  refine r_iload_n (dc dkX13_bends 35 rfl) rfl (np 49 rfl ?_)
  refine r_idivn (dc dkX13_bends 36 rfl) (by first | assumption | decide | omega) (by first | assumption | decide | omega) (np 50 rfl ?_)
  refine r_pS6 (y' := miX13_turn) (dc dkX13_bends 37 rfl) mlX13_192 seX13_turn (Nat.le_of_ble_eq_true rfl) (Nat.le_of_ble_eq_true rfl) (c_X13_turn (by omega)) (np 53 rfl ?_)
  refine r_eqI (sgn (tn (pgW (σ 113 0) (sA t)) (pgW (σ 113 0) (sB t)) (pgW (σ 113 0) (sC t)))) (by unfold tn; rw [a1.2.1, a1.2.2.1, a2.2.1, a2.2.2.1, a3.2.1, a3.2.2.1]) ?_
  have sb := sgn_b (tn (pgW (σ 113 0) (sA t)) (pgW (σ 113 0) (sB t)) (pgW (σ 113 0) (sC t)))
  refine r_if_eq (tgt := 60) (dc dkX13_bends 38 rfl) rfl (by omega) (fun h53 => ?_) (fun h53 => (np 56 rfl ?_))
  · skip
    refine r_iconst (dc dkX13_bends 41 rfl) (np 61 rfl ?_)
    exact r_zret (dc dkX13_bends 42 rfl) rfl (by first | exact Or.inl rfl | exact Or.inr rfl) ⟨congrArg (fun z => some (vI z)) (by first | exact bT (fun z => h53 (sgn_0.mpr z)) | exact bF (fun z => z (sgn_0.mp h53))), rfl⟩
  refine r_iconst (dc dkX13_bends 39 rfl) (np 57 rfl ?_)
  refine r_goto (tgt := 61) (dc dkX13_bends 40 rfl) rfl ?_
  exact r_zret (dc dkX13_bends 42 rfl) rfl (by first | exact Or.inl rfl | exact Or.inr rfl) ⟨congrArg (fun z => some (vI z)) (by first | exact bT (fun z => h53 (sgn_0.mpr z)) | exact bF (fun z => z (sgn_0.mp h53))), rfl⟩
set_option maxRecDepth 100000 in
set_option maxHeartbeats 4000000 in
theorem c_X13_moved {σ : jS} (hN : okN σ) (hw0 : 0 < σ 113 4 → (2 ≤ σ 113 0 ∧ σ 113 0 ≤ 10) ∧ (2 ≤ σ 113 1 ∧ σ 113 1 ≤ 10)) (ht : ∀ b, 0 ≤ b → b < σ 113 4 → cn σ 113 b = 3 → tri3 (pkR σ 113) (rP σ 113 b)) {a b : Int} (ha : iR a) (hb : iR b) : Jm 6 miX13_moved [.ref 111, vI a, vI b] σ (fun r τ => mdT [0] [134, 135] σ τ ∧ τ 111 0 = 0 ∧ ∃ v, r = some (vI v) ∧ (¬ (((0 ≤ a ∧ a < σ 113 4) ∧ (0 ≤ b ∧ b < σ 113 4) ∧ cn σ 113 a = 3 ∧ cn σ 113 b = 3) ∧ σ 113 0 * σ 113 1 ≤ 36) → v = -1) ∧ (((0 ≤ a ∧ a < σ 113 4) ∧ (0 ≤ b ∧ b < σ 113 4) ∧ cn σ 113 a = 3 ∧ cn σ 113 b = 3) ∧ σ 113 0 * σ 113 1 ≤ 36 → ans (hitR (σ 113 0) (σ 113 1) (pkR σ 113) (36 * (36 * (ixW (σ 113 0) (rP σ 113 a 0)) + (ixW (σ 113 0) (rP σ 113 a 1))) + (ixW (σ 113 0) (rP σ 113 a 2))) (stO (36 * (36 * (ixW (σ 113 0) (rP σ 113 b 0)) + (ixW (σ 113 0) (rP σ 113 b 1))) + (ixW (σ 113 0) (rP σ 113 b 2))))) v)) := by
  obtain ⟨NN, hNN⟩ : ∃ N : Nat, (N : Int) = 46656 := ⟨46656, rfl⟩
  refine jm_ofF (Po := (fun r τ => mdT [0] [134, 135] σ τ ∧ τ 111 0 = 0 ∧ ∃ v, r = some (vI v) ∧ (¬ (((0 ≤ a ∧ a < σ 113 4) ∧ (0 ≤ b ∧ b < σ 113 4) ∧ cn σ 113 a = 3 ∧ cn σ 113 b = 3) ∧ σ 113 0 * σ 113 1 ≤ 36) → v = -1) ∧ (((0 ≤ a ∧ a < σ 113 4) ∧ (0 ≤ b ∧ b < σ 113 4) ∧ cn σ 113 a = 3 ∧ cn σ 113 b = 3) ∧ σ 113 0 * σ 113 1 ≤ 36 → ans (hitR (σ 113 0) (σ 113 1) (pkR σ 113) (36 * (36 * (ixW (σ 113 0) (rP σ 113 a 0)) + (ixW (σ 113 0) (rP σ 113 a 1))) + (ixW (σ 113 0) (rP σ 113 a 2))) (stO (36 * (36 * (ixW (σ 113 0) (rP σ 113 b 0)) + (ixW (σ 113 0) (rP σ 113 b 1))) + (ixW (σ 113 0) (rP σ 113 b 2))))) v))) (plainFor_of_name (by decide)) (Nat.le_of_ble_eq_true rfl) (lv := [(0, _), (1, _), (2, _)]) rfl ?_
  refine r_aload_n (dc dkX13_moved 0 rfl) rfl (np 1 rfl ?_)
  refine r_iconst (dc dkX13_moved 1 rfl) (np 2 rfl ?_)
  refine r_pI 0 (dc dkX13_moved 2 rfl) fpX13_94 fd_111_0 rfl (np 5 rfl ?_)
  refine r_abs (fun ρ => ρ = ju σ 111 0 0) rfl ?_
  intro σ0 hσ0
  have e0 : σ0 113 = σ 113 := by rw [hσ0]; exact ju_off _ _ _ _ _ (by decide)
  have hN0 := okN_c hN e0
  have e4 : σ0 113 4 = σ 113 4 := by rw [e0]
  have ec : ∀ b, cn σ0 113 b = cn σ 113 b := cn_c e0
  have eP : ∀ b, rP σ0 113 b = rP σ 113 b := rP_c2 e0
  have m1 := hN.1.2.2.2.2.1
  have w1 := hN.1.1
  have w2 := hN.1.2.1
  refine r_aload_n (dc dkX13_moved 3 rfl) rfl (np 6 rfl ?_)
  refine r_iload_n (dc dkX13_moved 4 rfl) rfl (np 7 rfl ?_)
  refine r_pV1 (y' := miX13_isBand) (dc dkX13_moved 5 rfl) mlX13_304 ceX13_isBand ob_111 (Nat.le_of_ble_eq_true rfl) (Nat.le_of_ble_eq_true rfl) (c_X13_isBand hN0 (by omega)) (np 10 rfl ?_)
  refine r_bz (tgt := 57) (dc dkX13_moved 6 rfl) rfl (fun h10 => ?_) (fun h10 => (np 13 rfl ?_))
  · skip
    refine r_iconst (dc dkX13_moved 32 rfl) (np 58 rfl ?_)
    exact r_iret (dc dkX13_moved 33 rfl) rfl (by
        have z0 : σ0 111 0 = 0 := by rw [hσ0, ju_at]
        have M0 : mdT [0] [134, 135] σ σ0 := by rw [hσ0]; exact (mdT.refl _ _ _).put (by decide)
        refine ⟨M0, z0, _, rfl, fun _ => rfl, fun u => ?_⟩
        first
        | exact absurd u.1.1 (by rw [e4] at h10; exact h10)
        | exact absurd u.1.2.1 (by rw [e4] at h18; exact h18)
        | exact absurd u.1.2.2.1 h27
        | exact absurd u.1.2.2.2 h36
        | (have := u.2; omega))
  rw [e4] at h10
  refine r_aload_n (dc dkX13_moved 7 rfl) rfl (np 14 rfl ?_)
  refine r_iload_n (dc dkX13_moved 8 rfl) rfl (np 15 rfl ?_)
  refine r_pV1 (y' := miX13_isBand) (dc dkX13_moved 9 rfl) mlX13_304 ceX13_isBand ob_111 (Nat.le_of_ble_eq_true rfl) (Nat.le_of_ble_eq_true rfl) (c_X13_isBand hN0 (by omega)) (np 18 rfl ?_)
  refine r_bz (tgt := 57) (dc dkX13_moved 10 rfl) rfl (fun h18 => ?_) (fun h18 => (np 21 rfl ?_))
  · skip
    refine r_iconst (dc dkX13_moved 32 rfl) (np 58 rfl ?_)
    exact r_iret (dc dkX13_moved 33 rfl) rfl (by
        have z0 : σ0 111 0 = 0 := by rw [hσ0, ju_at]
        have M0 : mdT [0] [134, 135] σ σ0 := by rw [hσ0]; exact (mdT.refl _ _ _).put (by decide)
        refine ⟨M0, z0, _, rfl, fun _ => rfl, fun u => ?_⟩
        first
        | exact absurd u.1.1 (by rw [e4] at h10; exact h10)
        | exact absurd u.1.2.1 (by rw [e4] at h18; exact h18)
        | exact absurd u.1.2.2.1 h27
        | exact absurd u.1.2.2.2 h36
        | (have := u.2; omega))
  rw [e4] at h18
  have ca := (hN.2 a h10.1 h10.2).1
  have cb := (hN.2 b h18.1 h18.2).1
  refine r_aload_n (dc dkX13_moved 11 rfl) rfl (np 22 rfl ?_)
  refine r_iload_n (dc dkX13_moved 12 rfl) rfl (np 23 rfl ?_)
  refine r_pV1 (y' := miX13_corners) (dc dkX13_moved 13 rfl) mlX13_279 ceX13_corners ob_111 (Nat.le_of_ble_eq_true rfl) (Nat.le_of_ble_eq_true rfl) (c_X13_corners (by omega)) (np 26 rfl ?_)
  refine r_eqI _ (ec a) ?_
  refine r_iconst (dc dkX13_moved 14 rfl) (np 27 rfl ?_)
  refine r_icmp_ne (tgt := 57) (dc dkX13_moved 15 rfl) rfl (by first | assumption | decide | omega) (by first | assumption | decide | omega) (fun h27 => ?_) (fun h27 => (np 30 rfl ?_))
  · skip
    refine r_iconst (dc dkX13_moved 32 rfl) (np 58 rfl ?_)
    exact r_iret (dc dkX13_moved 33 rfl) rfl (by
        have z0 : σ0 111 0 = 0 := by rw [hσ0, ju_at]
        have M0 : mdT [0] [134, 135] σ σ0 := by rw [hσ0]; exact (mdT.refl _ _ _).put (by decide)
        refine ⟨M0, z0, _, rfl, fun _ => rfl, fun u => ?_⟩
        first
        | exact absurd u.1.1 (by rw [e4] at h10; exact h10)
        | exact absurd u.1.2.1 (by rw [e4] at h18; exact h18)
        | exact absurd u.1.2.2.1 h27
        | exact absurd u.1.2.2.2 h36
        | (have := u.2; omega))
  refine r_aload_n (dc dkX13_moved 16 rfl) rfl (np 31 rfl ?_)
  refine r_iload_n (dc dkX13_moved 17 rfl) rfl (np 32 rfl ?_)
  refine r_pV1 (y' := miX13_corners) (dc dkX13_moved 18 rfl) mlX13_279 ceX13_corners ob_111 (Nat.le_of_ble_eq_true rfl) (Nat.le_of_ble_eq_true rfl) (c_X13_corners (by omega)) (np 35 rfl ?_)
  refine r_eqI _ (ec b) ?_
  refine r_iconst (dc dkX13_moved 19 rfl) (np 36 rfl ?_)
  refine r_icmp_ne (tgt := 57) (dc dkX13_moved 20 rfl) rfl (by first | assumption | decide | omega) (by first | assumption | decide | omega) (fun h36 => ?_) (fun h36 => (np 39 rfl ?_))
  · skip
    refine r_iconst (dc dkX13_moved 32 rfl) (np 58 rfl ?_)
    exact r_iret (dc dkX13_moved 33 rfl) rfl (by
        have z0 : σ0 111 0 = 0 := by rw [hσ0, ju_at]
        have M0 : mdT [0] [134, 135] σ σ0 := by rw [hσ0]; exact (mdT.refl _ _ _).put (by decide)
        refine ⟨M0, z0, _, rfl, fun _ => rfl, fun u => ?_⟩
        first
        | exact absurd u.1.1 (by rw [e4] at h10; exact h10)
        | exact absurd u.1.2.1 (by rw [e4] at h18; exact h18)
        | exact absurd u.1.2.2.1 h27
        | exact absurd u.1.2.2.2 h36
        | (have := u.2; omega))
  have hw := (hw0 (by omega)).1
  have hh := (hw0 (by omega)).2
  have rm := mulb (a := σ 113 0) (b := σ 113 1) (A := 10) (B := 10) (by omega) (by omega) (by omega) (by omega)
  have z0 : σ0 111 0 = 0 := by rw [hσ0, ju_at]
  have M0 : mdT [0] [134, 135] σ σ0 := by rw [hσ0]; exact (mdT.refl _ _ _).put (by decide)
  have w00 : σ0 113 0 = σ 113 0 := by rw [e0]
  have h00 : σ0 113 1 = σ 113 1 := by rw [e0]
  refine r_aload_n (dc dkX13_moved 21 rfl) rfl (np 40 rfl ?_)
  refine r_getR (dc dkX13_moved 22 rfl) flX13_13 fd_111_15 (np 43 rfl ?_)
  refine r_iconst (dc dkX13_moved 23 rfl) (np 44 rfl ?_)
  refine r_iald (dc dkX13_moved 24 rfl) ar_113 (by omega) (np 45 rfl ?_)
  refine r_eqI _ w00 ?_
  refine r_aload_n (dc dkX13_moved 25 rfl) rfl (np 46 rfl ?_)
  refine r_getR (dc dkX13_moved 26 rfl) flX13_13 fd_111_15 (np 49 rfl ?_)
  refine r_iconst (dc dkX13_moved 27 rfl) (np 50 rfl ?_)
  refine r_iald (dc dkX13_moved 28 rfl) ar_113 (by omega) (np 51 rfl ?_)
  refine r_eqI _ h00 ?_
  refine r_imul (dc dkX13_moved 29 rfl) (np 52 rfl ?_)
  refine r_bipush (dc dkX13_moved 30 rfl) bp_36 (np 54 rfl ?_)
  refine r_icmp_le (tgt := 59) (dc dkX13_moved 31 rfl) rfl (by omega) (by first | assumption | decide | omega) (fun h54 => ?_) (fun h54 => (np 57 rfl ?_))
  · skip
    have ta := ht a h10.1 h10.2 h27
    have tb := ht b h18.1 h18.2 h36
    have on_ : ∀ p, pkR σ 113 p = 1 → 0 ≤ p ∧ p % 10 < σ 113 0 ∧ p / 10 < σ 113 1 := fun p hp => by unfold pkR at hp; split at hp; assumption; omega
    have xa0 := ixW_b (h := σ 113 1) hw (on_ _ ta.1)
    have xa1 := ixW_b (h := σ 113 1) hw (on_ _ ta.2.1)
    have xa2 := ixW_b (h := σ 113 1) hw (on_ _ ta.2.2.1)
    have xb0 := ixW_b (h := σ 113 1) hw (on_ _ tb.1)
    have xb1 := ixW_b (h := σ 113 1) hw (on_ _ tb.2.1)
    have xb2 := ixW_b (h := σ 113 1) hw (on_ _ tb.2.2.1)
    have gb : 0 ≤ (36 * (36 * (ixW (σ 113 0) (rP σ 113 b 0)) + (ixW (σ 113 0) (rP σ 113 b 1))) + (ixW (σ 113 0) (rP σ 113 b 2))) ∧ (36 * (36 * (ixW (σ 113 0) (rP σ 113 b 0)) + (ixW (σ 113 0) (rP σ 113 b 1))) + (ixW (σ 113 0) (rP σ 113 b 2))) < 46656 := by omega
    have stb : 0 ≤ (stO (36 * (36 * (ixW (σ 113 0) (rP σ 113 b 0)) + (ixW (σ 113 0) (rP σ 113 b 1))) + (ixW (σ 113 0) (rP σ 113 b 2)))) ∧ (stO (36 * (36 * (ixW (σ 113 0) (rP σ 113 b 0)) + (ixW (σ 113 0) (rP σ 113 b 1))) + (ixW (σ 113 0) (rP σ 113 b 2)))) ≤ 100000 := by
      have a1 : 0 ≤ sA (36 * (36 * (ixW (σ 113 0) (rP σ 113 b 0)) + (ixW (σ 113 0) (rP σ 113 b 1))) + (ixW (σ 113 0) (rP σ 113 b 2))) ∧ sA (36 * (36 * (ixW (σ 113 0) (rP σ 113 b 0)) + (ixW (σ 113 0) (rP σ 113 b 1))) + (ixW (σ 113 0) (rP σ 113 b 2))) < 36 := by unfold sA; omega
      have a2 : 0 ≤ sB (36 * (36 * (ixW (σ 113 0) (rP σ 113 b 0)) + (ixW (σ 113 0) (rP σ 113 b 1))) + (ixW (σ 113 0) (rP σ 113 b 2))) ∧ sB (36 * (36 * (ixW (σ 113 0) (rP σ 113 b 0)) + (ixW (σ 113 0) (rP σ 113 b 1))) + (ixW (σ 113 0) (rP σ 113 b 2))) < 36 := by unfold sB; omega
      have a3 : 0 ≤ sC (36 * (36 * (ixW (σ 113 0) (rP σ 113 b 0)) + (ixW (σ 113 0) (rP σ 113 b 1))) + (ixW (σ 113 0) (rP σ 113 b 2))) ∧ sC (36 * (36 * (ixW (σ 113 0) (rP σ 113 b 0)) + (ixW (σ 113 0) (rP σ 113 b 1))) + (ixW (σ 113 0) (rP σ 113 b 2))) < 36 := by unfold sC; omega
      unfold stO st3 md3
      have l1 : 0 ≤ lo3 (sA (36 * (36 * (ixW (σ 113 0) (rP σ 113 b 0)) + (ixW (σ 113 0) (rP σ 113 b 1))) + (ixW (σ 113 0) (rP σ 113 b 2)))) (sB (36 * (36 * (ixW (σ 113 0) (rP σ 113 b 0)) + (ixW (σ 113 0) (rP σ 113 b 1))) + (ixW (σ 113 0) (rP σ 113 b 2)))) (sC (36 * (36 * (ixW (σ 113 0) (rP σ 113 b 0)) + (ixW (σ 113 0) (rP σ 113 b 1))) + (ixW (σ 113 0) (rP σ 113 b 2)))) ∧ lo3 (sA (36 * (36 * (ixW (σ 113 0) (rP σ 113 b 0)) + (ixW (σ 113 0) (rP σ 113 b 1))) + (ixW (σ 113 0) (rP σ 113 b 2)))) (sB (36 * (36 * (ixW (σ 113 0) (rP σ 113 b 0)) + (ixW (σ 113 0) (rP σ 113 b 1))) + (ixW (σ 113 0) (rP σ 113 b 2)))) (sC (36 * (36 * (ixW (σ 113 0) (rP σ 113 b 0)) + (ixW (σ 113 0) (rP σ 113 b 1))) + (ixW (σ 113 0) (rP σ 113 b 2)))) < 36 := by unfold lo3; omega
      have l2 : 0 ≤ hi3 (sA (36 * (36 * (ixW (σ 113 0) (rP σ 113 b 0)) + (ixW (σ 113 0) (rP σ 113 b 1))) + (ixW (σ 113 0) (rP σ 113 b 2)))) (sB (36 * (36 * (ixW (σ 113 0) (rP σ 113 b 0)) + (ixW (σ 113 0) (rP σ 113 b 1))) + (ixW (σ 113 0) (rP σ 113 b 2)))) (sC (36 * (36 * (ixW (σ 113 0) (rP σ 113 b 0)) + (ixW (σ 113 0) (rP σ 113 b 1))) + (ixW (σ 113 0) (rP σ 113 b 2)))) ∧ hi3 (sA (36 * (36 * (ixW (σ 113 0) (rP σ 113 b 0)) + (ixW (σ 113 0) (rP σ 113 b 1))) + (ixW (σ 113 0) (rP σ 113 b 2)))) (sB (36 * (36 * (ixW (σ 113 0) (rP σ 113 b 0)) + (ixW (σ 113 0) (rP σ 113 b 1))) + (ixW (σ 113 0) (rP σ 113 b 2)))) (sC (36 * (36 * (ixW (σ 113 0) (rP σ 113 b 0)) + (ixW (σ 113 0) (rP σ 113 b 1))) + (ixW (σ 113 0) (rP σ 113 b 2)))) < 36 := by unfold hi3; omega
      have l3 := (show lo3 (sA (36 * (36 * (ixW (σ 113 0) (rP σ 113 b 0)) + (ixW (σ 113 0) (rP σ 113 b 1))) + (ixW (σ 113 0) (rP σ 113 b 2)))) (sB (36 * (36 * (ixW (σ 113 0) (rP σ 113 b 0)) + (ixW (σ 113 0) (rP σ 113 b 1))) + (ixW (σ 113 0) (rP σ 113 b 2)))) (sC (36 * (36 * (ixW (σ 113 0) (rP σ 113 b 0)) + (ixW (σ 113 0) (rP σ 113 b 1))) + (ixW (σ 113 0) (rP σ 113 b 2)))) + hi3 (sA (36 * (36 * (ixW (σ 113 0) (rP σ 113 b 0)) + (ixW (σ 113 0) (rP σ 113 b 1))) + (ixW (σ 113 0) (rP σ 113 b 2)))) (sB (36 * (36 * (ixW (σ 113 0) (rP σ 113 b 0)) + (ixW (σ 113 0) (rP σ 113 b 1))) + (ixW (σ 113 0) (rP σ 113 b 2)))) (sC (36 * (36 * (ixW (σ 113 0) (rP σ 113 b 0)) + (ixW (σ 113 0) (rP σ 113 b 1))) + (ixW (σ 113 0) (rP σ 113 b 2)))) ≤ sA (36 * (36 * (ixW (σ 113 0) (rP σ 113 b 0)) + (ixW (σ 113 0) (rP σ 113 b 1))) + (ixW (σ 113 0) (rP σ 113 b 2))) + sB (36 * (36 * (ixW (σ 113 0) (rP σ 113 b 0)) + (ixW (σ 113 0) (rP σ 113 b 1))) + (ixW (σ 113 0) (rP σ 113 b 2))) + sC (36 * (36 * (ixW (σ 113 0) (rP σ 113 b 0)) + (ixW (σ 113 0) (rP σ 113 b 1))) + (ixW (σ 113 0) (rP σ 113 b 2))) by unfold lo3 hi3; omega)
      omega
    obtain ⟨s0, hs0⟩ : ∃ x, x = (36 * (36 * (ixW (σ 113 0) (rP σ 113 a 0)) + (ixW (σ 113 0) (rP σ 113 a 1))) + (ixW (σ 113 0) (rP σ 113 a 2))) := ⟨_, rfl⟩
    have sd : sA s0 = (ixW (σ 113 0) (rP σ 113 a 0)) ∧ sB s0 = (ixW (σ 113 0) (rP σ 113 a 1)) ∧ sC s0 = (ixW (σ 113 0) (rP σ 113 a 2)) := by unfold sA sB sC; omega
    have hv0 : vS (σ 113 0) (σ 113 1) s0 := ⟨by omega, by rw [sd.1]; exact xa0.1, by rw [sd.2.1]; exact xa1.1, by rw [sd.2.2]; exact xa2.1, by rw [sd.1, sd.2.1, sd.2.2, xa0.2.1, xa1.2.1, xa2.2.1]; exact ta.2.2.2⟩
    refine r_aload_n (dc dkX13_moved 34 rfl) rfl (np 60 rfl ?_)
    refine r_iload_n (dc dkX13_moved 35 rfl) rfl (np 61 rfl ?_)
    refine r_pV1 (y' := miX13_stateOf) (dc dkX13_moved 36 rfl) mlX13_423 ceX13_stateOf ob_111 (Nat.le_of_ble_eq_true rfl) (Nat.le_of_ble_eq_true rfl) (c_X13_stateOf hN0 h18.1 (by rw [e4]; exact h18.2)) (np 64 rfl ?_)
    refine r_eqI (36 * (36 * (ixW (σ 113 0) (rP σ 113 b 0)) + (ixW (σ 113 0) (rP σ 113 b 1))) + (ixW (σ 113 0) (rP σ 113 b 2))) (by rw [eP b, w00]) ?_
    refine r_pS1 (y' := miX13_setOf) (dc dkX13_moved 37 rfl) mlX13_426 seX13_setOf (Nat.le_of_ble_eq_true rfl) (Nat.le_of_ble_eq_true rfl) (c_X13_setOf gb) (np 67 rfl ?_)
    refine r_istore_n (lv' := [(3, _), (0, _), (1, _), (2, _)]) (dc dkX13_moved 38 rfl) (Nat.le_of_ble_eq_true rfl) rfl (np 68 rfl ?_)
    refine r_iconst (dc dkX13_moved 39 rfl) (np 69 rfl ?_)
    refine r_istore (lv' := [(4, _), (3, _), (0, _), (1, _), (2, _)]) (dc dkX13_moved 40 rfl) (Nat.le_of_ble_eq_true rfl) rfl (np 71 rfl ?_)
    refine r_pick [2, 3, 4, 1, 0] (lv' := [(0, _), (1, _), (2, _), (3, _), (4, _)]) rfl ?_
    refine jlp2 (P := fun (k : Int) (τ : jS) => jR _ _ _ 71 [(0, .ref 111), (1, vI a), (2, vI b), (3, vI (stO (36 * (36 * (ixW (σ 113 0) (rP σ 113 b 0)) + (ixW (σ 113 0) (rP σ 113 b 1))) + (ixW (σ 113 0) (rP σ 113 b 2))))), (4, vI k)] [] τ) (I := fun (k : Int) (τ : jS) => (0 ≤ k ∧ k ≤ 46656) ∧ mdT [] [134, 135] σ0 τ ∧ ∀ j, 0 ≤ j → j < k → τ 134 j = -1) (fun (k : Int) (τ : jS) => (46656 - k).toNat) ?_ _ _ ⟨by omega, mdT.refl _ _ _, fun j j0 j1 => by omega⟩
    intro k τ hI71 ih71
    obtain ⟨_, St, hfill⟩ := hI71
    refine r_iload (dc dkX13_moved 41 rfl) rfl (np 73 rfl ?_)
    refine r_ldc (z := 46656) (dc dkX13_moved 42 rfl) ckX13_78 (by decide) (np 75 rfl ?_)
    refine r_icmp_ge (tgt := 92) (dc dkX13_moved 43 rfl) rfl (by omega) (by decide) (fun h75 => ?_) (fun h75 => (np 78 rfl ?_))
    · skip
      have hNt := okN_c hN0 (St.1 113 (by decide) (by decide))
      have et13 : τ 113 = σ 113 := by rw [St.1 113 (by decide) (by decide), e0]
      refine r_aload_n (dc dkX13_moved 51 rfl) rfl (np 93 rfl ?_)
      refine r_iload_n (dc dkX13_moved 52 rfl) rfl (np 94 rfl ?_)
      refine r_pV1 (y' := miX13_stateOf) (dc dkX13_moved 53 rfl) mlX13_423 ceX13_stateOf ob_111 (Nat.le_of_ble_eq_true rfl) (Nat.le_of_ble_eq_true rfl) (c_X13_stateOf hNt h10.1 (by rw [et13]; exact h10.2)) (np 97 rfl ?_)
      refine r_eqI s0 (by rw [hs0, rP_c2 et13, et13]) ?_
      refine r_istore (lv' := [(4, _), (0, _), (1, _), (2, _), (3, _)]) (dc dkX13_moved 54 rfl) (Nat.le_of_ble_eq_true rfl) rfl (np 99 rfl ?_)
      refine r_aload_n (dc dkX13_moved 55 rfl) rfl (np 100 rfl ?_)
      refine r_getR (dc dkX13_moved 56 rfl) flX13_79 fd_111_41 (np 103 rfl ?_)
      refine r_iload (dc dkX13_moved 57 rfl) rfl (np 105 rfl ?_)
      refine r_iconst (dc dkX13_moved 58 rfl) (np 106 rfl ?_)
      refine r_iast (dc dkX13_moved 59 rfl) ar_134 (by omega) (np 107 rfl ?_)
      refine r_aload_n (dc dkX13_moved 60 rfl) rfl (np 108 rfl ?_)
      refine r_getR (dc dkX13_moved 61 rfl) flX13_82 fd_111_42 (np 111 rfl ?_)
      refine r_iconst (dc dkX13_moved 62 rfl) (np 112 rfl ?_)
      refine r_iload (dc dkX13_moved 63 rfl) rfl (np 114 rfl ?_)
      refine r_iast (dc dkX13_moved 64 rfl) ar_135 (by omega) (np 115 rfl ?_)
      refine r_abs (fun ρ => mdT [] [134, 135] σ0 ρ ∧ BFI (σ 113 0) (σ 113 1) (pkR σ 113) s0 (stO (36 * (36 * (ixW (σ 113 0) (rP σ 113 b 0)) + (ixW (σ 113 0) (rP σ 113 b 1))) + (ixW (σ 113 0) (rP σ 113 b 2)))) NN (ρ 134) (ρ 135) 1 0) ⟨((St.row (by decide) (by decide)).row (by decide) (by decide)), BF_0 hNN hv0 (by rw [ju_off _ _ _ _ _ (by decide), ju_at]) (fun x x0 x1 hx => by rw [ju_off _ _ _ _ _ (by decide), ju_ne (by omega)]; exact hfill x x0 (by omega)) (by rw [ju_at])⟩ ?_
      intro ρ1 hq1
      obtain ⟨S1, B1⟩ := hq1
      refine r_iconst (dc dkX13_moved 65 rfl) (np 116 rfl ?_)
      refine r_istore (lv' := [(5, _), (4, _), (0, _), (1, _), (2, _), (3, _)]) (dc dkX13_moved 66 rfl) (Nat.le_of_ble_eq_true rfl) rfl (np 118 rfl ?_)
      refine r_iconst (dc dkX13_moved 67 rfl) (np 119 rfl ?_)
      refine r_istore (lv' := [(6, _), (5, _), (4, _), (0, _), (1, _), (2, _), (3, _)]) (dc dkX13_moved 68 rfl) (Nat.le_of_ble_eq_true rfl) rfl (np 121 rfl ?_)
      refine r_pick [3, 4, 5, 6, 2, 1, 0] (lv' := [(0, _), (1, _), (2, _), (3, _), (4, _), (5, _), (6, _)]) rfl ?_
      refine jlp3 (P := fun (m : Int) (i : Int) (ρ : jS) => jR _ _ _ 121 [(0, .ref 111), (1, vI a), (2, vI b), (3, vI (stO (36 * (36 * (ixW (σ 113 0) (rP σ 113 b 0)) + (ixW (σ 113 0) (rP σ 113 b 1))) + (ixW (σ 113 0) (rP σ 113 b 2))))), (4, vI s0), (5, vI m), (6, vI i)] [] ρ) (I := fun (m : Int) (i : Int) (ρ : jS) => (0 ≤ i ∧ i ≤ m ∧ m ≤ 46656) ∧ mdT [] [134, 135] σ0 ρ ∧ BFI (σ 113 0) (σ 113 1) (pkR σ 113) s0 (stO (36 * (36 * (ixW (σ 113 0) (rP σ 113 b 0)) + (ixW (σ 113 0) (rP σ 113 b 1))) + (ixW (σ 113 0) (rP σ 113 b 2)))) NN (ρ 134) (ρ 135) m i) (fun (m : Int) (i : Int) (ρ : jS) => (46656 - i).toNat) ?_ _ _ _ ⟨by omega, S1, B1⟩
      intro m i ρ hI121 ih121
      obtain ⟨ib, S, hBF⟩ := hI121
      have e13 : ρ 113 = σ 113 := by rw [S.1 113 (by decide) (by decide), e0]
      have hNr := okN_c hN e13
      have w13 : ρ 113 0 = σ 113 0 := by rw [e13]
      have h13 : ρ 113 1 = σ 113 1 := by rw [e13]
      refine r_iload (dc dkX13_moved 69 rfl) rfl (np 123 rfl ?_)
      refine r_iload (dc dkX13_moved 70 rfl) rfl (np 125 rfl ?_)
      refine r_icmp_ge (tgt := 362) (dc dkX13_moved 71 rfl) rfl (by first | assumption | decide | omega) (by first | assumption | decide | omega) (fun h125 => ?_) (fun h125 => (np 128 rfl ?_))
      · skip
        refine r_iconst (dc dkX13_moved 196 rfl) (np 363 rfl ?_)
        exact r_iret (dc dkX13_moved 197 rfl) rfl ⟨M0.tr (S.wide (by decide) (by decide)), by rw [S.2 0 (by decide), z0], _, rfl, fun u => absurd ⟨⟨h10, h18, h27, h36⟩, h54⟩ u, fun _ => by rw [← hs0]; exact BF_end (by omega) hv0 hBF (by omega)⟩
      have bI_ := hBF.2.1 i (by omega) (by omega)
      have qi := bI_.1.1
      obtain ⟨s, hsq⟩ : ∃ x, x = ρ 135 i := ⟨_, rfl⟩
      rw [← hsq] at bI_ qi
      have fbs := BF_fb hNN hBF qi
      refine r_aload_n (dc dkX13_moved 72 rfl) rfl (np 129 rfl ?_)
      refine r_getR (dc dkX13_moved 73 rfl) flX13_82 fd_111_42 (np 132 rfl ?_)
      refine r_iload (dc dkX13_moved 74 rfl) rfl (np 134 rfl ?_)
      refine r_iald (dc dkX13_moved 75 rfl) ar_135 (by omega) (np 135 rfl ?_)
      refine r_eqI s hsq.symm ?_
      refine r_istore (lv' := [(7, _), (0, _), (1, _), (2, _), (3, _), (4, _), (5, _), (6, _)]) (dc dkX13_moved 76 rfl) (Nat.le_of_ble_eq_true rfl) rfl (np 137 rfl ?_)
      refine r_iload (dc dkX13_moved 77 rfl) rfl (np 139 rfl ?_)
      refine r_pS1 (y' := miX13_setOf) (dc dkX13_moved 78 rfl) mlX13_426 seX13_setOf (Nat.le_of_ble_eq_true rfl) (Nat.le_of_ble_eq_true rfl) (c_X13_setOf qi) (np 142 rfl ?_)
      refine r_iload_n (dc dkX13_moved 79 rfl) rfl (np 143 rfl ?_)
      refine r_icmp_ne (tgt := 154) (dc dkX13_moved 80 rfl) rfl (by have a1 : 0 ≤ sA s ∧ sA s < 36 := (by unfold sA; omega); have a2 : 0 ≤ sB s ∧ sB s < 36 := (by unfold sB; omega); have a3 : 0 ≤ sC s ∧ sC s < 36 := (by unfold sC; omega); have l1 : 0 ≤ lo3 (sA s) (sB s) (sC s) ∧ lo3 (sA s) (sB s) (sC s) < 36 := (by unfold lo3; omega); have l2 : 0 ≤ hi3 (sA s) (sB s) (sC s) ∧ hi3 (sA s) (sB s) (sC s) < 36 := (by unfold hi3; omega); have l3 : -100 ≤ md3 (sA s) (sB s) (sC s) ∧ md3 (sA s) (sB s) (sC s) ≤ 200 := (by unfold md3; omega); unfold stO st3; omega) (by omega) (fun h143 => ?_) (fun h143 => (np 146 rfl ?_))
      · skip
        refine r_iconst (dc dkX13_moved 86 rfl) (np 155 rfl ?_)
        refine r_istore (lv' := [(8, _), (7, _), (0, _), (1, _), (2, _), (3, _), (4, _), (5, _), (6, _)]) (dc dkX13_moved 87 rfl) (Nat.le_of_ble_eq_true rfl) rfl (np 157 rfl ?_)
        refine r_iconst (dc dkX13_moved 88 rfl) (np 158 rfl ?_)
        refine r_istore (lv' := [(9, _), (8, _), (7, _), (0, _), (1, _), (2, _), (3, _), (4, _), (5, _), (6, _)]) (dc dkX13_moved 89 rfl) (Nat.le_of_ble_eq_true rfl) rfl (np 160 rfl ?_)
        refine r_pick [3, 4, 5, 6, 7, 8, 9, 2, 1, 0] (lv' := [(0, _), (1, _), (2, _), (3, _), (4, _), (5, _), (6, _), (7, _), (8, _), (9, _)]) rfl ?_
        refine jlp4 (P := fun (m : Int) (u : Int) (c : Int) (ρ : jS) => jR _ _ _ 160 [(0, .ref 111), (1, vI a), (2, vI b), (3, vI (stO (36 * (36 * (ixW (σ 113 0) (rP σ 113 b 0)) + (ixW (σ 113 0) (rP σ 113 b 1))) + (ixW (σ 113 0) (rP σ 113 b 2))))), (4, vI s0), (5, vI m), (6, vI i), (7, vI s), (8, vI u), (9, vI c)] [] ρ) (I := fun (m : Int) (u : Int) (c : Int) (ρ : jS) => ((0 ≤ c ∧ c ≤ 3) ∧ u = scl c ∧ i < m ∧ m ≤ 46656) ∧ mdT [] [134, 135] σ0 ρ ∧ BFI (σ 113 0) (σ 113 1) (pkR σ 113) s0 (stO (36 * (36 * (ixW (σ 113 0) (rP σ 113 b 0)) + (ixW (σ 113 0) (rP σ 113 b 1))) + (ixW (σ 113 0) (rP σ 113 b 2)))) NN (ρ 134) (ρ 135) m i ∧ ρ 135 i = s ∧ PCl (σ 113 0) (σ 113 1) (pkR σ 113) (ρ 134) s c 0) (fun (m : Int) (u : Int) (c : Int) (ρ : jS) => (3 - c).toNat) ?_ _ _ _ _ ⟨⟨by omega, by decide, by omega, by omega⟩, S, hBF, hsq.symm, fun c' d' t h1 h2 h3 => by omega⟩
        intro m u c ρ hI160 ih160
        have vs_ := bI_.1
        obtain ⟨ib2, S, hBF, hqi, pc_⟩ := hI160
        have e13 : ρ 113 = σ 113 := by rw [S.1 113 (by decide) (by decide), e0]
        have hNr := okN_c hN e13
        have w13 : ρ 113 0 = σ 113 0 := by rw [e13]
        have h13 : ρ 113 1 = σ 113 1 := by rw [e13]
        refine r_iload (dc dkX13_moved 90 rfl) rfl (np 162 rfl ?_)
        refine r_iconst (dc dkX13_moved 91 rfl) (np 163 rfl ?_)
        refine r_icmp_ge (tgt := 356) (dc dkX13_moved 92 rfl) rfl (by first | assumption | decide | omega) (by first | assumption | decide | omega) (fun h163 => ?_) (fun h163 => (np 166 rfl ?_))
        · skip
          refine r_iinc (lv' := [(6, _), (0, _), (1, _), (2, _), (3, _), (4, _), (5, _), (7, _), (8, _), (9, _)]) (dc dkX13_moved 194 rfl) (Nat.le_of_ble_eq_true rfl) rfl rfl (np 359 rfl ?_)
          refine r_goto (tgt := 121) (dc dkX13_moved 195 rfl) rfl ?_
          refine r_pick [1, 2, 3, 4, 5, 6, 0] rfl ?_
          exact ih121 _ _ _ ⟨by omega, S, by rw [show c = 3 by omega] at pc_; exact BF_next hBF (by omega) (by rw [hqi]; exact h143) (by rw [hqi]; exact PC_end hw vs_ pc_)⟩ (by omega)
        have hu := ib2.2.1
        subst hu
        refine r_iload (dc dkX13_moved 93 rfl) rfl (np 168 rfl ?_)
        refine r_iload (dc dkX13_moved 94 rfl) rfl (np 170 rfl ?_)
        have sd1 := Int.ediv_le_self (scl c) qi.1
        have sc1 : 1 ≤ scl c ∧ scl c ≤ 1296 := by rcases (show c = 0 ∨ c = 1 ∨ c = 2 by omega) with rfl | rfl | rfl <;> decide
        have sd2 := Int.ediv_nonneg qi.1 (show 0 ≤ scl c by omega)
        refine r_idivn (dc dkX13_moved 95 rfl) (by first | assumption | decide | omega) (by first | assumption | decide | omega) (np 171 rfl ?_)
        refine r_bipush (dc dkX13_moved 96 rfl) bp_36 (np 173 rfl ?_)
        refine r_iremn (dc dkX13_moved 97 rfl) (by first | assumption | decide | omega) (by first | assumption | decide | omega) (np 174 rfl ?_)
        refine r_istore (lv' := [(10, _), (0, _), (1, _), (2, _), (3, _), (4, _), (5, _), (6, _), (7, _), (8, _), (9, _)]) (dc dkX13_moved 98 rfl) (Nat.le_of_ble_eq_true rfl) rfl (np 176 rfl ?_)
        refine r_iconst (dc dkX13_moved 99 rfl) (np 177 rfl ?_)
        refine r_istore (lv' := [(11, _), (10, _), (0, _), (1, _), (2, _), (3, _), (4, _), (5, _), (6, _), (7, _), (8, _), (9, _)]) (dc dkX13_moved 100 rfl) (Nat.le_of_ble_eq_true rfl) rfl (np 179 rfl ?_)
        refine r_pick [2, 3, 4, 5, 6, 7, 8, 9, 10, 11, 1, 0] (lv' := [(0, _), (1, _), (2, _), (3, _), (4, _), (5, _), (6, _), (7, _), (8, _), (9, _), (10, _), (11, _)]) rfl ?_
        refine jlp3 (P := fun (m : Int) (d : Int) (ρ : jS) => jR _ _ _ 179 [(0, .ref 111), (1, vI a), (2, vI b), (3, vI (stO (36 * (36 * (ixW (σ 113 0) (rP σ 113 b 0)) + (ixW (σ 113 0) (rP σ 113 b 1))) + (ixW (σ 113 0) (rP σ 113 b 2))))), (4, vI s0), (5, vI m), (6, vI i), (7, vI s), (8, vI (scl c)), (9, vI c), (10, vI (s / scl c % 36)), (11, vI d)] [] ρ) (I := fun (m : Int) (d : Int) (ρ : jS) => ((0 ≤ d ∧ d ≤ 4) ∧ i < m ∧ m ≤ 46656) ∧ mdT [] [134, 135] σ0 ρ ∧ BFI (σ 113 0) (σ 113 1) (pkR σ 113) s0 (stO (36 * (36 * (ixW (σ 113 0) (rP σ 113 b 0)) + (ixW (σ 113 0) (rP σ 113 b 1))) + (ixW (σ 113 0) (rP σ 113 b 2)))) NN (ρ 134) (ρ 135) m i ∧ ρ 135 i = s ∧ PCl (σ 113 0) (σ 113 1) (pkR σ 113) (ρ 134) s c d) (fun (m : Int) (d : Int) (ρ : jS) => (4 - d).toNat) ?_ _ _ _ ⟨⟨by omega, by omega, by omega⟩, S, hBF, hqi, pc_⟩
        intro m d ρ hI179 ih179
        obtain ⟨ib3, S, hBF, hqi, pc_⟩ := hI179
        have e13 : ρ 113 = σ 113 := by rw [S.1 113 (by decide) (by decide), e0]
        have hNr := okN_c hN e13
        have w13 : ρ 113 0 = σ 113 0 := by rw [e13]
        have h13 : ρ 113 1 = σ 113 1 := by rw [e13]
        refine r_iload (dc dkX13_moved 101 rfl) rfl (np 181 rfl ?_)
        refine r_iconst (dc dkX13_moved 102 rfl) (np 182 rfl ?_)
        refine r_icmp_ge (tgt := 343) (dc dkX13_moved 103 rfl) rfl (by first | assumption | decide | omega) (by first | assumption | decide | omega) (fun h182 => ?_) (fun h182 => (np 185 rfl ?_))
        · skip
          refine r_iload (dc dkX13_moved 188 rfl) rfl (np 345 rfl ?_)
          refine r_bipush (dc dkX13_moved 189 rfl) bp_36 (np 347 rfl ?_)
          refine r_imul (dc dkX13_moved 190 rfl) (np 348 rfl ?_)
          refine r_istore (lv' := [(8, _), (0, _), (1, _), (2, _), (3, _), (4, _), (5, _), (6, _), (7, _), (9, _), (10, _), (11, _)]) (dc dkX13_moved 191 rfl) (Nat.le_of_ble_eq_true rfl) rfl (np 350 rfl ?_)
          refine r_iinc (lv' := [(9, _), (8, _), (0, _), (1, _), (2, _), (3, _), (4, _), (5, _), (6, _), (7, _), (10, _), (11, _)]) (dc dkX13_moved 192 rfl) (Nat.le_of_ble_eq_true rfl) rfl rfl (np 353 rfl ?_)
          refine r_goto (tgt := 160) (dc dkX13_moved 193 rfl) rfl ?_
          refine r_pick [2, 3, 4, 5, 6, 7, 8, 9, 1, 0] rfl ?_
          exact ih160 _ _ _ _ ⟨⟨by omega, by rcases (show c = 0 ∨ c = 1 ∨ c = 2 by omega) with rfl | rfl | rfl <;> decide, by omega, by omega⟩, S, hBF, hqi, by rw [show d = 4 by omega] at pc_; exact PC_c pc_⟩ (by omega)
        have jj337 : ∀ (m2 : Int) (ρ2 : jS), ((i < m2 ∧ m2 ≤ 46656) ∧ mdT [] [134, 135] σ0 ρ2 ∧ BFI (σ 113 0) (σ 113 1) (pkR σ 113) s0 (stO (36 * (36 * (ixW (σ 113 0) (rP σ 113 b 0)) + (ixW (σ 113 0) (rP σ 113 b 1))) + (ixW (σ 113 0) (rP σ 113 b 2)))) NN (ρ2 134) (ρ2 135) m2 i ∧ ρ2 135 i = s ∧ PCl (σ 113 0) (σ 113 1) (pkR σ 113) (ρ2 134) s c (d + 1)) → jR 6 miX13_moved (fun r τ => mdT [0] [134, 135] σ τ ∧ τ 111 0 = 0 ∧ ∃ v, r = some (vI v) ∧ (¬ (((0 ≤ a ∧ a < σ 113 4) ∧ (0 ≤ b ∧ b < σ 113 4) ∧ cn σ 113 a = 3 ∧ cn σ 113 b = 3) ∧ σ 113 0 * σ 113 1 ≤ 36) → v = -1) ∧ (((0 ≤ a ∧ a < σ 113 4) ∧ (0 ≤ b ∧ b < σ 113 4) ∧ cn σ 113 a = 3 ∧ cn σ 113 b = 3) ∧ σ 113 0 * σ 113 1 ≤ 36 → ans (hitR (σ 113 0) (σ 113 1) (pkR σ 113) (36 * (36 * (ixW (σ 113 0) (rP σ 113 a 0)) + (ixW (σ 113 0) (rP σ 113 a 1))) + (ixW (σ 113 0) (rP σ 113 a 2))) (stO (36 * (36 * (ixW (σ 113 0) (rP σ 113 b 0)) + (ixW (σ 113 0) (rP σ 113 b 1))) + (ixW (σ 113 0) (rP σ 113 b 2))))) v)) 337 [(0, .ref 111), (1, vI a), (2, vI b), (3, vI (stO (36 * (36 * (ixW (σ 113 0) (rP σ 113 b 0)) + (ixW (σ 113 0) (rP σ 113 b 1))) + (ixW (σ 113 0) (rP σ 113 b 2))))), (4, vI s0), (5, vI m2), (6, vI i), (7, vI s), (8, vI (scl c)), (9, vI c), (10, vI (s / scl c % 36)), (11, vI d)] [] ρ2 := by
          intro m2 ρ2 hx
          refine r_iinc (lv' := [(11, _), (0, _), (1, _), (2, _), (3, _), (4, _), (5, _), (6, _), (7, _), (8, _), (9, _), (10, _)]) (dc dkX13_moved 186 rfl) (Nat.le_of_ble_eq_true rfl) rfl rfl (np 340 rfl ?_)
          refine r_goto (tgt := 179) (dc dkX13_moved 187 rfl) rfl ?_
          refine r_pick [1, 2, 3, 4, 5, 6, 7, 8, 9, 10, 11, 0] rfl ?_
          exact ih179 _ _ _ ⟨⟨by omega, by omega, by omega⟩, hx.2.1, hx.2.2.1, hx.2.2.2.1, hx.2.2.2.2⟩ (by omega)
        refine r_iload (dc dkX13_moved 104 rfl) rfl (np 187 rfl ?_)
        refine r_aload_n (dc dkX13_moved 105 rfl) rfl (np 188 rfl ?_)
        refine r_getR (dc dkX13_moved 106 rfl) flX13_13 fd_111_15 (np 191 rfl ?_)
        refine r_iconst (dc dkX13_moved 107 rfl) (np 192 rfl ?_)
        refine r_iald (dc dkX13_moved 108 rfl) ar_113 (by omega) (np 193 rfl ?_)
        refine r_eqI _ w13 ?_
        have pp : 0 ≤ s / scl c % 36 ∧ s / scl c % 36 < 36 := by omega
        refine r_iremn (dc dkX13_moved 109 rfl) (by first | assumption | decide | omega) (by first | assumption | decide | omega) (np 194 rfl ?_)
        have jj215 : ∀ g : Int, (g = dX d) → jR 6 miX13_moved (fun r τ => mdT [0] [134, 135] σ τ ∧ τ 111 0 = 0 ∧ ∃ v, r = some (vI v) ∧ (¬ (((0 ≤ a ∧ a < σ 113 4) ∧ (0 ≤ b ∧ b < σ 113 4) ∧ cn σ 113 a = 3 ∧ cn σ 113 b = 3) ∧ σ 113 0 * σ 113 1 ≤ 36) → v = -1) ∧ (((0 ≤ a ∧ a < σ 113 4) ∧ (0 ≤ b ∧ b < σ 113 4) ∧ cn σ 113 a = 3 ∧ cn σ 113 b = 3) ∧ σ 113 0 * σ 113 1 ≤ 36 → ans (hitR (σ 113 0) (σ 113 1) (pkR σ 113) (36 * (36 * (ixW (σ 113 0) (rP σ 113 a 0)) + (ixW (σ 113 0) (rP σ 113 a 1))) + (ixW (σ 113 0) (rP σ 113 a 2))) (stO (36 * (36 * (ixW (σ 113 0) (rP σ 113 b 0)) + (ixW (σ 113 0) (rP σ 113 b 1))) + (ixW (σ 113 0) (rP σ 113 b 2))))) v)) 215 [(0, .ref 111), (1, vI a), (2, vI b), (3, vI (stO (36 * (36 * (ixW (σ 113 0) (rP σ 113 b 0)) + (ixW (σ 113 0) (rP σ 113 b 1))) + (ixW (σ 113 0) (rP σ 113 b 2))))), (4, vI s0), (5, vI m), (6, vI i), (7, vI s), (8, vI (scl c)), (9, vI c), (10, vI (s / scl c % 36)), (11, vI d)] [vI g, vI (s / scl c % 36 % σ 113 0)] ρ := by
          intro g hg
          subst hg
          refine r_iadd (dc dkX13_moved 121 rfl) (np 216 rfl ?_)
          refine r_istore (lv' := [(12, _), (0, _), (1, _), (2, _), (3, _), (4, _), (5, _), (6, _), (7, _), (8, _), (9, _), (10, _), (11, _)]) (dc dkX13_moved 122 rfl) (Nat.le_of_ble_eq_true rfl) rfl (np 218 rfl ?_)
          refine r_iload (dc dkX13_moved 123 rfl) rfl (np 220 rfl ?_)
          refine r_aload_n (dc dkX13_moved 124 rfl) rfl (np 221 rfl ?_)
          refine r_getR (dc dkX13_moved 125 rfl) flX13_13 fd_111_15 (np 224 rfl ?_)
          refine r_iconst (dc dkX13_moved 126 rfl) (np 225 rfl ?_)
          refine r_iald (dc dkX13_moved 127 rfl) ar_113 (by omega) (np 226 rfl ?_)
          refine r_eqI _ w13 ?_
          refine r_idivn (dc dkX13_moved 128 rfl) (by first | assumption | decide | omega) (by first | assumption | decide | omega) (np 227 rfl ?_)
          have jj247 : ∀ g : Int, (g = dY d) → jR 6 miX13_moved (fun r τ => mdT [0] [134, 135] σ τ ∧ τ 111 0 = 0 ∧ ∃ v, r = some (vI v) ∧ (¬ (((0 ≤ a ∧ a < σ 113 4) ∧ (0 ≤ b ∧ b < σ 113 4) ∧ cn σ 113 a = 3 ∧ cn σ 113 b = 3) ∧ σ 113 0 * σ 113 1 ≤ 36) → v = -1) ∧ (((0 ≤ a ∧ a < σ 113 4) ∧ (0 ≤ b ∧ b < σ 113 4) ∧ cn σ 113 a = 3 ∧ cn σ 113 b = 3) ∧ σ 113 0 * σ 113 1 ≤ 36 → ans (hitR (σ 113 0) (σ 113 1) (pkR σ 113) (36 * (36 * (ixW (σ 113 0) (rP σ 113 a 0)) + (ixW (σ 113 0) (rP σ 113 a 1))) + (ixW (σ 113 0) (rP σ 113 a 2))) (stO (36 * (36 * (ixW (σ 113 0) (rP σ 113 b 0)) + (ixW (σ 113 0) (rP σ 113 b 1))) + (ixW (σ 113 0) (rP σ 113 b 2))))) v)) 247 [(0, .ref 111), (1, vI a), (2, vI b), (3, vI (stO (36 * (36 * (ixW (σ 113 0) (rP σ 113 b 0)) + (ixW (σ 113 0) (rP σ 113 b 1))) + (ixW (σ 113 0) (rP σ 113 b 2))))), (4, vI s0), (5, vI m), (6, vI i), (7, vI s), (8, vI (scl c)), (9, vI c), (10, vI (s / scl c % 36)), (11, vI d), (12, vI (s / scl c % 36 % σ 113 0 + dX d))] [vI g, vI (s / scl c % 36 / σ 113 0)] ρ := by
            intro g hg
            subst hg
            refine r_iadd (dc dkX13_moved 139 rfl) (np 248 rfl ?_)
            refine r_istore (lv' := [(13, _), (0, _), (1, _), (2, _), (3, _), (4, _), (5, _), (6, _), (7, _), (8, _), (9, _), (10, _), (11, _), (12, _)]) (dc dkX13_moved 140 rfl) (Nat.le_of_ble_eq_true rfl) rfl (np 250 rfl ?_)
            have pq := Int.emod_nonneg (s / scl c % 36) (show σ 113 0 ≠ 0 by omega)
            have pq2 := Int.emod_lt_of_pos (s / scl c % 36) (show 0 < σ 113 0 by omega)
            have pq3 := Int.ediv_nonneg pp.1 (show 0 ≤ σ 113 0 by omega)
            have pq4 := Int.ediv_le_self (σ 113 0) pp.1
            have dx : -1 ≤ dX d ∧ dX d ≤ 1 := by unfold dX; split <;> (try split) <;> omega
            have dy : -1 ≤ dY d ∧ dY d ≤ 1 := by unfold dY; split <;> (try split) <;> omega
            refine r_aload_n (dc dkX13_moved 141 rfl) rfl (np 251 rfl ?_)
            refine r_getR (dc dkX13_moved 142 rfl) flX13_13 fd_111_15 (np 254 rfl ?_)
            refine r_iload (dc dkX13_moved 143 rfl) rfl (np 256 rfl ?_)
            refine r_iload (dc dkX13_moved 144 rfl) rfl (np 258 rfl ?_)
            refine r_pS3 (y' := miX13_isPeg) (dc dkX13_moved 145 rfl) mlX13_226 seX13_isPeg (Nat.le_of_ble_eq_true rfl) (Nat.le_of_ble_eq_true rfl) (c_X13_isPeg ar_113 (by decide) hNr.1 (by omega) (by omega)) (np 261 rfl ?_)
            refine r_eqI _ (pkR_xy e13 hN.1.1) ?_
            refine r_bn (tgt := 267) (dc dkX13_moved 146 rfl) rfl (fun h261 => ?_) (fun h261 => (np 264 rfl ?_))
            · skip
              have mt_ := mv_t (pk := pkR σ 113) (t := (s + scl c * (σ 113 0 * (s / scl c % 36 / σ 113 0 + dY d) + (s / scl c % 36 % σ 113 0 + dX d) - s / scl c % 36))) hw (by omega) vs_ (by omega) (by omega) h261.1 h261.2 rfl
              refine r_iload (dc dkX13_moved 148 rfl) rfl (np 269 rfl ?_)
              refine r_iload (dc dkX13_moved 149 rfl) rfl (np 271 rfl ?_)
              refine r_aload_n (dc dkX13_moved 150 rfl) rfl (np 272 rfl ?_)
              refine r_iload (dc dkX13_moved 151 rfl) rfl (np 274 rfl ?_)
              refine r_iload (dc dkX13_moved 152 rfl) rfl (np 276 rfl ?_)
              refine r_pV2 (y' := miX13_placeOf) (dc dkX13_moved 153 rfl) mlX13_420 ceX13_placeOf ob_111 (Nat.le_of_ble_eq_true rfl) (Nat.le_of_ble_eq_true rfl) (c_X13_placeOf ) (np 279 rfl ?_)
              refine r_eqI (σ 113 0 * (s / scl c % 36 / σ 113 0 + dY d) + (s / scl c % 36 % σ 113 0 + dX d)) (by rw [w13]) ?_
              refine r_iload (dc dkX13_moved 154 rfl) rfl (np 281 rfl ?_)
              refine r_isub (dc dkX13_moved 155 rfl) (np 282 rfl ?_)
              refine r_imul (dc dkX13_moved 156 rfl) (np 283 rfl ?_)
              refine r_iadd (dc dkX13_moved 157 rfl) (np 284 rfl ?_)
              obtain ⟨t, htt⟩ : ∃ x, x = (s + scl c * (σ 113 0 * (s / scl c % 36 / σ 113 0 + dY d) + (s / scl c % 36 % σ 113 0 + dX d) - s / scl c % 36)) := ⟨_, rfl⟩
              rw [← htt] at mt_
              refine r_eqI t htt.symm ?_
              have fbt := BF_fb hNN hBF (t := t) mt_.1
              refine r_istore (lv' := [(14, _), (13, _), (0, _), (1, _), (2, _), (3, _), (4, _), (5, _), (6, _), (7, _), (8, _), (9, _), (10, _), (11, _), (12, _)]) (dc dkX13_moved 158 rfl) (Nat.le_of_ble_eq_true rfl) rfl (np 286 rfl ?_)
              refine r_aload_n (dc dkX13_moved 159 rfl) rfl (np 287 rfl ?_)
              refine r_getR (dc dkX13_moved 160 rfl) flX13_79 fd_111_41 (np 290 rfl ?_)
              refine r_iload (dc dkX13_moved 161 rfl) rfl (np 292 rfl ?_)
              refine r_iald (dc dkX13_moved 162 rfl) ar_134 (by omega) (np 293 rfl ?_)
              refine r_iconst (dc dkX13_moved 163 rfl) (np 294 rfl ?_)
              refine r_icmp_ne (tgt := 337) (dc dkX13_moved 164 rfl) rfl (by omega) (by decide) (fun h294 => ?_) (fun h294 => (np 297 rfl ?_))
              · skip
                refine r_pick [2, 3, 4, 5, 6, 7, 8, 9, 10, 11, 12, 13] rfl ?_
                exact jj337 _ _ (by
                      first
                      | exact ⟨by omega, S, hBF, hqi, PC_s pc_ (fun t mE => absurd ⟨mE.1, mE.2.1⟩ h261)⟩
                      | exact ⟨by omega, S, hBF, hqi, PC_s pc_ (fun t2 mE => by rw [mE.2.2.1, ← htt]; exact ⟨h294, by rw [← hqi]; exact fbt.2.2.2 (by omega) h294⟩)⟩
                      | exact ⟨by omega, S, hBF, hqi, PC_s pc_ (fun t2 mE => by have q := mE.2.2.2; rw [mE.2.2.1, ← htt] at q; exact absurd q h303)⟩
                      | (have ad := BF_add (F' := ju (ju ρ 134 t (ρ 134 s + 1)) 135 m t 134) (Q' := ju (ju ρ 134 t (ρ 134 s + 1)) 135 m t 135) hNN hBF (by omega) msv.1 (by rw [hqi]; exact msv.2) h294 (fun x => by
                           rw [ju_off _ _ _ _ _ (by decide), hqi]
                           unfold ju
                           by_cases q : x = t
                           · rw [if_pos ⟨rfl, q⟩, if_pos q]
                           · rw [if_neg (fun z => q z.2), if_neg q]) (fun x => by
                           unfold ju
                           by_cases q : x = m
                           · rw [if_pos ⟨rfl, q⟩, if_pos q]
                           · rw [if_neg (fun z => q z.2), if_neg (fun z => absurd z.1 (by decide)), if_neg q])
                         have fs0 : 0 ≤ ρ 134 s := by have := (hBF.2.1 i (by omega) (by omega)).2.1; rw [hqi] at this; omega
                         have fs : ¬ ρ 134 s = -1 := by omega
                         refine ⟨by omega, (S.row (by decide) (by decide)).row (by decide) (by decide), ad.1, by rw [ad.2.2.2]; exact hqi, PC_s (PC_up pc_ ad.2.1 fs) (fun t2 mE2 => ?_)⟩
                         rw [mE2.2.2.1, ← htt, ad.2.2.1, ad.2.1 s fs, hqi]
                         omega))
              refine r_aload_n (dc dkX13_moved 165 rfl) rfl (np 298 rfl ?_)
              refine r_iload (dc dkX13_moved 166 rfl) rfl (np 300 rfl ?_)
              refine r_pV1 (y' := miX13_bends) (dc dkX13_moved 167 rfl) mlX13_429 ceX13_bends ob_111 (Nat.le_of_ble_eq_true rfl) (Nat.le_of_ble_eq_true rfl) (c_X13_bends (by rw [w13]; exact hw) (by rw [h13]; exact hh) mt_.1 (by rw [w13, h13]; exact mt_.2.2.1) (by rw [w13, h13]; exact mt_.2.2.2.1) (by rw [w13, h13]; exact mt_.2.2.2.2)) (np 303 rfl ?_)
              refine r_eqI (bI (¬ tn (pgW (σ 113 0) (sA t)) (pgW (σ 113 0) (sB t)) (pgW (σ 113 0) (sC t)) = 0)) (by rw [e13]) ?_
              refine r_bn (tgt := 309) (dc dkX13_moved 168 rfl) rfl (fun h303 => ?_) (fun h303 => (np 306 rfl ?_))
              · skip
                have mE : mvE (σ 113 0) (σ 113 1) (pkR σ 113) s c d t := ⟨h261.1, h261.2, htt, h303⟩
                have msv := mvE_st hw (by omega) vs_ (by omega) (by omega) mE
                have mlt := BF_lt hBF (t := t) (by omega) h294
                refine r_aload_n (dc dkX13_moved 170 rfl) rfl (np 310 rfl ?_)
                refine r_getR (dc dkX13_moved 171 rfl) flX13_79 fd_111_41 (np 313 rfl ?_)
                refine r_iload (dc dkX13_moved 172 rfl) rfl (np 315 rfl ?_)
                refine r_aload_n (dc dkX13_moved 173 rfl) rfl (np 316 rfl ?_)
                refine r_getR (dc dkX13_moved 174 rfl) flX13_79 fd_111_41 (np 319 rfl ?_)
                refine r_iload (dc dkX13_moved 175 rfl) rfl (np 321 rfl ?_)
                refine r_iald (dc dkX13_moved 176 rfl) ar_134 (by omega) (np 322 rfl ?_)
                refine r_iconst (dc dkX13_moved 177 rfl) (np 323 rfl ?_)
                refine r_iadd (dc dkX13_moved 178 rfl) (np 324 rfl ?_)
                refine r_iast (dc dkX13_moved 179 rfl) ar_134 (by omega) (np 325 rfl ?_)
                refine r_aload_n (dc dkX13_moved 180 rfl) rfl (np 326 rfl ?_)
                refine r_getR (dc dkX13_moved 181 rfl) flX13_82 fd_111_42 (np 329 rfl ?_)
                refine r_iload (dc dkX13_moved 182 rfl) rfl (np 331 rfl ?_)
                refine r_iload (dc dkX13_moved 183 rfl) rfl (np 333 rfl ?_)
                refine r_iast (dc dkX13_moved 184 rfl) ar_135 (by omega) (np 334 rfl ?_)
                refine r_iinc (lv' := [(5, _), (14, _), (13, _), (0, _), (1, _), (2, _), (3, _), (4, _), (6, _), (7, _), (8, _), (9, _), (10, _), (11, _), (12, _)]) (dc dkX13_moved 185 rfl) (Nat.le_of_ble_eq_true rfl) rfl rfl (np 337 rfl ?_)
                refine r_pick [3, 4, 5, 6, 7, 0, 8, 9, 10, 11, 12, 13] rfl ?_
                exact jj337 _ _ (by
                      first
                      | exact ⟨by omega, S, hBF, hqi, PC_s pc_ (fun t mE => absurd ⟨mE.1, mE.2.1⟩ h261)⟩
                      | exact ⟨by omega, S, hBF, hqi, PC_s pc_ (fun t2 mE => by rw [mE.2.2.1, ← htt]; exact ⟨h294, by rw [← hqi]; exact fbt.2.2.2 (by omega) h294⟩)⟩
                      | exact ⟨by omega, S, hBF, hqi, PC_s pc_ (fun t2 mE => by have q := mE.2.2.2; rw [mE.2.2.1, ← htt] at q; exact absurd q h303)⟩
                      | (have ad := BF_add (F' := ju (ju ρ 134 t (ρ 134 s + 1)) 135 m t 134) (Q' := ju (ju ρ 134 t (ρ 134 s + 1)) 135 m t 135) hNN hBF (by omega) msv.1 (by rw [hqi]; exact msv.2) h294 (fun x => by
                           rw [ju_off _ _ _ _ _ (by decide), hqi]
                           unfold ju
                           by_cases q : x = t
                           · rw [if_pos ⟨rfl, q⟩, if_pos q]
                           · rw [if_neg (fun z => q z.2), if_neg q]) (fun x => by
                           unfold ju
                           by_cases q : x = m
                           · rw [if_pos ⟨rfl, q⟩, if_pos q]
                           · rw [if_neg (fun z => q z.2), if_neg (fun z => absurd z.1 (by decide)), if_neg q])
                         have fs0 : 0 ≤ ρ 134 s := by have := (hBF.2.1 i (by omega) (by omega)).2.1; rw [hqi] at this; omega
                         have fs : ¬ ρ 134 s = -1 := by omega
                         refine ⟨by omega, (S.row (by decide) (by decide)).row (by decide) (by decide), ad.1, by rw [ad.2.2.2]; exact hqi, PC_s (PC_up pc_ ad.2.1 fs) (fun t2 mE2 => ?_)⟩
                         rw [mE2.2.2.1, ← htt, ad.2.2.1, ad.2.1 s fs, hqi]
                         omega))
              refine r_goto (tgt := 337) (dc dkX13_moved 169 rfl) rfl ?_
              refine r_pick [2, 3, 4, 5, 6, 7, 8, 9, 10, 11, 12, 13] rfl ?_
              exact jj337 _ _ (by
                    first
                    | exact ⟨by omega, S, hBF, hqi, PC_s pc_ (fun t mE => absurd ⟨mE.1, mE.2.1⟩ h261)⟩
                    | exact ⟨by omega, S, hBF, hqi, PC_s pc_ (fun t2 mE => by rw [mE.2.2.1, ← htt]; exact ⟨h294, by rw [← hqi]; exact fbt.2.2.2 (by omega) h294⟩)⟩
                    | exact ⟨by omega, S, hBF, hqi, PC_s pc_ (fun t2 mE => by have q := mE.2.2.2; rw [mE.2.2.1, ← htt] at q; exact absurd q h303)⟩
                    | (have ad := BF_add (F' := ju (ju ρ 134 t (ρ 134 s + 1)) 135 m t 134) (Q' := ju (ju ρ 134 t (ρ 134 s + 1)) 135 m t 135) hNN hBF (by omega) msv.1 (by rw [hqi]; exact msv.2) h294 (fun x => by
                         rw [ju_off _ _ _ _ _ (by decide), hqi]
                         unfold ju
                         by_cases q : x = t
                         · rw [if_pos ⟨rfl, q⟩, if_pos q]
                         · rw [if_neg (fun z => q z.2), if_neg q]) (fun x => by
                         unfold ju
                         by_cases q : x = m
                         · rw [if_pos ⟨rfl, q⟩, if_pos q]
                         · rw [if_neg (fun z => q z.2), if_neg (fun z => absurd z.1 (by decide)), if_neg q])
                       have fs0 : 0 ≤ ρ 134 s := by have := (hBF.2.1 i (by omega) (by omega)).2.1; rw [hqi] at this; omega
                       have fs : ¬ ρ 134 s = -1 := by omega
                       refine ⟨by omega, (S.row (by decide) (by decide)).row (by decide) (by decide), ad.1, by rw [ad.2.2.2]; exact hqi, PC_s (PC_up pc_ ad.2.1 fs) (fun t2 mE2 => ?_)⟩
                       rw [mE2.2.2.1, ← htt, ad.2.2.1, ad.2.1 s fs, hqi]
                       omega))
            refine r_goto (tgt := 337) (dc dkX13_moved 147 rfl) rfl ?_
            refine r_pick [1, 2, 3, 4, 5, 6, 7, 8, 9, 10, 11, 12] rfl ?_
            exact jj337 _ _ (by
                  first
                  | exact ⟨by omega, S, hBF, hqi, PC_s pc_ (fun t mE => absurd ⟨mE.1, mE.2.1⟩ h261)⟩
                  | exact ⟨by omega, S, hBF, hqi, PC_s pc_ (fun t2 mE => by rw [mE.2.2.1, ← htt]; exact ⟨h294, by rw [← hqi]; exact fbt.2.2.2 (by omega) h294⟩)⟩
                  | exact ⟨by omega, S, hBF, hqi, PC_s pc_ (fun t2 mE => by have q := mE.2.2.2; rw [mE.2.2.1, ← htt] at q; exact absurd q h303)⟩
                  | (have ad := BF_add (F' := ju (ju ρ 134 t (ρ 134 s + 1)) 135 m t 134) (Q' := ju (ju ρ 134 t (ρ 134 s + 1)) 135 m t 135) hNN hBF (by omega) msv.1 (by rw [hqi]; exact msv.2) h294 (fun x => by
                       rw [ju_off _ _ _ _ _ (by decide), hqi]
                       unfold ju
                       by_cases q : x = t
                       · rw [if_pos ⟨rfl, q⟩, if_pos q]
                       · rw [if_neg (fun z => q z.2), if_neg q]) (fun x => by
                       unfold ju
                       by_cases q : x = m
                       · rw [if_pos ⟨rfl, q⟩, if_pos q]
                       · rw [if_neg (fun z => q z.2), if_neg (fun z => absurd z.1 (by decide)), if_neg q])
                     have fs0 : 0 ≤ ρ 134 s := by have := (hBF.2.1 i (by omega) (by omega)).2.1; rw [hqi] at this; omega
                     have fs : ¬ ρ 134 s = -1 := by omega
                     refine ⟨by omega, (S.row (by decide) (by decide)).row (by decide) (by decide), ad.1, by rw [ad.2.2.2]; exact hqi, PC_s (PC_up pc_ ad.2.1 fs) (fun t2 mE2 => ?_)⟩
                     rw [mE2.2.2.1, ← htt, ad.2.2.1, ad.2.1 s fs, hqi]
                     omega))
          refine r_iload (dc dkX13_moved 129 rfl) rfl (np 229 rfl ?_)
          refine r_iconst (dc dkX13_moved 130 rfl) (np 230 rfl ?_)
          refine r_icmp_ne (tgt := 237) (dc dkX13_moved 131 rfl) rfl (by first | assumption | decide | omega) (by first | assumption | decide | omega) (fun h230 => ?_) (fun h230 => (np 233 rfl ?_))
          · skip
            refine r_iload (dc dkX13_moved 134 rfl) rfl (np 239 rfl ?_)
            refine r_if_ne (tgt := 246) (dc dkX13_moved 135 rfl) rfl (by first | assumption | decide | omega) (fun h239 => ?_) (fun h239 => (np 242 rfl ?_))
            · skip
              refine r_iconst (dc dkX13_moved 138 rfl) (np 247 rfl ?_)
              refine r_pick [1, 2, 3, 4, 5, 6, 7, 8, 9, 10, 11, 12, 0] rfl ?_
              exact jj247 _ (by unfold dY; first | (rw [if_pos (by omega)]; done) | (rw [if_neg (by omega), if_pos (by omega)]; done) | (rw [if_neg (by omega), if_neg (by omega)]; done))
            refine r_iconst (dc dkX13_moved 136 rfl) (np 243 rfl ?_)
            refine r_goto (tgt := 247) (dc dkX13_moved 137 rfl) rfl ?_
            refine r_pick [1, 2, 3, 4, 5, 6, 7, 8, 9, 10, 11, 12, 0] rfl ?_
            exact jj247 _ (by unfold dY; first | (rw [if_pos (by omega)]; done) | (rw [if_neg (by omega), if_pos (by omega)]; done) | (rw [if_neg (by omega), if_neg (by omega)]; done))
          refine r_iconst (dc dkX13_moved 132 rfl) (np 234 rfl ?_)
          refine r_goto (tgt := 247) (dc dkX13_moved 133 rfl) rfl ?_
          refine r_pick [1, 2, 3, 4, 5, 6, 7, 8, 9, 10, 11, 12, 0] rfl ?_
          exact jj247 _ (by unfold dY; first | (rw [if_pos (by omega)]; done) | (rw [if_neg (by omega), if_pos (by omega)]; done) | (rw [if_neg (by omega), if_neg (by omega)]; done))
        refine r_iload (dc dkX13_moved 110 rfl) rfl (np 196 rfl ?_)
        refine r_iconst (dc dkX13_moved 111 rfl) (np 197 rfl ?_)
        refine r_icmp_ne (tgt := 204) (dc dkX13_moved 112 rfl) rfl (by first | assumption | decide | omega) (by first | assumption | decide | omega) (fun h197 => ?_) (fun h197 => (np 200 rfl ?_))
        · skip
          refine r_iload (dc dkX13_moved 115 rfl) rfl (np 206 rfl ?_)
          refine r_iconst (dc dkX13_moved 116 rfl) (np 207 rfl ?_)
          refine r_icmp_ne (tgt := 214) (dc dkX13_moved 117 rfl) rfl (by first | assumption | decide | omega) (by first | assumption | decide | omega) (fun h207 => ?_) (fun h207 => (np 210 rfl ?_))
          · skip
            refine r_iconst (dc dkX13_moved 120 rfl) (np 215 rfl ?_)
            refine r_pick [0, 1, 2, 3, 4, 5, 6, 7, 8, 9, 10, 11] rfl ?_
            exact jj215 _ (by unfold dX; first | (rw [if_pos (by omega)]; done) | (rw [if_neg (by omega), if_pos (by omega)]; done) | (rw [if_neg (by omega), if_neg (by omega)]; done))
          refine r_iconst (dc dkX13_moved 118 rfl) (np 211 rfl ?_)
          refine r_goto (tgt := 215) (dc dkX13_moved 119 rfl) rfl ?_
          refine r_pick [0, 1, 2, 3, 4, 5, 6, 7, 8, 9, 10, 11] rfl ?_
          exact jj215 _ (by unfold dX; first | (rw [if_pos (by omega)]; done) | (rw [if_neg (by omega), if_pos (by omega)]; done) | (rw [if_neg (by omega), if_neg (by omega)]; done))
        refine r_iconst (dc dkX13_moved 113 rfl) (np 201 rfl ?_)
        refine r_goto (tgt := 215) (dc dkX13_moved 114 rfl) rfl ?_
        refine r_pick [0, 1, 2, 3, 4, 5, 6, 7, 8, 9, 10, 11] rfl ?_
        exact jj215 _ (by unfold dX; first | (rw [if_pos (by omega)]; done) | (rw [if_neg (by omega), if_pos (by omega)]; done) | (rw [if_neg (by omega), if_neg (by omega)]; done))
      refine r_aload_n (dc dkX13_moved 81 rfl) rfl (np 147 rfl ?_)
      refine r_getR (dc dkX13_moved 82 rfl) flX13_79 fd_111_41 (np 150 rfl ?_)
      refine r_iload (dc dkX13_moved 83 rfl) rfl (np 152 rfl ?_)
      refine r_iald (dc dkX13_moved 84 rfl) ar_134 (by omega) (np 153 rfl ?_)
      exact r_iret (dc dkX13_moved 85 rfl) rfl ⟨M0.tr (S.wide (by decide) (by decide)), by rw [S.2 0 (by decide), z0], _, rfl, fun u => absurd ⟨⟨h10, h18, h27, h36⟩, h54⟩ u, fun _ => by rw [← hs0, hsq]; exact BF_hit (by omega) hv0 hBF (by omega) (by rw [← hsq]; exact h143)⟩
    refine r_aload_n (dc dkX13_moved 44 rfl) rfl (np 79 rfl ?_)
    refine r_getR (dc dkX13_moved 45 rfl) flX13_79 fd_111_41 (np 82 rfl ?_)
    refine r_iload (dc dkX13_moved 46 rfl) rfl (np 84 rfl ?_)
    refine r_iconst (dc dkX13_moved 47 rfl) (np 85 rfl ?_)
    refine r_iast (dc dkX13_moved 48 rfl) ar_134 (by omega) (np 86 rfl ?_)
    refine r_iinc (lv' := [(4, _), (0, _), (1, _), (2, _), (3, _)]) (dc dkX13_moved 49 rfl) (Nat.le_of_ble_eq_true rfl) rfl rfl (np 89 rfl ?_)
    refine r_goto (tgt := 71) (dc dkX13_moved 50 rfl) rfl ?_
    refine r_pick [1, 2, 3, 4, 0] rfl ?_
    exact ih71 _ _ ⟨by omega, St.row (by decide) (by decide), fun j j0 j1 => by by_cases q : j = k; rw [q, ju_at]; rw [ju_ne (by omega)]; exact hfill j j0 (by omega)⟩ (by omega)
  refine r_iconst (dc dkX13_moved 32 rfl) (np 58 rfl ?_)
  exact r_iret (dc dkX13_moved 33 rfl) rfl (by
      have z0 : σ0 111 0 = 0 := by rw [hσ0, ju_at]
      have M0 : mdT [0] [134, 135] σ σ0 := by rw [hσ0]; exact (mdT.refl _ _ _).put (by decide)
      refine ⟨M0, z0, _, rfl, fun _ => rfl, fun u => ?_⟩
      first
      | exact absurd u.1.1 (by rw [e4] at h10; exact h10)
      | exact absurd u.1.2.1 (by rw [e4] at h18; exact h18)
      | exact absurd u.1.2.2.1 h27
      | exact absurd u.1.2.2.2 h36
      | (have := u.2; omega))
