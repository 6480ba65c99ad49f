set_option maxRecDepth 100000 in
set_option maxHeartbeats 4000000 in
theorem c_X13_snap {σ : jS} (hN : okN σ) (hp : cB 8 (σ 111 27)) {b : Int} (hb : iR b) : Jm 7 miX13_snap [.ref 111, vI b] σ (fun r τ => (¬ (0 ≤ b ∧ b < σ 113 4) → r = some (vI (-1)) ∧ τ = ju σ 111 0 0) ∧ ((0 ≤ b ∧ b < σ 113 4) → r = some (vI (freeR τ - freeR σ)) ∧ ∃ ρ, SS (ju σ 111 0 0) ρ ∧ (∀ c, ¬ c = 113 → ¬ c = 118 → τ c = ρ c) ∧ RMr σ τ b)) := by
  refine jm_ofF (Po := (fun r τ => (¬ (0 ≤ b ∧ b < σ 113 4) → r = some (vI (-1)) ∧ τ = ju σ 111 0 0) ∧ ((0 ≤ b ∧ b < σ 113 4) → r = some (vI (freeR τ - freeR σ)) ∧ ∃ ρ, SS (ju σ 111 0 0) ρ ∧ (∀ c, ¬ c = 113 → ¬ c = 118 → τ c = ρ c) ∧ RMr σ τ b))) (plainFor_of_name (by decide)) (Nat.le_of_ble_eq_true rfl) (lv := [(0, _), (1, _)]) rfl ?_
  refine r_aload_n (dc dkX13_snap 0 rfl) rfl (np 1 rfl ?_)
  refine r_iconst (dc dkX13_snap 1 rfl) (np 2 rfl ?_)
  refine r_pI 0 (dc dkX13_snap 2 rfl) fpX13_94 fd_111_0 rfl (np 5 rfl ?_)
  refine r_abs (fun ρ => ρ = ju σ 111 0 0) rfl ?_
  intro σ0 hσ0
  have e0 : σ0 113 = σ 113 := by rw [hσ0]; exact ju_off _ _ _ _ _ (by decide)
  have hN0 := okN_c hN e0
  have e4 : σ0 113 4 = σ 113 4 := by rw [e0]
  have ec : ∀ b, cn σ0 113 b = cn σ 113 b := cn_c e0
  have eP : ∀ b, rP σ0 113 b = rP σ 113 b := rP_c2 e0
  have m1 := hN.1.2.2.2.2.1
  have w1 := hN.1.1
  have w2 := hN.1.2.1
  have k0 : ∀ c, ¬ c = 111 → σ0 c = σ c := fun c hc => by rw [hσ0]; exact ju_off _ _ _ _ _ hc
  have p0 : cB 8 (σ0 111 27) := by rw [hσ0, ju_ne (by decide)]; exact hp
  have z0 : σ0 111 0 = 0 := by rw [hσ0]; exact ju_at _ _ _ _
  have t0 : mdT [0] [114] σ σ0 := by rw [hσ0]; exact (mdT.refl _ _ _).put (by decide)
  refine r_aload_n (dc dkX13_snap 3 rfl) rfl (np 6 rfl ?_)
  refine r_iload_n (dc dkX13_snap 4 rfl) rfl (np 7 rfl ?_)
  refine r_pV1 (y' := miX13_isBand) (dc dkX13_snap 5 rfl) mlX13_304 ceX13_isBand ob_111 (Nat.le_of_ble_eq_true rfl) (Nat.le_of_ble_eq_true rfl) (c_X13_isBand hN0 (by omega)) (np 10 rfl ?_)
  refine r_bn (tgt := 15) (dc dkX13_snap 6 rfl) rfl (fun h10 => ?_) (fun h10 => (np 13 rfl ?_))
  · skip
    rw [e4] at h10
    have fr0 := freeR_c e0
    refine r_aload_n (dc dkX13_snap 9 rfl) rfl (np 16 rfl ?_)
    refine r_pV0 (y' := miX13_freeMany) (dc dkX13_snap 10 rfl) mlX13_374 ceX13_freeMany ob_111 (Nat.le_of_ble_eq_true rfl) (Nat.le_of_ble_eq_true rfl) (c_X13_freeMany hN0) (np 19 rfl ?_)
    refine r_istore_n (lv' := [(2, _), (0, _), (1, _)]) (dc dkX13_snap 11 rfl) (Nat.le_of_ble_eq_true rfl) rfl (np 20 rfl ?_)
    refine r_aload_n (dc dkX13_snap 12 rfl) rfl (np 21 rfl ?_)
    refine r_cV0 (y' := miX13_snapShot) (dc dkX13_snap 13 rfl) mlX13_362 ceX13_snapShot ob_111 (Nat.le_of_ble_eq_true rfl) (Nat.le_of_ble_eq_true rfl) (c_X13_snapShot p0) (fun r τ2 hp2 => (np 24 rfl ?_))
    obtain ⟨rfl, hk2⟩ := hp2
    rw [hσ0] at hk2
    have y113 : τ2 113 = σ 113 := by rw [hk2.1.1 113 (by decide) (by decide)]; exact ju_off _ _ _ _ _ (by decide)
    have y118 : τ2 118 = σ 118 := by rw [hk2.1.1 118 (by decide) (by decide)]; exact ju_off _ _ _ _ _ (by decide)
    refine r_iload_n (dc dkX13_snap 14 rfl) rfl (np 25 rfl ?_)
    refine r_istore_n (lv' := [(3, _), (2, _), (0, _), (1, _)]) (dc dkX13_snap 15 rfl) (Nat.le_of_ble_eq_true rfl) rfl (np 26 rfl ?_)
    refine r_pick [2, 3, 1, 0] (lv' := [(0, _), (1, _), (2, _), (3, _)]) rfl ?_
    refine jlp2 (P := fun (i : Int) (τ : jS) => jR _ _ _ 26 [(0, .ref 111), (1, vI b), (2, vI (freeR σ0)), (3, vI i)] [] τ) (I := fun (i : Int) (τ : jS) => (b ≤ i ∧ i ≤ σ 113 4 - 1) ∧ (∀ c, ¬ c = 113 → ¬ c = 118 → τ c = τ2 c) ∧ (∀ j, τ 113 j = if 105 + 17 * b ≤ j ∧ j < 105 + 17 * i then σ 113 (j + 17) else σ 113 j) ∧ ∀ j, τ 118 j = if b ≤ j ∧ j < i then σ 118 (j + 1) else σ 118 j) (fun (i : Int) (τ : jS) => (σ 113 4 - i).toNat) ?_ _ _ ⟨by omega, fun _ _ _ => rfl, fun j => by rw [y113, if_neg (by omega)], fun j => by rw [y118, if_neg (by omega)]⟩
    intro i τ hI26 ih26
    have em : τ 113 4 = σ 113 4 := by rw [hI26.2.2.1 4, if_neg (by omega)]
    refine r_iload_n (dc dkX13_snap 16 rfl) rfl (np 27 rfl ?_)
    refine r_aload_n (dc dkX13_snap 17 rfl) rfl (np 28 rfl ?_)
    refine r_pV0 (y' := miX13_bands) (dc dkX13_snap 18 rfl) mlX13_276 ceX13_bands ob_111 (Nat.le_of_ble_eq_true rfl) (Nat.le_of_ble_eq_true rfl) (c_X13_bands ) (np 31 rfl ?_)
    refine r_iconst (dc dkX13_snap 19 rfl) (np 32 rfl ?_)
    refine r_isub (dc dkX13_snap 20 rfl) (np 33 rfl ?_)
    refine r_icmp_ge (tgt := 105) (dc dkX13_snap 21 rfl) rfl (by first | assumption | decide | omega) (by first | assumption | decide | omega) (fun h33 => ?_) (fun h33 => (np 36 rfl ?_))
    · skip
      refine r_aload_n (dc dkX13_snap 63 rfl) rfl (np 106 rfl ?_)
      refine r_getR (dc dkX13_snap 64 rfl) flX13_13 fd_111_15 (np 109 rfl ?_)
      refine r_iconst (dc dkX13_snap 65 rfl) (np 110 rfl ?_)
      refine r_dup2 (dc dkX13_snap 66 rfl) ⟨rfl, rfl⟩ (np 111 rfl ?_)
      refine r_iald (dc dkX13_snap 67 rfl) ar_113 (by omega) (np 112 rfl ?_)
      refine r_iconst (dc dkX13_snap 68 rfl) (np 113 rfl ?_)
      refine r_isub (dc dkX13_snap 69 rfl) (np 114 rfl ?_)
      refine r_iast (dc dkX13_snap 70 rfl) ar_113 (by omega) (np 115 rfl ?_)
      have ei : i = σ 113 4 - 1 := by omega
      subst ei
      refine r_abs (fun ρ => (∀ c, ¬ c = 113 → ρ c = τ c) ∧ ρ 113 4 = σ 113 4 - 1 ∧ (∀ j, ¬ j = 4 → ρ 113 j = if 105 + 17 * b ≤ j ∧ j < 105 + 17 * (σ 113 4 - 1) then σ 113 (j + 17) else σ 113 j) ∧ ∀ j, ρ 118 j = if b ≤ j ∧ j < σ 113 4 - 1 then σ 118 (j + 1) else σ 118 j) ⟨fun c hc => ju_off _ _ _ _ _ hc, by rw [ju_at, em], fun j hj => by rw [ju_ne (by omega)]; exact hI26.2.2.1 j, fun j => by rw [ju_off _ _ _ _ _ (by decide)]; exact hI26.2.2.2 j⟩ ?_
      intro τ9 hF
      obtain ⟨hK9, hM9, hR9, hQ9⟩ := hF
      have hN9 := RMr_N (τ := τ9) hN h10 hM9 hR9
      refine r_aload_n (dc dkX13_snap 71 rfl) rfl (np 116 rfl ?_)
      refine r_pV0 (y' := miX13_freeMany) (dc dkX13_snap 72 rfl) mlX13_374 ceX13_freeMany ob_111 (Nat.le_of_ble_eq_true rfl) (Nat.le_of_ble_eq_true rfl) (c_X13_freeMany hN9) (np 119 rfl ?_)
      refine r_iload_n (dc dkX13_snap 73 rfl) rfl (np 120 rfl ?_)
      refine r_isub (dc dkX13_snap 74 rfl) (np 121 rfl ?_)
      exact r_iret (dc dkX13_snap 75 rfl) rfl ⟨fun z => absurd h10 z, fun _ => ⟨by rw [fr0], τ2, hk2, fun c c1 c2 => by rw [hK9 c c1]; exact hI26.2.1 c c1 c2, hM9, hR9, hQ9⟩⟩
    refine r_iconst (dc dkX13_snap 22 rfl) (np 37 rfl ?_)
    refine r_istore (lv' := [(4, _), (0, _), (1, _), (2, _), (3, _)]) (dc dkX13_snap 23 rfl) (Nat.le_of_ble_eq_true rfl) rfl (np 39 rfl ?_)
    refine r_pick [1, 2, 3, 4, 0] (lv' := [(0, _), (1, _), (2, _), (3, _), (4, _)]) rfl ?_
    refine jlp2 (P := fun (c : Int) (τ4 : jS) => jR _ _ _ 39 [(0, .ref 111), (1, vI b), (2, vI (freeR σ0)), (3, vI i), (4, vI c)] [] τ4) (I := fun (c : Int) (τ4 : jS) => (0 ≤ c ∧ c ≤ 17) ∧ (∀ x, ¬ x = 113 → τ4 x = τ x) ∧ ∀ j, τ4 113 j = if 105 + 17 * b ≤ j ∧ j < 105 + 17 * i + c then σ 113 (j + 17) else σ 113 j) (fun (c : Int) (τ4 : jS) => (17 - c).toNat) ?_ _ _ ⟨by omega, fun _ _ => rfl, fun j => by rw [hI26.2.2.1 j, Int.add_zero]⟩
    intro c τ4 hI39 ih39
    refine r_iload (dc dkX13_snap 24 rfl) rfl (np 41 rfl ?_)
    refine r_bipush (dc dkX13_snap 25 rfl) bp_17 (np 43 rfl ?_)
    refine r_icmp_ge (tgt := 85) (dc dkX13_snap 26 rfl) rfl (by first | assumption | decide | omega) (by first | assumption | decide | omega) (fun h43 => ?_) (fun h43 => (np 46 rfl ?_))
    · skip
      refine r_aload_n (dc dkX13_snap 51 rfl) rfl (np 86 rfl ?_)
      refine r_getR (dc dkX13_snap 52 rfl) flX13_28 fd_111_20 (np 89 rfl ?_)
      refine r_iload_n (dc dkX13_snap 53 rfl) rfl (np 90 rfl ?_)
      refine r_aload_n (dc dkX13_snap 54 rfl) rfl (np 91 rfl ?_)
      refine r_getR (dc dkX13_snap 55 rfl) flX13_28 fd_111_20 (np 94 rfl ?_)
      refine r_iload_n (dc dkX13_snap 56 rfl) rfl (np 95 rfl ?_)
      refine r_iconst (dc dkX13_snap 57 rfl) (np 96 rfl ?_)
      refine r_iadd (dc dkX13_snap 58 rfl) (np 97 rfl ?_)
      refine r_lald (dc dkX13_snap 59 rfl) ar_118 (by omega) (np 98 rfl ?_)
      refine r_last (dc dkX13_snap 60 rfl) ar_118 (by omega) (np 99 rfl ?_)
      refine r_iinc (lv' := [(3, _), (0, _), (1, _), (2, _), (4, _)]) (dc dkX13_snap 61 rfl) (Nat.le_of_ble_eq_true rfl) rfl rfl (np 102 rfl ?_)
      refine r_goto (tgt := 26) (dc dkX13_snap 62 rfl) rfl ?_
      refine r_pick [1, 2, 3, 0] rfl ?_
      exact ih26 _ _ (by
             refine ⟨by omega, fun c c1 c2 => ?_, fun j => ?_, fun j => ?_⟩
             · rw [ju_off _ _ _ _ _ c2, hI39.2.1 c c1]; exact hI26.2.1 c c1 c2
             · rw [ju_off _ _ _ _ _ (by decide), hI39.2.2 j]
               by_cases q : 105 + 17 * b ≤ j ∧ j < 105 + 17 * i + c
               · rw [if_pos q, if_pos (by omega)]
               · rw [if_neg q, if_neg (by omega)]
             · have u : ∀ x, τ4 118 x = if b ≤ x ∧ x < i then σ 118 (x + 1) else σ 118 x := fun x => by rw [hI39.2.1 118 (by decide)]; exact hI26.2.2.2 x
               by_cases hj : j = i
               · rw [hj, ju_at, u, if_neg (by omega), if_pos (by omega)]
               · rw [ju_ne (by omega), u]
                 by_cases q : b ≤ j ∧ j < i
                 · rw [if_pos q, if_pos (by omega)]
                 · rw [if_neg q, if_neg (by omega)]) (by omega)
    refine r_aload_n (dc dkX13_snap 27 rfl) rfl (np 47 rfl ?_)
    refine r_getR (dc dkX13_snap 28 rfl) flX13_13 fd_111_15 (np 50 rfl ?_)
    refine r_bipush (dc dkX13_snap 29 rfl) bp_105 (np 52 rfl ?_)
    refine r_bipush (dc dkX13_snap 30 rfl) bp_17 (np 54 rfl ?_)
    refine r_iload_n (dc dkX13_snap 31 rfl) rfl (np 55 rfl ?_)
    refine r_imul (dc dkX13_snap 32 rfl) (np 56 rfl ?_)
    refine r_iadd (dc dkX13_snap 33 rfl) (np 57 rfl ?_)
    refine r_iload (dc dkX13_snap 34 rfl) rfl (np 59 rfl ?_)
    refine r_iadd (dc dkX13_snap 35 rfl) (np 60 rfl ?_)
    refine r_aload_n (dc dkX13_snap 36 rfl) rfl (np 61 rfl ?_)
    refine r_getR (dc dkX13_snap 37 rfl) flX13_13 fd_111_15 (np 64 rfl ?_)
    refine r_bipush (dc dkX13_snap 38 rfl) bp_105 (np 66 rfl ?_)
    refine r_bipush (dc dkX13_snap 39 rfl) bp_17 (np 68 rfl ?_)
    refine r_iload_n (dc dkX13_snap 40 rfl) rfl (np 69 rfl ?_)
    refine r_imul (dc dkX13_snap 41 rfl) (np 70 rfl ?_)
    refine r_iadd (dc dkX13_snap 42 rfl) (np 71 rfl ?_)
    refine r_bipush (dc dkX13_snap 43 rfl) bp_17 (np 73 rfl ?_)
    refine r_iadd (dc dkX13_snap 44 rfl) (np 74 rfl ?_)
    refine r_iload (dc dkX13_snap 45 rfl) rfl (np 76 rfl ?_)
    refine r_iadd (dc dkX13_snap 46 rfl) (np 77 rfl ?_)
    refine r_iald (dc dkX13_snap 47 rfl) ar_113 (by omega) (np 78 rfl ?_)
    refine r_iast (dc dkX13_snap 48 rfl) ar_113 (by omega) (np 79 rfl ?_)
    refine r_iinc (lv' := [(4, _), (0, _), (1, _), (2, _), (3, _)]) (dc dkX13_snap 49 rfl) (Nat.le_of_ble_eq_true rfl) rfl rfl (np 82 rfl ?_)
    refine r_goto (tgt := 39) (dc dkX13_snap 50 rfl) rfl ?_
    refine r_pick [1, 2, 3, 4, 0] rfl ?_
    exact ih39 _ _ (by
           refine ⟨by omega, fun x hx => by rw [ju_off _ _ _ _ _ hx]; exact hI39.2.1 x hx, fun j => ?_⟩
           by_cases hj : j = 105 + 17 * i + c
           · rw [hj, ju_at, hI39.2.2, if_neg (by omega), if_pos (by omega)]
             congr 1; omega
           · rw [ju_ne (by omega), hI39.2.2 j]
             by_cases q : 105 + 17 * b ≤ j ∧ j < 105 + 17 * i + c
             · rw [if_pos q, if_pos (by omega)]
             · rw [if_neg q, if_neg (by omega)]) (by omega)
  refine r_iconst (dc dkX13_snap 7 rfl) (np 14 rfl ?_)
  exact r_iret (dc dkX13_snap 8 rfl) rfl (by rw [e4] at h10; exact ⟨fun _ => ⟨rfl, hσ0⟩, fun z => absurd z h10⟩)
