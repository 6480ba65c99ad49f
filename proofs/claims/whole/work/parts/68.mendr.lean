set_option maxRecDepth 100000 in
set_option maxHeartbeats 4000000 in
theorem c_X13_mended {σ : jS} (hN : okN σ) (hC : okC (σ 113)) (hF : cB 1 (σ 113 241)) (h3 : ¬ σ 113 241 = 0 → 3 ≤ σ 113 242) {k : Int} (hk : iR k) : Jm 8 miX13_mended [.ref 111, vI k] σ (fun r τ => (mdT [0] [114] σ τ ∧ τ 111 0 = 0) ∧ ((σ 113 241 = 0 ∨ (smI (fun i => σ 113 (245 + 2 * i + 0)) (σ 113 242) = 0 ∧ smI (fun i => σ 113 (245 + 2 * i + 1)) (σ 113 242) = 0)) → r = some (vI (-1))) ∧ (¬ (σ 113 241 = 0 ∨ (smI (fun i => σ 113 (245 + 2 * i + 0)) (σ 113 242) = 0 ∧ smI (fun i => σ 113 (245 + 2 * i + 1)) (σ 113 242) = 0)) → ∃ v, r = some (vI v) ∧ nthV (fun i => (-9 ≤ (σ 113 (245 + 2 * i) - smI (fun q => σ 113 (245 + 2 * q + 0)) (σ 113 242)) ∧ (σ 113 (245 + 2 * i) - smI (fun q => σ 113 (245 + 2 * q + 0)) (σ 113 242)) ≤ 9) ∧ (-9 ≤ (σ 113 (246 + 2 * i) - smI (fun q => σ 113 (245 + 2 * q + 1)) (σ 113 242)) ∧ (σ 113 (246 + 2 * i) - smI (fun q => σ 113 (245 + 2 * q + 1)) (σ 113 242)) ≤ 9) ∧ wrA (σ 113 242) (fun c => lyR σ i (σ 113 (245 + 2 * i) - smI (fun q => σ 113 (245 + 2 * q + 0)) (σ 113 242)) (σ 113 (246 + 2 * i) - smI (fun q => σ 113 (245 + 2 * q + 1)) (σ 113 242)) (c % σ 113 242)) (pkR σ 113) = 0) (σ 113 242) k v)) := by
  refine jm_ofF (Po := (fun r τ => (mdT [0] [114] σ τ ∧ τ 111 0 = 0) ∧ ((σ 113 241 = 0 ∨ (smI (fun i => σ 113 (245 + 2 * i + 0)) (σ 113 242) = 0 ∧ smI (fun i => σ 113 (245 + 2 * i + 1)) (σ 113 242) = 0)) → r = some (vI (-1))) ∧ (¬ (σ 113 241 = 0 ∨ (smI (fun i => σ 113 (245 + 2 * i + 0)) (σ 113 242) = 0 ∧ smI (fun i => σ 113 (245 + 2 * i + 1)) (σ 113 242) = 0)) → ∃ v, r = some (vI v) ∧ nthV (fun i => (-9 ≤ (σ 113 (245 + 2 * i) - smI (fun q => σ 113 (245 + 2 * q + 0)) (σ 113 242)) ∧ (σ 113 (245 + 2 * i) - smI (fun q => σ 113 (245 + 2 * q + 0)) (σ 113 242)) ≤ 9) ∧ (-9 ≤ (σ 113 (246 + 2 * i) - smI (fun q => σ 113 (245 + 2 * q + 1)) (σ 113 242)) ∧ (σ 113 (246 + 2 * i) - smI (fun q => σ 113 (245 + 2 * q + 1)) (σ 113 242)) ≤ 9) ∧ wrA (σ 113 242) (fun c => lyR σ i (σ 113 (245 + 2 * i) - smI (fun q => σ 113 (245 + 2 * q + 0)) (σ 113 242)) (σ 113 (246 + 2 * i) - smI (fun q => σ 113 (245 + 2 * q + 1)) (σ 113 242)) (c % σ 113 242)) (pkR σ 113) = 0) (σ 113 242) k v))) (plainFor_of_name (by decide)) (Nat.le_of_ble_eq_true rfl) (lv := [(0, _), (1, _)]) rfl ?_
  refine r_aload_n (dc dkX13_mended 0 rfl) rfl (np 1 rfl ?_)
  refine r_iconst (dc dkX13_mended 1 rfl) (np 2 rfl ?_)
  refine r_pI 0 (dc dkX13_mended 2 rfl) fpX13_94 fd_111_0 rfl (np 5 rfl ?_)
  refine r_abs (fun ρ => ρ = ju σ 111 0 0) rfl ?_
  intro σ0 hσ0
  have e0 : σ0 113 = σ 113 := by rw [hσ0]; exact ju_off _ _ _ _ _ (by decide)
  have hN0 := okN_c hN e0
  have e4 : σ0 113 4 = σ 113 4 := by rw [e0]
  have ec : ∀ b, cn σ0 113 b = cn σ 113 b := cn_c e0
  have eP : ∀ b, rP σ0 113 b = rP σ 113 b := rP_c2 e0
  have m1 := hN.1.2.2.2.2.1
  have w1 := hN.1.1
  have w2 := hN.1.2.1
  have k0 : ∀ c, ¬ c = 111 → σ0 c = σ c := fun c hc => by rw [hσ0]; exact ju_off _ _ _ _ _ hc
  have z0 : σ0 111 0 = 0 := by rw [hσ0]; exact ju_at _ _ _ _
  have t0 : mdT [0] [114] σ σ0 := by rw [hσ0]; exact (mdT.refl _ _ _).put (by decide)
  have hC0 : okC (σ0 113) := by rw [e0]; exact hC
  have e241 : σ0 113 241 = σ 113 241 := by rw [e0]
  have n8 := hC.1
  refine r_aload_n (dc dkX13_mended 3 rfl) rfl (np 6 rfl ?_)
  refine r_getR (dc dkX13_mended 4 rfl) flX13_13 fd_111_15 (np 9 rfl ?_)
  refine r_sipush (dc dkX13_mended 5 rfl) sp_241 (np 12 rfl ?_)
  refine r_iald (dc dkX13_mended 6 rfl) ar_113 (by omega) (np 13 rfl ?_)
  refine r_if_eq (tgt := 23) (dc dkX13_mended 7 rfl) rfl (by first | assumption | decide | omega) (fun h13 => ?_) (fun h13 => (np 16 rfl ?_))
  · skip
    refine r_iconst (dc dkX13_mended 11 rfl) (np 24 rfl ?_)
    exact r_iret (dc dkX13_mended 12 rfl) rfl ⟨⟨t0, z0⟩, fun _ => rfl, fun z => by first | exact absurd (Or.inl (show σ 113 241 = 0 by omega)) z | (rw [e0] at h20; exact absurd (Or.inr h20) z)⟩
  refine r_aload_n (dc dkX13_mended 8 rfl) rfl (np 17 rfl ?_)
  refine r_pV0 (y' := miX13_doClose) (dc dkX13_mended 9 rfl) mlX13_392 ceX13_doClose ob_111 (Nat.le_of_ble_eq_true rfl) (Nat.le_of_ble_eq_true rfl) (c_X13_doClose hC0) (np 20 rfl ?_)
  refine r_bz (tgt := 25) (dc dkX13_mended 10 rfl) rfl (fun h20 => ?_) (fun h20 => (np 23 rfl ?_))
  · skip
    rw [e0] at h20
    have n3 := h3 (by omega)
    have su0 := okC_s (w := 0) hC (by decide)
    have su1 := okC_s (w := 1) hC (by decide)
    refine r_iconst (dc dkX13_mended 13 rfl) (np 26 rfl ?_)
    refine r_istore_n (lv' := [(2, _), (0, _), (1, _)]) (dc dkX13_mended 14 rfl) (Nat.le_of_ble_eq_true rfl) rfl (np 27 rfl ?_)
    refine r_iconst (dc dkX13_mended 15 rfl) (np 28 rfl ?_)
    refine r_istore_n (lv' := [(3, _), (2, _), (0, _), (1, _)]) (dc dkX13_mended 16 rfl) (Nat.le_of_ble_eq_true rfl) rfl (np 29 rfl ?_)
    refine r_pick [2, 3, 1, 0] (lv' := [(0, _), (1, _), (2, _), (3, _)]) rfl ?_
    refine jlp3 (P := fun (s : Int) (i : Int) (τ : jS) => jR _ _ _ 29 [(0, .ref 111), (1, vI k), (2, vI s), (3, vI i)] [] τ) (I := fun (s : Int) (i : Int) (τ : jS) => (0 ≤ i ∧ i ≤ σ 113 242) ∧ (mdT [0] [114] σ τ ∧ τ 111 0 = 0) ∧ s = smI (fun q => bI ((fun i => (-9 ≤ (σ 113 (245 + 2 * i) - smI (fun q => σ 113 (245 + 2 * q + 0)) (σ 113 242)) ∧ (σ 113 (245 + 2 * i) - smI (fun q => σ 113 (245 + 2 * q + 0)) (σ 113 242)) ≤ 9) ∧ (-9 ≤ (σ 113 (246 + 2 * i) - smI (fun q => σ 113 (245 + 2 * q + 1)) (σ 113 242)) ∧ (σ 113 (246 + 2 * i) - smI (fun q => σ 113 (245 + 2 * q + 1)) (σ 113 242)) ≤ 9) ∧ wrA (σ 113 242) (fun c => lyR σ i (σ 113 (245 + 2 * i) - smI (fun q => σ 113 (245 + 2 * q + 0)) (σ 113 242)) (σ 113 (246 + 2 * i) - smI (fun q => σ 113 (245 + 2 * q + 1)) (σ 113 242)) (c % σ 113 242)) (pkR σ 113) = 0) q)) i ∧ (0 ≤ s ∧ s ≤ i) ∧ ∀ j, 0 ≤ j → j < i → (fun i => (-9 ≤ (σ 113 (245 + 2 * i) - smI (fun q => σ 113 (245 + 2 * q + 0)) (σ 113 242)) ∧ (σ 113 (245 + 2 * i) - smI (fun q => σ 113 (245 + 2 * q + 0)) (σ 113 242)) ≤ 9) ∧ (-9 ≤ (σ 113 (246 + 2 * i) - smI (fun q => σ 113 (245 + 2 * q + 1)) (σ 113 242)) ∧ (σ 113 (246 + 2 * i) - smI (fun q => σ 113 (245 + 2 * q + 1)) (σ 113 242)) ≤ 9) ∧ wrA (σ 113 242) (fun c => lyR σ i (σ 113 (245 + 2 * i) - smI (fun q => σ 113 (245 + 2 * q + 0)) (σ 113 242)) (σ 113 (246 + 2 * i) - smI (fun q => σ 113 (245 + 2 * q + 1)) (σ 113 242)) (c % σ 113 242)) (pkR σ 113) = 0) j → ¬ smI (fun q => bI ((fun i => (-9 ≤ (σ 113 (245 + 2 * i) - smI (fun q => σ 113 (245 + 2 * q + 0)) (σ 113 242)) ∧ (σ 113 (245 + 2 * i) - smI (fun q => σ 113 (245 + 2 * q + 0)) (σ 113 242)) ≤ 9) ∧ (-9 ≤ (σ 113 (246 + 2 * i) - smI (fun q => σ 113 (245 + 2 * q + 1)) (σ 113 242)) ∧ (σ 113 (246 + 2 * i) - smI (fun q => σ 113 (245 + 2 * q + 1)) (σ 113 242)) ≤ 9) ∧ wrA (σ 113 242) (fun c => lyR σ i (σ 113 (245 + 2 * i) - smI (fun q => σ 113 (245 + 2 * q + 0)) (σ 113 242)) (σ 113 (246 + 2 * i) - smI (fun q => σ 113 (245 + 2 * q + 1)) (σ 113 242)) (c % σ 113 242)) (pkR σ 113) = 0) q)) j = k) (fun (s : Int) (i : Int) (τ : jS) => (σ 113 242 - i).toNat) ?_ _ _ _ ⟨by omega, ⟨t0, z0⟩, rfl, by omega, fun _ _ _ => by omega⟩
    intro s i τ hI29 ih29
    have y113 : τ 113 = σ 113 := hI29.2.1.1.1 113 (by decide) (by decide)
    have hCt : okC (τ 113) := by rw [y113]; exact hC
    have y242 : τ 113 242 = σ 113 242 := by rw [y113]
    refine r_iload_n (dc dkX13_mended 17 rfl) rfl (np 30 rfl ?_)
    refine r_aload_n (dc dkX13_mended 18 rfl) rfl (np 31 rfl ?_)
    refine r_getR (dc dkX13_mended 19 rfl) flX13_13 fd_111_15 (np 34 rfl ?_)
    refine r_sipush (dc dkX13_mended 20 rfl) sp_242 (np 37 rfl ?_)
    refine r_iald (dc dkX13_mended 21 rfl) ar_113 (by omega) (np 38 rfl ?_)
    refine r_icmp_ge (tgt := 155) (dc dkX13_mended 22 rfl) rfl (by first | assumption | decide | omega) (by first | assumption | decide | omega) (fun h38 => ?_) (fun h38 => (np 41 rfl ?_))
    · skip
      refine r_iload_n (dc dkX13_mended 83 rfl) rfl (np 156 rfl ?_)
      refine r_iconst (dc dkX13_mended 84 rfl) (np 157 rfl ?_)
      refine r_icmp_ne (tgt := 164) (dc dkX13_mended 85 rfl) rfl (by first | assumption | decide | omega) (by first | assumption | decide | omega) (fun h157 => ?_) (fun h157 => (np 160 rfl ?_))
      · skip
        refine r_iconst (dc dkX13_mended 88 rfl) (np 165 rfl ?_)
        exact r_iret (dc dkX13_mended 89 rfl) rfl ⟨hI29.2.1, fun z => by rcases z with z | z; exact absurd z (by omega); exact absurd z h20, fun _ => ⟨_, rfl, Or.inr ⟨fun j j0 j1 jq => hI29.2.2.2.2 j j0 (by omega) jq, by first | (rw [if_pos (by omega), hI29.2.2.1, show i = σ 113 242 by omega]; done) | (rw [if_neg (by omega)]; done)⟩⟩⟩
      refine r_iload_n (dc dkX13_mended 86 rfl) rfl (np 161 rfl ?_)
      refine r_goto (tgt := 165) (dc dkX13_mended 87 rfl) rfl ?_
      exact r_iret (dc dkX13_mended 89 rfl) rfl ⟨hI29.2.1, fun z => by rcases z with z | z; exact absurd z (by omega); exact absurd z h20, fun _ => ⟨_, rfl, Or.inr ⟨fun j j0 j1 jq => hI29.2.2.2.2 j j0 (by omega) jq, by first | (rw [if_pos (by omega), hI29.2.2.1, show i = σ 113 242 by omega]; done) | (rw [if_neg (by omega)]; done)⟩⟩⟩
    have by_ := hC.2.2.2 i (by omega) (by omega)
    refine r_aload_n (dc dkX13_mended 23 rfl) rfl (np 42 rfl ?_)
    refine r_getR (dc dkX13_mended 24 rfl) flX13_13 fd_111_15 (np 45 rfl ?_)
    refine r_sipush (dc dkX13_mended 25 rfl) sp_245 (np 48 rfl ?_)
    refine r_iconst (dc dkX13_mended 26 rfl) (np 49 rfl ?_)
    refine r_iload_n (dc dkX13_mended 27 rfl) rfl (np 50 rfl ?_)
    refine r_imul (dc dkX13_mended 28 rfl) (np 51 rfl ?_)
    refine r_iadd (dc dkX13_mended 29 rfl) (np 52 rfl ?_)
    refine r_iald (dc dkX13_mended 30 rfl) ar_113 (by omega) (np 53 rfl ?_)
    refine r_aload_n (dc dkX13_mended 31 rfl) rfl (np 54 rfl ?_)
    refine r_iconst (dc dkX13_mended 32 rfl) (np 55 rfl ?_)
    refine r_pV1 (y' := miX13_sum) (dc dkX13_mended 33 rfl) mlX13_389 ceX13_sum ob_111 (Nat.le_of_ble_eq_true rfl) (Nat.le_of_ble_eq_true rfl) (c_X13_sum hCt (by decide)) (np 58 rfl ?_)
    refine r_isub (dc dkX13_mended 34 rfl) (np 59 rfl ?_)
    refine r_eqI _ (show τ 113 (245 + 2 * i) - smI (fun q => τ 113 (245 + 2 * q + 0)) (τ 113 242) = (σ 113 (245 + 2 * i) - smI (fun q => σ 113 (245 + 2 * q + 0)) (σ 113 242)) by rw [y113]) ?_
    refine r_istore (lv' := [(4, _), (0, _), (1, _), (2, _), (3, _)]) (dc dkX13_mended 35 rfl) (Nat.le_of_ble_eq_true rfl) rfl (np 61 rfl ?_)
    refine r_aload_n (dc dkX13_mended 36 rfl) rfl (np 62 rfl ?_)
    refine r_getR (dc dkX13_mended 37 rfl) flX13_13 fd_111_15 (np 65 rfl ?_)
    refine r_sipush (dc dkX13_mended 38 rfl) sp_246 (np 68 rfl ?_)
    refine r_iconst (dc dkX13_mended 39 rfl) (np 69 rfl ?_)
    refine r_iload_n (dc dkX13_mended 40 rfl) rfl (np 70 rfl ?_)
    refine r_imul (dc dkX13_mended 41 rfl) (np 71 rfl ?_)
    refine r_iadd (dc dkX13_mended 42 rfl) (np 72 rfl ?_)
    refine r_iald (dc dkX13_mended 43 rfl) ar_113 (by omega) (np 73 rfl ?_)
    refine r_aload_n (dc dkX13_mended 44 rfl) rfl (np 74 rfl ?_)
    refine r_iconst (dc dkX13_mended 45 rfl) (np 75 rfl ?_)
    refine r_pV1 (y' := miX13_sum) (dc dkX13_mended 46 rfl) mlX13_389 ceX13_sum ob_111 (Nat.le_of_ble_eq_true rfl) (Nat.le_of_ble_eq_true rfl) (c_X13_sum hCt (by decide)) (np 78 rfl ?_)
    refine r_isub (dc dkX13_mended 47 rfl) (np 79 rfl ?_)
    refine r_eqI _ (show τ 113 (246 + 2 * i) - smI (fun q => τ 113 (245 + 2 * q + 1)) (τ 113 242) = (σ 113 (246 + 2 * i) - smI (fun q => σ 113 (245 + 2 * q + 1)) (σ 113 242)) by rw [y113]) ?_
    refine r_istore (lv' := [(5, _), (4, _), (0, _), (1, _), (2, _), (3, _)]) (dc dkX13_mended 48 rfl) (Nat.le_of_ble_eq_true rfl) rfl (np 81 rfl ?_)
    refine r_iload (dc dkX13_mended 49 rfl) rfl (np 83 rfl ?_)
    refine r_bipush (dc dkX13_mended 50 rfl) bp_m9 (np 85 rfl ?_)
    refine r_bipush (dc dkX13_mended 51 rfl) bp_9 (np 87 rfl ?_)
    refine r_pS3 (y' := miX13_isIn) (dc dkX13_mended 52 rfl) mlX13_168 seX13_isIn (Nat.le_of_ble_eq_true rfl) (Nat.le_of_ble_eq_true rfl) (c_X13_isIn (by omega) (by decide) (by decide)) (np 90 rfl ?_)
    refine r_bz (tgt := 149) (dc dkX13_mended 53 rfl) rfl (fun h90 => ?_) (fun h90 => (np 93 rfl ?_))
    · skip
      refine r_iinc (lv' := [(3, _), (5, _), (4, _), (0, _), (1, _), (2, _)]) (dc dkX13_mended 81 rfl) (Nat.le_of_ble_eq_true rfl) rfl rfl (np 152 rfl ?_)
      refine r_goto (tgt := 29) (dc dkX13_mended 82 rfl) rfl ?_
      refine r_pick [3, 4, 5, 0] rfl ?_
      exact ih29 _ _ _ (by
            have nq : ((fun i => (-9 ≤ (σ 113 (245 + 2 * i) - smI (fun q => σ 113 (245 + 2 * q + 0)) (σ 113 242)) ∧ (σ 113 (245 + 2 * i) - smI (fun q => σ 113 (245 + 2 * q + 0)) (σ 113 242)) ≤ 9) ∧ (-9 ≤ (σ 113 (246 + 2 * i) - smI (fun q => σ 113 (245 + 2 * q + 1)) (σ 113 242)) ∧ (σ 113 (246 + 2 * i) - smI (fun q => σ 113 (245 + 2 * q + 1)) (σ 113 242)) ≤ 9) ∧ wrA (σ 113 242) (fun c => lyR σ i (σ 113 (245 + 2 * i) - smI (fun q => σ 113 (245 + 2 * q + 0)) (σ 113 242)) (σ 113 (246 + 2 * i) - smI (fun q => σ 113 (245 + 2 * q + 1)) (σ 113 242)) (c % σ 113 242)) (pkR σ 113) = 0) i) ∨ ¬ ((fun i => (-9 ≤ (σ 113 (245 + 2 * i) - smI (fun q => σ 113 (245 + 2 * q + 0)) (σ 113 242)) ∧ (σ 113 (245 + 2 * i) - smI (fun q => σ 113 (245 + 2 * q + 0)) (σ 113 242)) ≤ 9) ∧ (-9 ≤ (σ 113 (246 + 2 * i) - smI (fun q => σ 113 (245 + 2 * q + 1)) (σ 113 242)) ∧ (σ 113 (246 + 2 * i) - smI (fun q => σ 113 (245 + 2 * q + 1)) (σ 113 242)) ≤ 9) ∧ wrA (σ 113 242) (fun c => lyR σ i (σ 113 (245 + 2 * i) - smI (fun q => σ 113 (245 + 2 * q + 0)) (σ 113 242)) (σ 113 (246 + 2 * i) - smI (fun q => σ 113 (245 + 2 * q + 1)) (σ 113 242)) (c % σ 113 242)) (pkR σ 113) = 0) i) := by
              first | exact Or.inl ⟨h90, h102, h133⟩ | exact Or.inr (fun z => h133 z.2.2) | exact Or.inr (fun z => h102 z.2.1) | exact Or.inr (fun z => h90 z.1)
            refine ⟨by omega, by first | exact rr | exact hI29.2.1, ?_, by omega, fun j j0 j1 jq => ?_⟩
            · rw [smI_s _ (by omega), ← hI29.2.2.1]
              first | (rw [bI_t ⟨h90, h102, h133⟩]; done) | (rw [bI_f (fun z => h133 z.2.2), Int.add_zero]; done) | (rw [bI_f (fun z => h102 z.2.1), Int.add_zero]; done) | (rw [bI_f (fun z => h90 z.1), Int.add_zero]; done)
            · by_cases hj : j = i
              · subst hj
                rw [← hI29.2.2.1]
                first | omega | exact absurd jq.2.2 h133 | exact absurd jq.2.1 h102 | exact absurd jq.1 h90
              · exact hI29.2.2.2.2 j j0 (by omega) jq) (by omega)
    refine r_iload (dc dkX13_mended 54 rfl) rfl (np 95 rfl ?_)
    refine r_bipush (dc dkX13_mended 55 rfl) bp_m9 (np 97 rfl ?_)
    refine r_bipush (dc dkX13_mended 56 rfl) bp_9 (np 99 rfl ?_)
    refine r_pS3 (y' := miX13_isIn) (dc dkX13_mended 57 rfl) mlX13_168 seX13_isIn (Nat.le_of_ble_eq_true rfl) (Nat.le_of_ble_eq_true rfl) (c_X13_isIn (by omega) (by decide) (by decide)) (np 102 rfl ?_)
    refine r_bn (tgt := 108) (dc dkX13_mended 58 rfl) rfl (fun h102 => ?_) (fun h102 => (np 105 rfl ?_))
    · skip
      refine r_aload_n (dc dkX13_mended 60 rfl) rfl (np 109 rfl ?_)
      refine r_cV0 (y' := miX13_layRead) (dc dkX13_mended 61 rfl) mlX13_365 ceX13_layRead ob_111 (Nat.le_of_ble_eq_true rfl) (Nat.le_of_ble_eq_true rfl) (c_X13_layRead ) (fun r τ3 hp3 => (np 112 rfl ?_))
      obtain ⟨rfl, s3, l3, o3⟩ := hp3
      have hC3 : okC (τ3 113) := by rw [s3 113 (by decide)]; exact hCt
      refine r_aload_n (dc dkX13_mended 62 rfl) rfl (np 113 rfl ?_)
      refine r_bipush (dc dkX13_mended 63 rfl) bp_8 (np 115 rfl ?_)
      refine r_iload_n (dc dkX13_mended 64 rfl) rfl (np 116 rfl ?_)
      refine r_iload (dc dkX13_mended 65 rfl) rfl (np 118 rfl ?_)
      refine r_iload (dc dkX13_mended 66 rfl) rfl (np 120 rfl ?_)
      refine r_cV4 (y' := miX13_layCalls) (dc dkX13_mended 67 rfl) mlX13_395 ceX13_layCalls ob_111 (Nat.le_of_ble_eq_true rfl) (Nat.le_of_ble_eq_true rfl) (c_X13_layCalls hC3 (by decide) (by omega) (by omega) (by omega)) (fun r τ4 hp4 => (np 123 rfl ?_))
      obtain ⟨rfl, s4, a4, b4, c4⟩ := hp4
      have y3 : τ3 113 = σ 113 := by rw [s3 113 (by decide)]; exact y113
      rw [y3] at b4 c4
      obtain ⟨oH, oK, o2, oc, oP, oX, oQ⟩ := rd_ly (ρ := τ4) hN hC (b := 8) (i := i) (x := (σ 113 (245 + 2 * i) - smI (fun q => σ 113 (245 + 2 * q + 0)) (σ 113 242))) (y := (σ 113 (246 + 2 * i) - smI (fun q => σ 113 (245 + 2 * q + 1)) (σ 113 242))) ⟨m1.2, by decide⟩ n3 (by omega) (by omega) (fun j j0 j1 => by rw [a4 j (by omega), l3 j j0 (by omega), y113]) b4 c4
      have oN : 3 ≤ cn τ4 114 8 ∧ cn τ4 114 8 ≤ 8 := by rw [oc]; omega
      have eW : wrF (cn τ4 114 8) (cP τ4 114 8) (pkR τ4 114) (τ4 114 2) 0 8 (cn τ4 114) (rP τ4 114) = wrA (σ 113 242) (fun c => lyR σ i (σ 113 (245 + 2 * i) - smI (fun q => σ 113 (245 + 2 * q + 0)) (σ 113 242)) (σ 113 (246 + 2 * i) - smI (fun q => σ 113 (245 + 2 * q + 1)) (σ 113 242)) (c % σ 113 242)) (pkR σ 113) := by
        rw [wrF_z, oc, oP, oK]
      have wb := wrA_b (σ 113 242) (fun c => lyR σ i (σ 113 (245 + 2 * i) - smI (fun q => σ 113 (245 + 2 * q + 0)) (σ 113 242)) (σ 113 (246 + 2 * i) - smI (fun q => σ 113 (245 + 2 * q + 1)) (σ 113 242)) (c % σ 113 242)) (pkR σ 113)
      have rr : mdT [0] [114] σ τ4 ∧ τ4 111 0 = 0 := by
        have t4 : mdT [0] [114] τ τ4 := ⟨fun c h1 h2 => by rw [s4 c h2, s3 c h2], fun j _ => by rw [s4 111 (by decide), s3 111 (by decide)]⟩
        exact ⟨hI29.2.1.1.tr t4, by rw [s4 111 (by decide), s3 111 (by decide)]; exact hI29.2.1.2⟩
      refine r_aload_n (dc dkX13_mended 68 rfl) rfl (np 124 rfl ?_)
      refine r_getR (dc dkX13_mended 69 rfl) flX13_16 fd_111_16 (np 127 rfl ?_)
      refine r_bipush (dc dkX13_mended 70 rfl) bp_8 (np 129 rfl ?_)
      refine r_iconst (dc dkX13_mended 71 rfl) (np 130 rfl ?_)
      refine r_pS3 (y' := miX13_wrong) (dc dkX13_mended 72 rfl) mlX13_246 seX13_wrong (Nat.le_of_ble_eq_true rfl) (Nat.le_of_ble_eq_true rfl) (c_X13_wrong ar_114 (by decide) oH (by decide) (by decide) oN oX (fun q q0 q1 _ => by omega)) (np 133 rfl ?_)
      refine r_eqI _ eW ?_
      refine r_if_eq (tgt := 139) (dc dkX13_mended 73 rfl) rfl (by first | assumption | decide | omega) (fun h133 => ?_) (fun h133 => (np 136 rfl ?_))
      · skip
        refine r_iload_n (dc dkX13_mended 75 rfl) rfl (np 140 rfl ?_)
        refine r_iload_n (dc dkX13_mended 76 rfl) rfl (np 141 rfl ?_)
        refine r_icmp_ne (tgt := 146) (dc dkX13_mended 77 rfl) rfl (by first | assumption | decide | omega) (by first | assumption | decide | omega) (fun h141 => ?_) (fun h141 => (np 144 rfl ?_))
        · skip
          refine r_iinc (lv' := [(2, _), (5, _), (4, _), (0, _), (1, _), (3, _)]) (dc dkX13_mended 80 rfl) (Nat.le_of_ble_eq_true rfl) rfl rfl (np 149 rfl ?_)
          refine r_iinc (lv' := [(3, _), (2, _), (5, _), (4, _), (0, _), (1, _)]) (dc dkX13_mended 81 rfl) (Nat.le_of_ble_eq_true rfl) rfl rfl (np 152 rfl ?_)
          refine r_goto (tgt := 29) (dc dkX13_mended 82 rfl) rfl ?_
          refine r_pick [4, 5, 1, 0] rfl ?_
          exact ih29 _ _ _ (by
                have nq : ((fun i => (-9 ≤ (σ 113 (245 + 2 * i) - smI (fun q => σ 113 (245 + 2 * q + 0)) (σ 113 242)) ∧ (σ 113 (245 + 2 * i) - smI (fun q => σ 113 (245 + 2 * q + 0)) (σ 113 242)) ≤ 9) ∧ (-9 ≤ (σ 113 (246 + 2 * i) - smI (fun q => σ 113 (245 + 2 * q + 1)) (σ 113 242)) ∧ (σ 113 (246 + 2 * i) - smI (fun q => σ 113 (245 + 2 * q + 1)) (σ 113 242)) ≤ 9) ∧ wrA (σ 113 242) (fun c => lyR σ i (σ 113 (245 + 2 * i) - smI (fun q => σ 113 (245 + 2 * q + 0)) (σ 113 242)) (σ 113 (246 + 2 * i) - smI (fun q => σ 113 (245 + 2 * q + 1)) (σ 113 242)) (c % σ 113 242)) (pkR σ 113) = 0) i) ∨ ¬ ((fun i => (-9 ≤ (σ 113 (245 + 2 * i) - smI (fun q => σ 113 (245 + 2 * q + 0)) (σ 113 242)) ∧ (σ 113 (245 + 2 * i) - smI (fun q => σ 113 (245 + 2 * q + 0)) (σ 113 242)) ≤ 9) ∧ (-9 ≤ (σ 113 (246 + 2 * i) - smI (fun q => σ 113 (245 + 2 * q + 1)) (σ 113 242)) ∧ (σ 113 (246 + 2 * i) - smI (fun q => σ 113 (245 + 2 * q + 1)) (σ 113 242)) ≤ 9) ∧ wrA (σ 113 242) (fun c => lyR σ i (σ 113 (245 + 2 * i) - smI (fun q => σ 113 (245 + 2 * q + 0)) (σ 113 242)) (σ 113 (246 + 2 * i) - smI (fun q => σ 113 (245 + 2 * q + 1)) (σ 113 242)) (c % σ 113 242)) (pkR σ 113) = 0) i) := by
                  first | exact Or.inl ⟨h90, h102, h133⟩ | exact Or.inr (fun z => h133 z.2.2) | exact Or.inr (fun z => h102 z.2.1) | exact Or.inr (fun z => h90 z.1)
                refine ⟨by omega, by first | exact rr | exact hI29.2.1, ?_, by omega, fun j j0 j1 jq => ?_⟩
                · rw [smI_s _ (by omega), ← hI29.2.2.1]
                  first | (rw [bI_t ⟨h90, h102, h133⟩]; done) | (rw [bI_f (fun z => h133 z.2.2), Int.add_zero]; done) | (rw [bI_f (fun z => h102 z.2.1), Int.add_zero]; done) | (rw [bI_f (fun z => h90 z.1), Int.add_zero]; done)
                · by_cases hj : j = i
                  · subst hj
                    rw [← hI29.2.2.1]
                    first | omega | exact absurd jq.2.2 h133 | exact absurd jq.2.1 h102 | exact absurd jq.1 h90
                  · exact hI29.2.2.2.2 j j0 (by omega) jq) (by omega)
        refine r_iload_n (dc dkX13_mended 78 rfl) rfl (np 145 rfl ?_)
        exact r_iret (dc dkX13_mended 79 rfl) rfl ⟨rr, fun z => by rcases z with z | z; exact absurd z (by omega); exact absurd z h20, fun _ => ⟨i, rfl, Or.inl ⟨i, by omega, ⟨h90, h102, h133⟩, by rw [← hI29.2.2.1]; omega, rfl⟩⟩⟩
      refine r_goto (tgt := 149) (dc dkX13_mended 74 rfl) rfl ?_
      refine r_iinc (lv' := [(3, _), (5, _), (4, _), (0, _), (1, _), (2, _)]) (dc dkX13_mended 81 rfl) (Nat.le_of_ble_eq_true rfl) rfl rfl (np 152 rfl ?_)
      refine r_goto (tgt := 29) (dc dkX13_mended 82 rfl) rfl ?_
      refine r_pick [3, 4, 5, 0] rfl ?_
      exact ih29 _ _ _ (by
            have nq : ((fun i => (-9 ≤ (σ 113 (245 + 2 * i) - smI (fun q => σ 113 (245 + 2 * q + 0)) (σ 113 242)) ∧ (σ 113 (245 + 2 * i) - smI (fun q => σ 113 (245 + 2 * q + 0)) (σ 113 242)) ≤ 9) ∧ (-9 ≤ (σ 113 (246 + 2 * i) - smI (fun q => σ 113 (245 + 2 * q + 1)) (σ 113 242)) ∧ (σ 113 (246 + 2 * i) - smI (fun q => σ 113 (245 + 2 * q + 1)) (σ 113 242)) ≤ 9) ∧ wrA (σ 113 242) (fun c => lyR σ i (σ 113 (245 + 2 * i) - smI (fun q => σ 113 (245 + 2 * q + 0)) (σ 113 242)) (σ 113 (246 + 2 * i) - smI (fun q => σ 113 (245 + 2 * q + 1)) (σ 113 242)) (c % σ 113 242)) (pkR σ 113) = 0) i) ∨ ¬ ((fun i => (-9 ≤ (σ 113 (245 + 2 * i) - smI (fun q => σ 113 (245 + 2 * q + 0)) (σ 113 242)) ∧ (σ 113 (245 + 2 * i) - smI (fun q => σ 113 (245 + 2 * q + 0)) (σ 113 242)) ≤ 9) ∧ (-9 ≤ (σ 113 (246 + 2 * i) - smI (fun q => σ 113 (245 + 2 * q + 1)) (σ 113 242)) ∧ (σ 113 (246 + 2 * i) - smI (fun q => σ 113 (245 + 2 * q + 1)) (σ 113 242)) ≤ 9) ∧ wrA (σ 113 242) (fun c => lyR σ i (σ 113 (245 + 2 * i) - smI (fun q => σ 113 (245 + 2 * q + 0)) (σ 113 242)) (σ 113 (246 + 2 * i) - smI (fun q => σ 113 (245 + 2 * q + 1)) (σ 113 242)) (c % σ 113 242)) (pkR σ 113) = 0) i) := by
              first | exact Or.inl ⟨h90, h102, h133⟩ | exact Or.inr (fun z => h133 z.2.2) | exact Or.inr (fun z => h102 z.2.1) | exact Or.inr (fun z => h90 z.1)
            refine ⟨by omega, by first | exact rr | exact hI29.2.1, ?_, by omega, fun j j0 j1 jq => ?_⟩
            · rw [smI_s _ (by omega), ← hI29.2.2.1]
              first | (rw [bI_t ⟨h90, h102, h133⟩]; done) | (rw [bI_f (fun z => h133 z.2.2), Int.add_zero]; done) | (rw [bI_f (fun z => h102 z.2.1), Int.add_zero]; done) | (rw [bI_f (fun z => h90 z.1), Int.add_zero]; done)
            · by_cases hj : j = i
              · subst hj
                rw [← hI29.2.2.1]
                first | omega | exact absurd jq.2.2 h133 | exact absurd jq.2.1 h102 | exact absurd jq.1 h90
              · exact hI29.2.2.2.2 j j0 (by omega) jq) (by omega)
    refine r_goto (tgt := 149) (dc dkX13_mended 59 rfl) rfl ?_
    refine r_iinc (lv' := [(3, _), (5, _), (4, _), (0, _), (1, _), (2, _)]) (dc dkX13_mended 81 rfl) (Nat.le_of_ble_eq_true rfl) rfl rfl (np 152 rfl ?_)
    refine r_goto (tgt := 29) (dc dkX13_mended 82 rfl) rfl ?_
    refine r_pick [3, 4, 5, 0] rfl ?_
    exact ih29 _ _ _ (by
          have nq : ((fun i => (-9 ≤ (σ 113 (245 + 2 * i) - smI (fun q => σ 113 (245 + 2 * q + 0)) (σ 113 242)) ∧ (σ 113 (245 + 2 * i) - smI (fun q => σ 113 (245 + 2 * q + 0)) (σ 113 242)) ≤ 9) ∧ (-9 ≤ (σ 113 (246 + 2 * i) - smI (fun q => σ 113 (245 + 2 * q + 1)) (σ 113 242)) ∧ (σ 113 (246 + 2 * i) - smI (fun q => σ 113 (245 + 2 * q + 1)) (σ 113 242)) ≤ 9) ∧ wrA (σ 113 242) (fun c => lyR σ i (σ 113 (245 + 2 * i) - smI (fun q => σ 113 (245 + 2 * q + 0)) (σ 113 242)) (σ 113 (246 + 2 * i) - smI (fun q => σ 113 (245 + 2 * q + 1)) (σ 113 242)) (c % σ 113 242)) (pkR σ 113) = 0) i) ∨ ¬ ((fun i => (-9 ≤ (σ 113 (245 + 2 * i) - smI (fun q => σ 113 (245 + 2 * q + 0)) (σ 113 242)) ∧ (σ 113 (245 + 2 * i) - smI (fun q => σ 113 (245 + 2 * q + 0)) (σ 113 242)) ≤ 9) ∧ (-9 ≤ (σ 113 (246 + 2 * i) - smI (fun q => σ 113 (245 + 2 * q + 1)) (σ 113 242)) ∧ (σ 113 (246 + 2 * i) - smI (fun q => σ 113 (245 + 2 * q + 1)) (σ 113 242)) ≤ 9) ∧ wrA (σ 113 242) (fun c => lyR σ i (σ 113 (245 + 2 * i) - smI (fun q => σ 113 (245 + 2 * q + 0)) (σ 113 242)) (σ 113 (246 + 2 * i) - smI (fun q => σ 113 (245 + 2 * q + 1)) (σ 113 242)) (c % σ 113 242)) (pkR σ 113) = 0) i) := by
            first | exact Or.inl ⟨h90, h102, h133⟩ | exact Or.inr (fun z => h133 z.2.2) | exact Or.inr (fun z => h102 z.2.1) | exact Or.inr (fun z => h90 z.1)
          refine ⟨by omega, by first | exact rr | exact hI29.2.1, ?_, by omega, fun j j0 j1 jq => ?_⟩
          · rw [smI_s _ (by omega), ← hI29.2.2.1]
            first | (rw [bI_t ⟨h90, h102, h133⟩]; done) | (rw [bI_f (fun z => h133 z.2.2), Int.add_zero]; done) | (rw [bI_f (fun z => h102 z.2.1), Int.add_zero]; done) | (rw [bI_f (fun z => h90 z.1), Int.add_zero]; done)
          · by_cases hj : j = i
            · subst hj
              rw [← hI29.2.2.1]
              first | omega | exact absurd jq.2.2 h133 | exact absurd jq.2.1 h102 | exact absurd jq.1 h90
            · exact hI29.2.2.2.2 j j0 (by omega) jq) (by omega)
  refine r_iconst (dc dkX13_mended 11 rfl) (np 24 rfl ?_)
  exact r_iret (dc dkX13_mended 12 rfl) rfl ⟨⟨t0, z0⟩, fun _ => rfl, fun z => by first | exact absurd (Or.inl (show σ 113 241 = 0 by omega)) z | (rw [e0] at h20; exact absurd (Or.inr h20) z)⟩
