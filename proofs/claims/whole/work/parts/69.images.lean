/-! ===== images ===== -/
theorem im_T {z : Int} (h : z = 53 ∨ z = 66) : isTable z.toNat := by
  unfold isTable
  rcases h with rfl | rfl <;> decide
theorem im_b {z : Int} (h : z = 53 ∨ z = 66) : (z.toNat = 53 ∨ z.toNat = 66) ∧ ¬ z.toNat = 27 := by omega
theorem cpT_tgt {σ ρ τ : jS} {k o : Nat} (h : cpT σ τ k o) (e3 : ρ k 3 = τ k 3) (e : ∀ c, k + 1 ≤ c → c ≤ k + 12 → ρ c = τ c) : cpT σ ρ k o := by
  unfold cpT cpD cpK cpS cpB at h ⊢
  rw [e3, e (k + 1) (by omega) (by omega), e (k + 1 + 1) (by omega) (by omega), e (k + 1 + 2) (by omega) (by omega), e (k + 1 + 2 + 1) (by omega) (by omega), e (k + 1 + 2 + 2) (by omega) (by omega), e (k + 1 + 2 + 3) (by omega) (by omega), e (k + 7) (by omega) (by omega), e (k + 7 + 1) (by omega) (by omega), e (k + 7 + 2) (by omega) (by omega), e (k + 10) (by omega) (by omega), e (k + 11) (by omega) (by omega), e (k + 11 + 1) (by omega) (by omega)]
  exact h
set_option maxRecDepth 100000 in
set_option maxHeartbeats 4000000 in
theorem c_X12_image {σ : jS} (hD : okD σ 28) (hI : ∀ i, 0 ≤ i → i < 2 → σ 7 i = 53 ∨ σ 7 i = 66) {k : Int} (hk : iR k) : Jm 5 miX12_image [.ref 0, vI k] σ (fun r τ => r = some (vI (bI (0 ≤ k ∧ k ≤ 1))) ∧ (¬ (0 ≤ k ∧ k ≤ 1) → τ = σ) ∧ ((0 ≤ k ∧ k ≤ 1) → sameR (σ 7 k).toNat 13 σ τ ∧ τ (σ 7 k).toNat 0 = 1 ∧ (∀ j, ¬ j = 0 → ¬ j = 3 → τ (σ 7 k).toNat j = σ (σ 7 k).toNat j) ∧ τ ((σ 7 k).toNat + 1) 7 = σ ((σ 7 k).toNat + 1) 7 ∧ cpT σ τ (σ 7 k).toNat 27)) := by
  refine jm_ofF (Po := (fun r τ => r = some (vI (bI (0 ≤ k ∧ k ≤ 1))) ∧ (¬ (0 ≤ k ∧ k ≤ 1) → τ = σ) ∧ ((0 ≤ k ∧ k ≤ 1) → sameR (σ 7 k).toNat 13 σ τ ∧ τ (σ 7 k).toNat 0 = 1 ∧ (∀ j, ¬ j = 0 → ¬ j = 3 → τ (σ 7 k).toNat j = σ (σ 7 k).toNat j) ∧ τ ((σ 7 k).toNat + 1) 7 = σ ((σ 7 k).toNat + 1) 7 ∧ cpT σ τ (σ 7 k).toNat 27))) (plainFor_of_name (by decide)) (Nat.le_of_ble_eq_true rfl) (lv := [(0, _), (1, _)]) rfl ?_
  refine r_iload_n (dc dkX12_image 0 rfl) rfl (np 1 rfl ?_)
  refine r_if_lt (tgt := 9) (dc dkX12_image 1 rfl) rfl (by first | assumption | decide | omega) (fun h1 => ?_) (fun h1 => (np 4 rfl ?_))
  · skip
    refine r_iconst (dc dkX12_image 5 rfl) (np 10 rfl ?_)
    exact r_zret (dc dkX12_image 6 rfl) rfl (by first | exact Or.inl rfl | exact Or.inr rfl) ⟨by rw [bI_f (by omega)], fun _ => rfl, fun z => absurd z (by omega)⟩
  refine r_iload_n (dc dkX12_image 2 rfl) rfl (np 5 rfl ?_)
  refine r_iconst (dc dkX12_image 3 rfl) (np 6 rfl ?_)
  refine r_icmp_lt (tgt := 11) (dc dkX12_image 4 rfl) rfl (by first | assumption | decide | omega) (by first | assumption | decide | omega) (fun h6 => ?_) (fun h6 => (np 9 rfl ?_))
  · skip
    have ib := im_b (hI k (by omega) (by omega))
    have d2 := hD.2.2.1
    refine r_aload_n (dc dkX12_image 7 rfl) rfl (np 12 rfl ?_)
    refine r_getR (dc dkX12_image 8 rfl) flX12_31 fd_0_4 (np 15 rfl ?_)
    refine r_iload_n (dc dkX12_image 9 rfl) rfl (np 16 rfl ?_)
    refine r_aald (dc dkX12_image 10 rfl) ar_7 (Or.inr rfl) (by omega) (np 17 rfl ?_)
    refine r_aload_n (dc dkX12_image 11 rfl) rfl (np 18 rfl ?_)
    refine r_getR (dc dkX12_image 12 rfl) flX12_24 fd_0_2 (np 21 rfl ?_)
    refine r_cV1 (y' := miX11_copyFrom) (dc dkX12_image 13 rfl) mlX12_387 ceX11_copyFrom (obTable (im_T (hI k (by omega) (by omega)))) (Nat.le_of_ble_eq_true rfl) (Nat.le_of_ble_eq_true rfl) (c_X11_copyFrom (im_T (hI k (by omega) (by omega))) isTable_at27 (by omega) (by show σ 28 2 = 0 ∨ σ 28 2 = 1; omega)) (fun r τ2 hp2 => (np 24 rfl ?_))
    obtain ⟨rfl, s2, k2, w2, c2⟩ := hp2
    have e7 : τ2 7 = σ 7 := s2 7 (by omega)
    refine r_aload_n (dc dkX12_image 14 rfl) rfl (np 25 rfl ?_)
    refine r_getR (dc dkX12_image 15 rfl) flX12_31 fd_0_4 (np 28 rfl ?_)
    refine r_iload_n (dc dkX12_image 16 rfl) rfl (np 29 rfl ?_)
    refine r_aald (dc dkX12_image 17 rfl) ar_7 (Or.inr rfl) (by omega) (np 30 rfl ?_)
    refine r_iconst (dc dkX12_image 18 rfl) (np 31 rfl ?_)
    refine r_pZ 0 (by first | exact Or.inl rfl | exact Or.inr rfl | omega) (dc dkX12_image 19 rfl) fpX12_390 (fdTable_0 (im_T (by rw [e7]; exact hI k (by omega) (by omega)))) rfl (np 34 rfl ?_)
    refine r_iconst (dc dkX12_image 20 rfl) (np 35 rfl ?_)
    exact r_zret (dc dkX12_image 21 rfl) rfl (by first | exact Or.inl rfl | exact Or.inr rfl) (by
        rw [e7]
        refine ⟨by rw [bI_t (by omega)], fun z => absurd (show 0 ≤ k ∧ k ≤ 1 by omega) z, fun _ => ⟨fun c hc => ?_, by rw [ju_at], fun j j0 j3 => ?_, ?_, ?_⟩⟩
        · rw [ju_off _ _ _ _ _ (by omega)]; exact s2 c hc
        · rw [ju_ne (by omega)]; exact k2 j j3
        · rw [ju_off _ _ _ _ _ (by omega)]; exact w2
        · exact cpT_tgt c2 (ju_ne (by omega)) (fun c c0 c1 => ju_off _ _ _ _ _ (by omega)))
  refine r_iconst (dc dkX12_image 5 rfl) (np 10 rfl ?_)
  exact r_zret (dc dkX12_image 6 rfl) rfl (by first | exact Or.inl rfl | exact Or.inr rfl) ⟨by rw [bI_f (by omega)], fun _ => rfl, fun z => absurd z (by omega)⟩
set_option maxRecDepth 100000 in
set_option maxHeartbeats 4000000 in
theorem c_X12_restore {σ : jS} (hI : ∀ i, 0 ≤ i → i < 2 → σ 7 i = 53 ∨ σ 7 i = 66) (hZ : ∀ i, 0 ≤ i → i < 2 → cB 1 (σ (σ 7 i).toNat 0) ∧ cB 1 (σ ((σ 7 i).toNat + 1) 2)) {k : Int} (hk : iR k) : Jm 5 miX12_restore [.ref 0, vI k] σ (fun r τ => r = some (vI (bI ((0 ≤ k ∧ k ≤ 1) ∧ ¬ σ (σ 7 k).toNat 0 = 0))) ∧ (¬ ((0 ≤ k ∧ k ≤ 1) ∧ ¬ σ (σ 7 k).toNat 0 = 0) → τ = σ) ∧ (((0 ≤ k ∧ k ≤ 1) ∧ ¬ σ (σ 7 k).toNat 0 = 0) → τ 0 6 = 0 ∧ (∀ j, ¬ j = 6 → τ 0 j = σ 0 j) ∧ (∀ c, ¬ c = 0 → (c < 27 ∨ 40 ≤ c) → τ c = σ c) ∧ (∀ j, ¬ j = 3 → τ 27 j = σ 27 j) ∧ τ 28 7 = σ 28 7 ∧ cpT σ τ 27 (σ 7 k).toNat)) := by
  refine jm_ofF (Po := (fun r τ => r = some (vI (bI ((0 ≤ k ∧ k ≤ 1) ∧ ¬ σ (σ 7 k).toNat 0 = 0))) ∧ (¬ ((0 ≤ k ∧ k ≤ 1) ∧ ¬ σ (σ 7 k).toNat 0 = 0) → τ = σ) ∧ (((0 ≤ k ∧ k ≤ 1) ∧ ¬ σ (σ 7 k).toNat 0 = 0) → τ 0 6 = 0 ∧ (∀ j, ¬ j = 6 → τ 0 j = σ 0 j) ∧ (∀ c, ¬ c = 0 → (c < 27 ∨ 40 ≤ c) → τ c = σ c) ∧ (∀ j, ¬ j = 3 → τ 27 j = σ 27 j) ∧ τ 28 7 = σ 28 7 ∧ cpT σ τ 27 (σ 7 k).toNat))) (plainFor_of_name (by decide)) (Nat.le_of_ble_eq_true rfl) (lv := [(0, _), (1, _)]) rfl ?_
  refine r_iload_n (dc dkX12_restore 0 rfl) rfl (np 1 rfl ?_)
  refine r_if_lt (tgt := 21) (dc dkX12_restore 1 rfl) rfl (by first | assumption | decide | omega) (fun h1 => ?_) (fun h1 => (np 4 rfl ?_))
  · skip
    refine r_iconst (dc dkX12_restore 11 rfl) (np 22 rfl ?_)
    exact r_zret (dc dkX12_restore 12 rfl) rfl (by first | exact Or.inl rfl | exact Or.inr rfl) ⟨by rw [bI_f (by omega)], fun _ => rfl, fun z => absurd z (by omega)⟩
  refine r_iload_n (dc dkX12_restore 2 rfl) rfl (np 5 rfl ?_)
  refine r_iconst (dc dkX12_restore 3 rfl) (np 6 rfl ?_)
  refine r_icmp_ge (tgt := 21) (dc dkX12_restore 4 rfl) rfl (by first | assumption | decide | omega) (by first | assumption | decide | omega) (fun h6 => ?_) (fun h6 => (np 9 rfl ?_))
  · skip
    refine r_iconst (dc dkX12_restore 11 rfl) (np 22 rfl ?_)
    exact r_zret (dc dkX12_restore 12 rfl) rfl (by first | exact Or.inl rfl | exact Or.inr rfl) ⟨by rw [bI_f (by omega)], fun _ => rfl, fun z => absurd z (by omega)⟩
  have ib := im_b (hI k (by omega) (by omega))
  have d2 := hZ k (by omega) (by omega)
  refine r_aload_n (dc dkX12_restore 5 rfl) rfl (np 10 rfl ?_)
  refine r_getR (dc dkX12_restore 6 rfl) flX12_31 fd_0_4 (np 13 rfl ?_)
  refine r_iload_n (dc dkX12_restore 7 rfl) rfl (np 14 rfl ?_)
  refine r_aald (dc dkX12_restore 8 rfl) ar_7 (Or.inr rfl) (by omega) (np 15 rfl ?_)
  refine r_gI 0 (dc dkX12_restore 9 rfl) flX12_390 (fdTable_0 (im_T (hI k (by omega) (by omega)))) rfl (np 18 rfl ?_)
  refine r_if_ne (tgt := 23) (dc dkX12_restore 10 rfl) rfl (by first | assumption | decide | omega) (fun h18 => ?_) (fun h18 => (np 21 rfl ?_))
  · skip
    refine r_aload_n (dc dkX12_restore 13 rfl) rfl (np 24 rfl ?_)
    refine r_getR (dc dkX12_restore 14 rfl) flX12_24 fd_0_2 (np 27 rfl ?_)
    refine r_aload_n (dc dkX12_restore 15 rfl) rfl (np 28 rfl ?_)
    refine r_getR (dc dkX12_restore 16 rfl) flX12_31 fd_0_4 (np 31 rfl ?_)
    refine r_iload_n (dc dkX12_restore 17 rfl) rfl (np 32 rfl ?_)
    refine r_aald (dc dkX12_restore 18 rfl) ar_7 (Or.inr rfl) (by omega) (np 33 rfl ?_)
    refine r_cV1 (y' := miX11_copyFrom) (dc dkX12_restore 19 rfl) mlX12_387 ceX11_copyFrom ob_27 (Nat.le_of_ble_eq_true rfl) (Nat.le_of_ble_eq_true rfl) (c_X11_copyFrom isTable_at27 (im_T (hI k (by omega) (by omega))) (by omega) (by omega)) (fun r τ2 hp2 => (np 36 rfl ?_))
    obtain ⟨rfl, s2, k2, w2, c2⟩ := hp2
    refine r_aload_n (dc dkX12_restore 20 rfl) rfl (np 37 rfl ?_)
    refine r_iconst (dc dkX12_restore 21 rfl) (np 38 rfl ?_)
    refine r_pI 6 (dc dkX12_restore 22 rfl) fpX12_41 fd_0_6 rfl (np 41 rfl ?_)
    refine r_iconst (dc dkX12_restore 23 rfl) (np 42 rfl ?_)
    exact r_zret (dc dkX12_restore 24 rfl) rfl (by first | exact Or.inl rfl | exact Or.inr rfl) (by
        refine ⟨by rw [bI_t (by omega)], fun z => absurd (show (0 ≤ k ∧ k ≤ 1) ∧ ¬ σ (σ 7 k).toNat 0 = 0 by omega) z, fun _ => ⟨by rw [ju_at], fun j hj => ?_, fun c h0 hc => ?_, fun j j3 => ?_, ?_, ?_⟩⟩
        · rw [ju_ne (by omega), s2 0 (by omega)]
        · rw [ju_off _ _ _ _ _ h0]; exact s2 c (by omega)
        · rw [ju_off _ _ _ _ _ (by decide)]; exact k2 j j3
        · rw [ju_off _ _ _ _ _ (by decide)]; exact w2
        · exact cpT_tgt c2 (by rw [ju_off _ _ _ _ _ (by decide)]) (fun c c0 c1 => ju_off _ _ _ _ _ (by omega)))
  refine r_iconst (dc dkX12_restore 11 rfl) (np 22 rfl ?_)
  exact r_zret (dc dkX12_restore 12 rfl) rfl (by first | exact Or.inl rfl | exact Or.inr rfl) ⟨by rw [bI_f (by omega)], fun _ => rfl, fun z => absurd z (by omega)⟩
set_option maxRecDepth 100000 in
set_option maxHeartbeats 4000000 in
theorem c_X13_image {σ : jS} {k : Int} (hk : iR k) : Jm 2 miX13_image [.ref 111, vI k] σ (fun r τ => r = some (vI (bI (0 ≤ k ∧ k ≤ 1))) ∧ (¬ (0 ≤ k ∧ k ≤ 1) → τ = ju σ 111 0 0) ∧ ((0 ≤ k ∧ k ≤ 1) → (∀ x, τ 116 x = if 512 * k ≤ x ∧ x < 512 * k + 512 then σ 113 (x - 512 * k) else σ 116 x) ∧ (∀ x, τ 122 x = if 8 * k ≤ x ∧ x < 8 * k + 8 then σ 118 (x - 8 * k) else σ 122 x) ∧ (∀ x, τ 123 x = if 20 * k ≤ x ∧ x < 20 * k + 20 then σ 121 (x - 20 * k) else σ 123 x) ∧ τ 124 k = 1 ∧ (∀ x, ¬ x = k → τ 124 x = σ 124 x) ∧ τ 111 = ju σ 111 0 0 111 ∧ ∀ c, ¬ c = 111 → ¬ c = 116 → ¬ c = 122 → ¬ c = 123 → ¬ c = 124 → τ c = σ c)) := by
  refine jm_ofF (Po := (fun r τ => r = some (vI (bI (0 ≤ k ∧ k ≤ 1))) ∧ (¬ (0 ≤ k ∧ k ≤ 1) → τ = ju σ 111 0 0) ∧ ((0 ≤ k ∧ k ≤ 1) → (∀ x, τ 116 x = if 512 * k ≤ x ∧ x < 512 * k + 512 then σ 113 (x - 512 * k) else σ 116 x) ∧ (∀ x, τ 122 x = if 8 * k ≤ x ∧ x < 8 * k + 8 then σ 118 (x - 8 * k) else σ 122 x) ∧ (∀ x, τ 123 x = if 20 * k ≤ x ∧ x < 20 * k + 20 then σ 121 (x - 20 * k) else σ 123 x) ∧ τ 124 k = 1 ∧ (∀ x, ¬ x = k → τ 124 x = σ 124 x) ∧ τ 111 = ju σ 111 0 0 111 ∧ ∀ c, ¬ c = 111 → ¬ c = 116 → ¬ c = 122 → ¬ c = 123 → ¬ c = 124 → τ c = σ c))) (plainFor_of_name (by decide)) (Nat.le_of_ble_eq_true rfl) (lv := [(0, _), (1, _)]) rfl ?_
  refine r_aload_n (dc dkX13_image 0 rfl) rfl (np 1 rfl ?_)
  refine r_iconst (dc dkX13_image 1 rfl) (np 2 rfl ?_)
  refine r_pI 0 (dc dkX13_image 2 rfl) fpX13_94 fd_111_0 rfl (np 5 rfl ?_)
  refine r_abs (fun ρ => ρ = ju σ 111 0 0) rfl ?_
  intro σ0 hσ0
  have k0 : ∀ c, ¬ c = 111 → σ0 c = σ c := fun c hc => by rw [hσ0]; exact ju_off _ _ _ _ _ hc
  refine r_iload_n (dc dkX13_image 3 rfl) rfl (np 6 rfl ?_)
  refine r_iconst (dc dkX13_image 4 rfl) (np 7 rfl ?_)
  refine r_iconst (dc dkX13_image 5 rfl) (np 8 rfl ?_)
  refine r_pS3 (y' := miX13_isIn) (dc dkX13_image 6 rfl) mlX13_168 seX13_isIn (Nat.le_of_ble_eq_true rfl) (Nat.le_of_ble_eq_true rfl) (c_X13_isIn hk (by decide) (by decide)) (np 11 rfl ?_)
  refine r_bn (tgt := 16) (dc dkX13_image 7 rfl) rfl (fun h11 => ?_) (fun h11 => (np 14 rfl ?_))
  · skip
    refine r_iconst (dc dkX13_image 10 rfl) (np 17 rfl ?_)
    refine r_istore_n (lv' := [(2, _), (0, _), (1, _)]) (dc dkX13_image 11 rfl) (Nat.le_of_ble_eq_true rfl) rfl (np 18 rfl ?_)
    refine r_pick [1, 2, 0] (lv' := [(0, _), (1, _), (2, _)]) rfl ?_
    refine jlp2 (P := fun (i : Int) (τ : jS) => jR _ _ _ 18 [(0, .ref 111), (1, vI k), (2, vI i)] [] τ) (I := fun (i : Int) (τ : jS) => (0 ≤ i ∧ i ≤ 512) ∧ (∀ x, τ 116 x = if 512 * k ≤ x ∧ x < 512 * k + i then σ 113 (x - 512 * k) else σ 116 x) ∧ ∀ c, ¬ c = 116 → τ c = σ0 c) (fun (i : Int) (τ : jS) => (512 - i).toNat) ?_ _ _ ⟨by omega, fun x => by rw [if_neg (by omega), k0 116 (by decide)], fun _ _ => rfl⟩
    intro i τ hI18 ih18
    refine r_iload_n (dc dkX13_image 12 rfl) rfl (np 19 rfl ?_)
    refine r_sipush (dc dkX13_image 13 rfl) sp_512 (np 22 rfl ?_)
    refine r_icmp_ge (tgt := 49) (dc dkX13_image 14 rfl) rfl (by first | assumption | decide | omega) (by first | assumption | decide | omega) (fun h22 => ?_) (fun h22 => (np 25 rfl ?_))
    · skip
      refine r_iconst (dc dkX13_image 29 rfl) (np 50 rfl ?_)
      refine r_istore_n (lv' := [(2, _), (0, _), (1, _)]) (dc dkX13_image 30 rfl) (Nat.le_of_ble_eq_true rfl) rfl (np 51 rfl ?_)
      refine r_pick [1, 2, 0] (lv' := [(0, _), (1, _), (2, _)]) rfl ?_
      refine jlp2 (P := fun (i1 : Int) (τ2 : jS) => jR _ _ _ 51 [(0, .ref 111), (1, vI k), (2, vI i1)] [] τ2) (I := fun (i1 : Int) (τ2 : jS) => (0 ≤ i1 ∧ i1 ≤ 8) ∧ (∀ x, τ2 122 x = if 8 * k ≤ x ∧ x < 8 * k + i1 then σ 118 (x - 8 * k) else σ 122 x) ∧ ∀ c, ¬ c = 122 → τ2 c = τ c) (fun (i1 : Int) (τ2 : jS) => (8 - i1).toNat) ?_ _ _ ⟨by omega, fun x => by rw [if_neg (by omega), hI18.2.2 122 (by decide), k0 122 (by decide)], fun _ _ => rfl⟩
      intro i1 τ2 hI51 ih51
      refine r_iload_n (dc dkX13_image 31 rfl) rfl (np 52 rfl ?_)
      refine r_bipush (dc dkX13_image 32 rfl) bp_8 (np 54 rfl ?_)
      refine r_icmp_ge (tgt := 80) (dc dkX13_image 33 rfl) rfl (by first | assumption | decide | omega) (by first | assumption | decide | omega) (fun h54 => ?_) (fun h54 => (np 57 rfl ?_))
      · skip
        refine r_iconst (dc dkX13_image 48 rfl) (np 81 rfl ?_)
        refine r_istore_n (lv' := [(2, _), (0, _), (1, _)]) (dc dkX13_image 49 rfl) (Nat.le_of_ble_eq_true rfl) rfl (np 82 rfl ?_)
        refine r_pick [1, 2, 0] (lv' := [(0, _), (1, _), (2, _)]) rfl ?_
        refine jlp2 (P := fun (i2 : Int) (τ3 : jS) => jR _ _ _ 82 [(0, .ref 111), (1, vI k), (2, vI i2)] [] τ3) (I := fun (i2 : Int) (τ3 : jS) => (0 ≤ i2 ∧ i2 ≤ 20) ∧ (∀ x, τ3 123 x = if 20 * k ≤ x ∧ x < 20 * k + i2 then σ 121 (x - 20 * k) else σ 123 x) ∧ ∀ c, ¬ c = 123 → τ3 c = τ2 c) (fun (i2 : Int) (τ3 : jS) => (20 - i2).toNat) ?_ _ _ ⟨by omega, fun x => by rw [if_neg (by omega), hI51.2.2 123 (by decide), hI18.2.2 123 (by decide), k0 123 (by decide)], fun _ _ => rfl⟩
        intro i2 τ3 hI82 ih82
        refine r_iload_n (dc dkX13_image 50 rfl) rfl (np 83 rfl ?_)
        refine r_bipush (dc dkX13_image 51 rfl) bp_20 (np 85 rfl ?_)
        refine r_icmp_ge (tgt := 111) (dc dkX13_image 52 rfl) rfl (by first | assumption | decide | omega) (by first | assumption | decide | omega) (fun h85 => ?_) (fun h85 => (np 88 rfl ?_))
        · skip
          refine r_aload_n (dc dkX13_image 67 rfl) rfl (np 112 rfl ?_)
          refine r_getR (dc dkX13_image 68 rfl) flX13_47 fd_111_26 (np 115 rfl ?_)
          refine r_iload_n (dc dkX13_image 69 rfl) rfl (np 116 rfl ?_)
          refine r_iconst (dc dkX13_image 70 rfl) (np 117 rfl ?_)
          refine r_zast (dc dkX13_image 71 rfl) ar_124 (by first | exact Or.inl rfl | exact Or.inr rfl | omega) (by omega) (np 118 rfl ?_)
          refine r_iconst (dc dkX13_image 72 rfl) (np 119 rfl ?_)
          exact r_zret (dc dkX13_image 73 rfl) rfl (by first | exact Or.inl rfl | exact Or.inr rfl) (by
              have u : ∀ c, ¬ c = 116 → ¬ c = 122 → ¬ c = 123 → τ3 c = σ0 c := fun c h1 h2 h3 => by rw [hI82.2.2 c h3, hI51.2.2 c h2, hI18.2.2 c h1]
              refine ⟨by rw [bI_t (by omega)], fun z => absurd (show 0 ≤ k ∧ k ≤ 1 by omega) z, fun _ => ⟨fun x => ?_, fun x => ?_, fun x => ?_, by rw [ju_at], fun x hx => ?_, ?_, fun c h1 h2 h3 h4 h5 => ?_⟩⟩
              · rw [ju_off _ _ _ _ _ (by decide), hI82.2.2 116 (by decide), hI51.2.2 116 (by decide), hI18.2.1 x, show i = 512 by omega]
              · rw [ju_off _ _ _ _ _ (by decide), hI82.2.2 122 (by decide), hI51.2.1 x, show i1 = 8 by omega]
              · rw [ju_off _ _ _ _ _ (by decide), hI82.2.1 x, show i2 = 20 by omega]
              · rw [ju_ne (by omega), u 124 (by decide) (by decide) (by decide), k0 124 (by decide)]
              · rw [ju_off _ _ _ _ _ (by decide), u 111 (by decide) (by decide) (by decide), hσ0]
              · rw [ju_off _ _ _ _ _ h5, u c h2 h3 h4, k0 c h1])
        refine r_aload_n (dc dkX13_image 53 rfl) rfl (np 89 rfl ?_)
        refine r_getR (dc dkX13_image 54 rfl) flX13_44 fd_111_25 (np 92 rfl ?_)
        refine r_bipush (dc dkX13_image 55 rfl) bp_20 (np 94 rfl ?_)
        refine r_iload_n (dc dkX13_image 56 rfl) rfl (np 95 rfl ?_)
        refine r_imul (dc dkX13_image 57 rfl) (np 96 rfl ?_)
        refine r_iload_n (dc dkX13_image 58 rfl) rfl (np 97 rfl ?_)
        refine r_iadd (dc dkX13_image 59 rfl) (np 98 rfl ?_)
        refine r_aload_n (dc dkX13_image 60 rfl) rfl (np 99 rfl ?_)
        refine r_getR (dc dkX13_image 61 rfl) flX13_38 fd_111_23 (np 102 rfl ?_)
        refine r_iload_n (dc dkX13_image 62 rfl) rfl (np 103 rfl ?_)
        refine r_lald (dc dkX13_image 63 rfl) ar_121 (by omega) (np 104 rfl ?_)
        refine r_last (dc dkX13_image 64 rfl) ar_123 (by omega) (np 105 rfl ?_)
        refine r_iinc (lv' := [(2, _), (0, _), (1, _)]) (dc dkX13_image 65 rfl) (Nat.le_of_ble_eq_true rfl) rfl rfl (np 108 rfl ?_)
        refine r_goto (tgt := 82) (dc dkX13_image 66 rfl) rfl ?_
        refine r_pick [1, 2, 0] rfl ?_
        exact ih82 _ _ ⟨by omega, fun x => by
                by_cases hx : x = 20 * k + i2
                · rw [hx, ju_at, hI82.2.2 121 (by decide), hI51.2.2 121 (by decide), hI18.2.2 121 (by decide), k0 121 (by decide), if_pos (by omega)]
                  congr 1; omega
                · rw [ju_ne (by omega), hI82.2.1 x]
                  by_cases q : 20 * k ≤ x ∧ x < 20 * k + i2
                  · rw [if_pos q, if_pos (by omega)]
                  · rw [if_neg q, if_neg (by omega)], fun c hc => by rw [ju_off _ _ _ _ _ hc]; exact hI82.2.2 c hc⟩ (by omega)
      refine r_aload_n (dc dkX13_image 34 rfl) rfl (np 58 rfl ?_)
      refine r_getR (dc dkX13_image 35 rfl) flX13_41 fd_111_24 (np 61 rfl ?_)
      refine r_bipush (dc dkX13_image 36 rfl) bp_8 (np 63 rfl ?_)
      refine r_iload_n (dc dkX13_image 37 rfl) rfl (np 64 rfl ?_)
      refine r_imul (dc dkX13_image 38 rfl) (np 65 rfl ?_)
      refine r_iload_n (dc dkX13_image 39 rfl) rfl (np 66 rfl ?_)
      refine r_iadd (dc dkX13_image 40 rfl) (np 67 rfl ?_)
      refine r_aload_n (dc dkX13_image 41 rfl) rfl (np 68 rfl ?_)
      refine r_getR (dc dkX13_image 42 rfl) flX13_28 fd_111_20 (np 71 rfl ?_)
      refine r_iload_n (dc dkX13_image 43 rfl) rfl (np 72 rfl ?_)
      refine r_lald (dc dkX13_image 44 rfl) ar_118 (by omega) (np 73 rfl ?_)
      refine r_last (dc dkX13_image 45 rfl) ar_122 (by omega) (np 74 rfl ?_)
      refine r_iinc (lv' := [(2, _), (0, _), (1, _)]) (dc dkX13_image 46 rfl) (Nat.le_of_ble_eq_true rfl) rfl rfl (np 77 rfl ?_)
      refine r_goto (tgt := 51) (dc dkX13_image 47 rfl) rfl ?_
      refine r_pick [1, 2, 0] rfl ?_
      exact ih51 _ _ ⟨by omega, fun x => by
              by_cases hx : x = 8 * k + i1
              · rw [hx, ju_at, hI51.2.2 118 (by decide), hI18.2.2 118 (by decide), k0 118 (by decide), if_pos (by omega)]
                congr 1; omega
              · rw [ju_ne (by omega), hI51.2.1 x]
                by_cases q : 8 * k ≤ x ∧ x < 8 * k + i1
                · rw [if_pos q, if_pos (by omega)]
                · rw [if_neg q, if_neg (by omega)], fun c hc => by rw [ju_off _ _ _ _ _ hc]; exact hI51.2.2 c hc⟩ (by omega)
    refine r_aload_n (dc dkX13_image 15 rfl) rfl (np 26 rfl ?_)
    refine r_getR (dc dkX13_image 16 rfl) flX13_22 fd_111_18 (np 29 rfl ?_)
    refine r_sipush (dc dkX13_image 17 rfl) sp_512 (np 32 rfl ?_)
    refine r_iload_n (dc dkX13_image 18 rfl) rfl (np 33 rfl ?_)
    refine r_imul (dc dkX13_image 19 rfl) (np 34 rfl ?_)
    refine r_iload_n (dc dkX13_image 20 rfl) rfl (np 35 rfl ?_)
    refine r_iadd (dc dkX13_image 21 rfl) (np 36 rfl ?_)
    refine r_aload_n (dc dkX13_image 22 rfl) rfl (np 37 rfl ?_)
    refine r_getR (dc dkX13_image 23 rfl) flX13_13 fd_111_15 (np 40 rfl ?_)
    refine r_iload_n (dc dkX13_image 24 rfl) rfl (np 41 rfl ?_)
    refine r_iald (dc dkX13_image 25 rfl) ar_113 (by omega) (np 42 rfl ?_)
    refine r_iast (dc dkX13_image 26 rfl) ar_116 (by omega) (np 43 rfl ?_)
    refine r_iinc (lv' := [(2, _), (0, _), (1, _)]) (dc dkX13_image 27 rfl) (Nat.le_of_ble_eq_true rfl) rfl rfl (np 46 rfl ?_)
    refine r_goto (tgt := 18) (dc dkX13_image 28 rfl) rfl ?_
    refine r_pick [1, 2, 0] rfl ?_
    exact ih18 _ _ ⟨by omega, fun x => by
            by_cases hx : x = 512 * k + i
            · rw [hx, ju_at, hI18.2.2 113 (by decide), k0 113 (by decide), if_pos (by omega)]
              congr 1; omega
            · rw [ju_ne (by omega), hI18.2.1 x]
              by_cases q : 512 * k ≤ x ∧ x < 512 * k + i
              · rw [if_pos q, if_pos (by omega)]
              · rw [if_neg q, if_neg (by omega)], fun c hc => by rw [ju_off _ _ _ _ _ hc]; exact hI18.2.2 c hc⟩ (by omega)
  refine r_iconst (dc dkX13_image 8 rfl) (np 15 rfl ?_)
  exact r_zret (dc dkX13_image 9 rfl) rfl (by first | exact Or.inl rfl | exact Or.inr rfl) ⟨by rw [bI_f (by omega)], fun _ => hσ0, fun z => absurd z (by omega)⟩
set_option maxRecDepth 100000 in
set_option maxHeartbeats 4000000 in
theorem c_X13_restore {σ : jS} {k : Int} (hk : iR k) (hZ : ∀ i, 0 ≤ i → i < 2 → cB 1 (σ 124 i)) : Jm 2 miX13_restore [.ref 111, vI k] σ (fun r τ => r = some (vI (bI (¬ (¬ (0 ≤ k ∧ k ≤ 1) ∨ σ 124 k = 0)))) ∧ ((¬ (0 ≤ k ∧ k ≤ 1) ∨ σ 124 k = 0) → τ = ju σ 111 0 0) ∧ (¬ (¬ (0 ≤ k ∧ k ≤ 1) ∨ σ 124 k = 0) → (∀ x, τ 113 x = if 0 ≤ x ∧ x < 512 then σ 116 (512 * k + x) else σ 113 x) ∧ (∀ x, τ 118 x = if 0 ≤ x ∧ x < 8 then σ 122 (8 * k + x) else σ 118 x) ∧ (∀ x, τ 121 x = if 0 ≤ x ∧ x < 20 then σ 123 (20 * k + x) else σ 121 x) ∧ τ 111 0 = 0 ∧ τ 111 27 = 0 ∧ mdT [0, 27] [113, 118, 121] σ τ)) := by
  refine jm_ofF (Po := (fun r τ => r = some (vI (bI (¬ (¬ (0 ≤ k ∧ k ≤ 1) ∨ σ 124 k = 0)))) ∧ ((¬ (0 ≤ k ∧ k ≤ 1) ∨ σ 124 k = 0) → τ = ju σ 111 0 0) ∧ (¬ (¬ (0 ≤ k ∧ k ≤ 1) ∨ σ 124 k = 0) → (∀ x, τ 113 x = if 0 ≤ x ∧ x < 512 then σ 116 (512 * k + x) else σ 113 x) ∧ (∀ x, τ 118 x = if 0 ≤ x ∧ x < 8 then σ 122 (8 * k + x) else σ 118 x) ∧ (∀ x, τ 121 x = if 0 ≤ x ∧ x < 20 then σ 123 (20 * k + x) else σ 121 x) ∧ τ 111 0 = 0 ∧ τ 111 27 = 0 ∧ mdT [0, 27] [113, 118, 121] σ τ))) (plainFor_of_name (by decide)) (Nat.le_of_ble_eq_true rfl) (lv := [(0, _), (1, _)]) rfl ?_
  refine r_aload_n (dc dkX13_restore 0 rfl) rfl (np 1 rfl ?_)
  refine r_iconst (dc dkX13_restore 1 rfl) (np 2 rfl ?_)
  refine r_pI 0 (dc dkX13_restore 2 rfl) fpX13_94 fd_111_0 rfl (np 5 rfl ?_)
  refine r_abs (fun ρ => ρ = ju σ 111 0 0) rfl ?_
  intro σ0 hσ0
  have k0 : ∀ c, ¬ c = 111 → σ0 c = σ c := fun c hc => by rw [hσ0]; exact ju_off _ _ _ _ _ hc
  refine r_iload_n (dc dkX13_restore 3 rfl) rfl (np 6 rfl ?_)
  refine r_iconst (dc dkX13_restore 4 rfl) (np 7 rfl ?_)
  refine r_iconst (dc dkX13_restore 5 rfl) (np 8 rfl ?_)
  refine r_pS3 (y' := miX13_isIn) (dc dkX13_restore 6 rfl) mlX13_168 seX13_isIn (Nat.le_of_ble_eq_true rfl) (Nat.le_of_ble_eq_true rfl) (c_X13_isIn hk (by decide) (by decide)) (np 11 rfl ?_)
  refine r_bz (tgt := 23) (dc dkX13_restore 7 rfl) rfl (fun h11 => ?_) (fun h11 => (np 14 rfl ?_))
  · skip
    refine r_iconst (dc dkX13_restore 13 rfl) (np 24 rfl ?_)
    exact r_zret (dc dkX13_restore 14 rfl) rfl (by first | exact Or.inl rfl | exact Or.inr rfl) ⟨by rw [bI_f (fun z => by omega)], fun _ => hσ0, fun z => absurd (by omega) z⟩
  have z1 := hZ k (by omega) (by omega)
  have e124 : σ0 124 k = σ 124 k := by rw [k0 124 (by decide)]
  refine r_aload_n (dc dkX13_restore 8 rfl) rfl (np 15 rfl ?_)
  refine r_getR (dc dkX13_restore 9 rfl) flX13_47 fd_111_26 (np 18 rfl ?_)
  refine r_iload_n (dc dkX13_restore 10 rfl) rfl (np 19 rfl ?_)
  refine r_zald (dc dkX13_restore 11 rfl) ar_124 (by omega) (np 20 rfl ?_)
  refine r_if_ne (tgt := 25) (dc dkX13_restore 12 rfl) rfl (by first | assumption | decide | omega) (fun h20 => ?_) (fun h20 => (np 23 rfl ?_))
  · skip
    refine r_iconst (dc dkX13_restore 15 rfl) (np 26 rfl ?_)
    refine r_istore_n (lv' := [(2, _), (0, _), (1, _)]) (dc dkX13_restore 16 rfl) (Nat.le_of_ble_eq_true rfl) rfl (np 27 rfl ?_)
    refine r_pick [1, 2, 0] (lv' := [(0, _), (1, _), (2, _)]) rfl ?_
    refine jlp2 (P := fun (i : Int) (τ : jS) => jR _ _ _ 27 [(0, .ref 111), (1, vI k), (2, vI i)] [] τ) (I := fun (i : Int) (τ : jS) => (0 ≤ i ∧ i ≤ 512) ∧ (∀ x, τ 113 x = if 0 ≤ x ∧ x < i then σ 116 (512 * k + x) else σ 113 x) ∧ ∀ c, ¬ c = 113 → τ c = σ0 c) (fun (i : Int) (τ : jS) => (512 - i).toNat) ?_ _ _ ⟨by omega, fun x => by rw [if_neg (by omega), k0 113 (by decide)], fun _ _ => rfl⟩
    intro i τ hI27 ih27
    refine r_iload_n (dc dkX13_restore 17 rfl) rfl (np 28 rfl ?_)
    refine r_sipush (dc dkX13_restore 18 rfl) sp_512 (np 31 rfl ?_)
    refine r_icmp_ge (tgt := 58) (dc dkX13_restore 19 rfl) rfl (by first | assumption | decide | omega) (by first | assumption | decide | omega) (fun h31 => ?_) (fun h31 => (np 34 rfl ?_))
    · skip
      refine r_iconst (dc dkX13_restore 34 rfl) (np 59 rfl ?_)
      refine r_istore_n (lv' := [(2, _), (0, _), (1, _)]) (dc dkX13_restore 35 rfl) (Nat.le_of_ble_eq_true rfl) rfl (np 60 rfl ?_)
      refine r_pick [1, 2, 0] (lv' := [(0, _), (1, _), (2, _)]) rfl ?_
      refine jlp2 (P := fun (i1 : Int) (τ2 : jS) => jR _ _ _ 60 [(0, .ref 111), (1, vI k), (2, vI i1)] [] τ2) (I := fun (i1 : Int) (τ2 : jS) => (0 ≤ i1 ∧ i1 ≤ 8) ∧ (∀ x, τ2 118 x = if 0 ≤ x ∧ x < i1 then σ 122 (8 * k + x) else σ 118 x) ∧ ∀ c, ¬ c = 118 → τ2 c = τ c) (fun (i1 : Int) (τ2 : jS) => (8 - i1).toNat) ?_ _ _ ⟨by omega, fun x => by rw [if_neg (by omega), hI27.2.2 118 (by decide), k0 118 (by decide)], fun _ _ => rfl⟩
      intro i1 τ2 hI60 ih60
      refine r_iload_n (dc dkX13_restore 36 rfl) rfl (np 61 rfl ?_)
      refine r_bipush (dc dkX13_restore 37 rfl) bp_8 (np 63 rfl ?_)
      refine r_icmp_ge (tgt := 89) (dc dkX13_restore 38 rfl) rfl (by first | assumption | decide | omega) (by first | assumption | decide | omega) (fun h63 => ?_) (fun h63 => (np 66 rfl ?_))
      · skip
        refine r_iconst (dc dkX13_restore 53 rfl) (np 90 rfl ?_)
        refine r_istore_n (lv' := [(2, _), (0, _), (1, _)]) (dc dkX13_restore 54 rfl) (Nat.le_of_ble_eq_true rfl) rfl (np 91 rfl ?_)
        refine r_pick [1, 2, 0] (lv' := [(0, _), (1, _), (2, _)]) rfl ?_
        refine jlp2 (P := fun (i2 : Int) (τ3 : jS) => jR _ _ _ 91 [(0, .ref 111), (1, vI k), (2, vI i2)] [] τ3) (I := fun (i2 : Int) (τ3 : jS) => (0 ≤ i2 ∧ i2 ≤ 20) ∧ (∀ x, τ3 121 x = if 0 ≤ x ∧ x < i2 then σ 123 (20 * k + x) else σ 121 x) ∧ ∀ c, ¬ c = 121 → τ3 c = τ2 c) (fun (i2 : Int) (τ3 : jS) => (20 - i2).toNat) ?_ _ _ ⟨by omega, fun x => by rw [if_neg (by omega), hI60.2.2 121 (by decide), hI27.2.2 121 (by decide), k0 121 (by decide)], fun _ _ => rfl⟩
        intro i2 τ3 hI91 ih91
        refine r_iload_n (dc dkX13_restore 55 rfl) rfl (np 92 rfl ?_)
        refine r_bipush (dc dkX13_restore 56 rfl) bp_20 (np 94 rfl ?_)
        refine r_icmp_ge (tgt := 120) (dc dkX13_restore 57 rfl) rfl (by first | assumption | decide | omega) (by first | assumption | decide | omega) (fun h94 => ?_) (fun h94 => (np 97 rfl ?_))
        · skip
          refine r_aload_n (dc dkX13_restore 72 rfl) rfl (np 121 rfl ?_)
          refine r_iconst (dc dkX13_restore 73 rfl) (np 122 rfl ?_)
          refine r_pI 27 (dc dkX13_restore 74 rfl) fpX13_273 fd_111_27 rfl (np 125 rfl ?_)
          refine r_iconst (dc dkX13_restore 75 rfl) (np 126 rfl ?_)
          exact r_zret (dc dkX13_restore 76 rfl) rfl (by first | exact Or.inl rfl | exact Or.inr rfl) (by
              have u : ∀ c, ¬ c = 113 → ¬ c = 118 → ¬ c = 121 → τ3 c = σ0 c := fun c h1 h2 h3 => by rw [hI91.2.2 c h3, hI60.2.2 c h2, hI27.2.2 c h1]
              have nz : ¬ (¬ (0 ≤ k ∧ k ≤ 1) ∨ σ 124 k = 0) := by omega
              refine ⟨by rw [bI_t nz], fun z => absurd z nz, fun _ => ⟨fun x => ?_, fun x => ?_, fun x => ?_, ?_, by rw [ju_at], fun c h1 h2 => ?_, fun j hj => ?_⟩⟩
              · rw [ju_off _ _ _ _ _ (by decide), hI91.2.2 113 (by decide), hI60.2.2 113 (by decide), hI27.2.1 x, show i = 512 by omega]
              · rw [ju_off _ _ _ _ _ (by decide), hI91.2.2 118 (by decide), hI60.2.1 x, show i1 = 8 by omega]
              · rw [ju_off _ _ _ _ _ (by decide), hI91.2.1 x, show i2 = 20 by omega]
              · rw [ju_ne (by decide), u 111 (by decide) (by decide) (by decide), hσ0, ju_at]
              · have h3 := h2
                simp at h3
                rw [ju_off _ _ _ _ _ h1, u c (by omega) (by omega) (by omega), k0 c h1]
              · have h3 := hj
                simp at h3
                rw [ju_ne (by omega), u 111 (by decide) (by decide) (by decide), hσ0, ju_ne (by omega)])
        refine r_aload_n (dc dkX13_restore 58 rfl) rfl (np 98 rfl ?_)
        refine r_getR (dc dkX13_restore 59 rfl) flX13_38 fd_111_23 (np 101 rfl ?_)
        refine r_iload_n (dc dkX13_restore 60 rfl) rfl (np 102 rfl ?_)
        refine r_aload_n (dc dkX13_restore 61 rfl) rfl (np 103 rfl ?_)
        refine r_getR (dc dkX13_restore 62 rfl) flX13_44 fd_111_25 (np 106 rfl ?_)
        refine r_bipush (dc dkX13_restore 63 rfl) bp_20 (np 108 rfl ?_)
        refine r_iload_n (dc dkX13_restore 64 rfl) rfl (np 109 rfl ?_)
        refine r_imul (dc dkX13_restore 65 rfl) (np 110 rfl ?_)
        refine r_iload_n (dc dkX13_restore 66 rfl) rfl (np 111 rfl ?_)
        refine r_iadd (dc dkX13_restore 67 rfl) (np 112 rfl ?_)
        refine r_lald (dc dkX13_restore 68 rfl) ar_123 (by omega) (np 113 rfl ?_)
        refine r_last (dc dkX13_restore 69 rfl) ar_121 (by omega) (np 114 rfl ?_)
        refine r_iinc (lv' := [(2, _), (0, _), (1, _)]) (dc dkX13_restore 70 rfl) (Nat.le_of_ble_eq_true rfl) rfl rfl (np 117 rfl ?_)
        refine r_goto (tgt := 91) (dc dkX13_restore 71 rfl) rfl ?_
        refine r_pick [1, 2, 0] rfl ?_
        exact ih91 _ _ ⟨by omega, fun x => by
                by_cases hx : x = i2
                · rw [hx, ju_at, hI91.2.2 123 (by decide), hI60.2.2 123 (by decide), hI27.2.2 123 (by decide), k0 123 (by decide), if_pos (by omega)]
                · rw [ju_ne (by omega), hI91.2.1 x]
                  by_cases q : 0 ≤ x ∧ x < i2
                  · rw [if_pos q, if_pos (by omega)]
                  · rw [if_neg q, if_neg (by omega)], fun c hc => by rw [ju_off _ _ _ _ _ hc]; exact hI91.2.2 c hc⟩ (by omega)
      refine r_aload_n (dc dkX13_restore 39 rfl) rfl (np 67 rfl ?_)
      refine r_getR (dc dkX13_restore 40 rfl) flX13_28 fd_111_20 (np 70 rfl ?_)
      refine r_iload_n (dc dkX13_restore 41 rfl) rfl (np 71 rfl ?_)
      refine r_aload_n (dc dkX13_restore 42 rfl) rfl (np 72 rfl ?_)
      refine r_getR (dc dkX13_restore 43 rfl) flX13_41 fd_111_24 (np 75 rfl ?_)
      refine r_bipush (dc dkX13_restore 44 rfl) bp_8 (np 77 rfl ?_)
      refine r_iload_n (dc dkX13_restore 45 rfl) rfl (np 78 rfl ?_)
      refine r_imul (dc dkX13_restore 46 rfl) (np 79 rfl ?_)
      refine r_iload_n (dc dkX13_restore 47 rfl) rfl (np 80 rfl ?_)
      refine r_iadd (dc dkX13_restore 48 rfl) (np 81 rfl ?_)
      refine r_lald (dc dkX13_restore 49 rfl) ar_122 (by omega) (np 82 rfl ?_)
      refine r_last (dc dkX13_restore 50 rfl) ar_118 (by omega) (np 83 rfl ?_)
      refine r_iinc (lv' := [(2, _), (0, _), (1, _)]) (dc dkX13_restore 51 rfl) (Nat.le_of_ble_eq_true rfl) rfl rfl (np 86 rfl ?_)
      refine r_goto (tgt := 60) (dc dkX13_restore 52 rfl) rfl ?_
      refine r_pick [1, 2, 0] rfl ?_
      exact ih60 _ _ ⟨by omega, fun x => by
              by_cases hx : x = i1
              · rw [hx, ju_at, hI60.2.2 122 (by decide), hI27.2.2 122 (by decide), k0 122 (by decide), if_pos (by omega)]
              · rw [ju_ne (by omega), hI60.2.1 x]
                by_cases q : 0 ≤ x ∧ x < i1
                · rw [if_pos q, if_pos (by omega)]
                · rw [if_neg q, if_neg (by omega)], fun c hc => by rw [ju_off _ _ _ _ _ hc]; exact hI60.2.2 c hc⟩ (by omega)
    refine r_aload_n (dc dkX13_restore 20 rfl) rfl (np 35 rfl ?_)
    refine r_getR (dc dkX13_restore 21 rfl) flX13_13 fd_111_15 (np 38 rfl ?_)
    refine r_iload_n (dc dkX13_restore 22 rfl) rfl (np 39 rfl ?_)
    refine r_aload_n (dc dkX13_restore 23 rfl) rfl (np 40 rfl ?_)
    refine r_getR (dc dkX13_restore 24 rfl) flX13_22 fd_111_18 (np 43 rfl ?_)
    refine r_sipush (dc dkX13_restore 25 rfl) sp_512 (np 46 rfl ?_)
    refine r_iload_n (dc dkX13_restore 26 rfl) rfl (np 47 rfl ?_)
    refine r_imul (dc dkX13_restore 27 rfl) (np 48 rfl ?_)
    refine r_iload_n (dc dkX13_restore 28 rfl) rfl (np 49 rfl ?_)
    refine r_iadd (dc dkX13_restore 29 rfl) (np 50 rfl ?_)
    refine r_iald (dc dkX13_restore 30 rfl) ar_116 (by omega) (np 51 rfl ?_)
    refine r_iast (dc dkX13_restore 31 rfl) ar_113 (by omega) (np 52 rfl ?_)
    refine r_iinc (lv' := [(2, _), (0, _), (1, _)]) (dc dkX13_restore 32 rfl) (Nat.le_of_ble_eq_true rfl) rfl rfl (np 55 rfl ?_)
    refine r_goto (tgt := 27) (dc dkX13_restore 33 rfl) rfl ?_
    refine r_pick [1, 2, 0] rfl ?_
    exact ih27 _ _ ⟨by omega, fun x => by
            by_cases hx : x = i
            · rw [hx, ju_at, hI27.2.2 116 (by decide), k0 116 (by decide), if_pos (by omega)]
            · rw [ju_ne (by omega), hI27.2.1 x]
              by_cases q : 0 ≤ x ∧ x < i
              · rw [if_pos q, if_pos (by omega)]
              · rw [if_neg q, if_neg (by omega)], fun c hc => by rw [ju_off _ _ _ _ _ hc]; exact hI27.2.2 c hc⟩ (by omega)
  refine r_iconst (dc dkX13_restore 13 rfl) (np 24 rfl ?_)
  exact r_zret (dc dkX13_restore 14 rfl) rfl (by first | exact Or.inl rfl | exact Or.inr rfl) ⟨by rw [bI_f (fun z => by omega)], fun _ => hσ0, fun z => absurd (by omega) z⟩
