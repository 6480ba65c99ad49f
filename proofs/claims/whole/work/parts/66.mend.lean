/-- a band is added: what the contract of add says -/
def AD (σ τ : jS) (k : Nat) (d n : Int) : Prop := (∀ c, ¬ c = k → ¬ c = k + 1 → ¬ c = k + 2 → ¬ c = k + 3 → τ c = σ c) ∧ τ k 0 = σ k 0 + 1 ∧ (∀ j, ¬ j = 0 → τ k j = σ k j) ∧ τ (k + 1) (σ k 0) = d ∧ (∀ j, ¬ j = σ k 0 → τ (k + 1) j = σ (k + 1) j) ∧ τ (k + 2) (σ k 0) = n ∧ (∀ j, ¬ j = σ k 0 → τ (k + 2) j = σ (k + 2) j) ∧ (∀ j, 0 ≤ j → j < n → τ (k + 3) (σ k 0 * 8 + j) = σ 6 j) ∧ ∀ j, (j < σ k 0 * 8 ∨ σ k 0 * 8 + n ≤ j) → τ (k + 3) j = σ (k + 3) j
theorem lyP_R {σ : jS} (hD : okD σ 28) (i c : Int) : -1 ≤ lyP σ i c ∧ lyP σ i c ≤ 99 := plG_R hD.1 hD.2.1
theorem KP_k {σ τ : jS} (h : KP σ τ) (hp : cB 8 (σ 0 6)) {c : Nat} (c0 : 1 ≤ c) (c8 : ¬ c = 8) (c1 : c < 79 ∨ 111 ≤ c) : τ c = σ c := by
  have pq := pst_b (h.2.2.1.1 (min (σ 0 6) 7) (by omega) (by omega))
  exact h.2.2.2.2.2 c (by omega) c8 (by omega)
set_option maxRecDepth 100000 in
set_option maxHeartbeats 4000000 in
theorem c_X12_lay {σ : jS} (h8 : cB 8 (σ 34 0)) (hb9 : ∀ i, 0 ≤ i → i < σ 34 0 → (-9 ≤ σ 35 i ∧ σ 35 i ≤ 9) ∧ (-9 ≤ σ 36 i ∧ σ 36 i ≤ 9)) (hat : ¬ σ 34 0 = 0 → cB 9 (σ 34 1) ∧ cB 9 (σ 34 2)) (hD : okD σ 28) (hB : okB σ 30) (hK : okP σ) (hp : cB 8 (σ 0 6)) (h3 : ¬ σ 34 0 = 0 → 3 ≤ σ 34 0) : Jm 6 miX12_lay [.ref 0] σ (fun r τ => (σ 34 0 = 0 → r = some (vI (-1)) ∧ τ = σ) ∧ (¬ σ 34 0 = 0 → ¬ (smI (σ 35) (σ 34 0) = 0 ∧ smI (σ 36) (σ 34 0) = 0) → r = some (vI 6) ∧ τ = σ) ∧ (¬ σ 34 0 = 0 → (smI (σ 35) (σ 34 0) = 0 ∧ smI (σ 36) (σ 34 0) = 0) → ∃ ρ, same [6] σ ρ ∧ (∀ c, 0 ≤ c → c < σ 34 0 → ρ 6 c = lyP σ (-1) c) ∧ (¬ wrF (σ 34 0) (fun c => lyP σ (-1) (c % σ 34 0)) (pkC σ 28) (σ 28 2) (σ 30 0) (-1) (σ 32) (bAt σ 30) = 0 → r = some (vI (wrF (σ 34 0) (fun c => lyP σ (-1) (c % σ 34 0)) (pkC σ 28) (σ 28 2) (σ 30 0) (-1) (σ 32) (bAt σ 30))) ∧ τ = ρ) ∧ (wrF (σ 34 0) (fun c => lyP σ (-1) (c % σ 34 0)) (pkC σ 28) (σ 28 2) (σ 30 0) (-1) (σ 32) (bAt σ 30) = 0 → (σ 30 0 = 8 → r = some (vI 7) ∧ τ = ρ) ∧ (¬ σ 30 0 = 8 → r = some (vI 0) ∧ ∃ ρ2, KP ρ ρ2 ∧ AD ρ2 τ 30 (-1) (σ 34 0))))) := by
  have m8 := hB.1
  refine jm_ofF (Po := (fun r τ => (σ 34 0 = 0 → r = some (vI (-1)) ∧ τ = σ) ∧ (¬ σ 34 0 = 0 → ¬ (smI (σ 35) (σ 34 0) = 0 ∧ smI (σ 36) (σ 34 0) = 0) → r = some (vI 6) ∧ τ = σ) ∧ (¬ σ 34 0 = 0 → (smI (σ 35) (σ 34 0) = 0 ∧ smI (σ 36) (σ 34 0) = 0) → ∃ ρ, same [6] σ ρ ∧ (∀ c, 0 ≤ c → c < σ 34 0 → ρ 6 c = lyP σ (-1) c) ∧ (¬ wrF (σ 34 0) (fun c => lyP σ (-1) (c % σ 34 0)) (pkC σ 28) (σ 28 2) (σ 30 0) (-1) (σ 32) (bAt σ 30) = 0 → r = some (vI (wrF (σ 34 0) (fun c => lyP σ (-1) (c % σ 34 0)) (pkC σ 28) (σ 28 2) (σ 30 0) (-1) (σ 32) (bAt σ 30))) ∧ τ = ρ) ∧ (wrF (σ 34 0) (fun c => lyP σ (-1) (c % σ 34 0)) (pkC σ 28) (σ 28 2) (σ 30 0) (-1) (σ 32) (bAt σ 30) = 0 → (σ 30 0 = 8 → r = some (vI 7) ∧ τ = ρ) ∧ (¬ σ 30 0 = 8 → r = some (vI 0) ∧ ∃ ρ2, KP ρ ρ2 ∧ AD ρ2 τ 30 (-1) (σ 34 0)))))) (plainFor_of_name (by decide)) (Nat.le_of_ble_eq_true rfl) (lv := [(0, _)]) rfl ?_
  refine r_aload_n (dc dkX12_lay 0 rfl) rfl (np 1 rfl ?_)
  refine r_getR (dc dkX12_lay 1 rfl) flX12_24 fd_0_2 (np 4 rfl ?_)
  refine r_getR (dc dkX12_lay 2 rfl) flX12_142 fd_27_2 (np 7 rfl ?_)
  refine r_astore_n (lv' := [(1, _), (0, _)]) (dc dkX12_lay 3 rfl) (Nat.le_of_ble_eq_true rfl) rfl (np 8 rfl ?_)
  refine r_aload_n (dc dkX12_lay 4 rfl) rfl (np 9 rfl ?_)
  refine r_gI 0 (dc dkX12_lay 5 rfl) flX12_146 fd_34_0 rfl (np 12 rfl ?_)
  refine r_if_ne (tgt := 17) (dc dkX12_lay 6 rfl) rfl (by first | assumption | decide | omega) (fun h12 => ?_) (fun h12 => (np 15 rfl ?_))
  · skip
    refine r_aload_n (dc dkX12_lay 9 rfl) rfl (np 18 rfl ?_)
    refine r_pV0 (y' := miX3_isClosed) (dc dkX12_lay 10 rfl) mlX12_290 ceX3_isClosed ob_34 (Nat.le_of_ble_eq_true rfl) (Nat.le_of_ble_eq_true rfl) (c_X3_isClosed h8 hb9) (np 21 rfl ?_)
    refine r_bn (tgt := 27) (dc dkX12_lay 11 rfl) rfl (fun h21 => ?_) (fun h21 => (np 24 rfl ?_))
    · skip
      refine r_aload_n (dc dkX12_lay 14 rfl) rfl (np 28 rfl ?_)
      refine r_aload_n (dc dkX12_lay 15 rfl) rfl (np 29 rfl ?_)
      refine r_getR (dc dkX12_lay 16 rfl) flX12_24 fd_0_2 (np 32 rfl ?_)
      refine r_getR (dc dkX12_lay 17 rfl) flX12_105 fd_27_1 (np 35 rfl ?_)
      refine r_iconst (dc dkX12_lay 18 rfl) (np 36 rfl ?_)
      refine r_aload_n (dc dkX12_lay 19 rfl) rfl (np 37 rfl ?_)
      refine r_getR (dc dkX12_lay 20 rfl) flX12_45 fd_0_7 (np 40 rfl ?_)
      refine r_cV3 (y' := miX3_layOut) (dc dkX12_lay 21 rfl) mlX12_293 ceX3_layOut ob_34 (Nat.le_of_ble_eq_true rfl) (Nat.le_of_ble_eq_true rfl) (c_X3_layOut h8 hb9 (hat (by omega)) hD (by omega)) (fun r τ2 hp2 => (np 43 rfl ?_))
      obtain ⟨rfl, s6, l6⟩ := hp2
      have q28 : τ2 28 = σ 28 := s6 28 (by decide)
      have q29 : τ2 29 = σ 29 := s6 29 (by decide)
      have q30 : τ2 30 = σ 30 := s6 30 (by decide)
      have q31 : τ2 31 = σ 31 := s6 31 (by decide)
      have q32 : τ2 32 = σ 32 := s6 32 (by decide)
      have q33 : τ2 33 = σ 33 := s6 33 (by decide)
      have oD : okD τ2 28 := by unfold okD; rw [q28, q29]; exact hD
      have oB : okB τ2 30 := okB_t hB q30 q31 q32 q33
      have oK : okP τ2 := by unfold okP; rw [s6 8 (by decide)]; exact hK
      have oC : cB 8 (τ2 0 6) := by rw [s6 0 (by decide)]; exact hp
      have q34 : τ2 34 0 = σ 34 0 := by rw [s6 34 (by decide)]
      have oR : ∀ j, 0 ≤ j → j < τ2 34 0 → iR (τ2 6 j) := fun j j0 j1 => by
        rw [l6 j j0 (by omega)]
        have := lyP_R hD (-1) j
        omega
      have eP : rwP τ2 (τ2 34 0) = fun c => lyP σ (-1) (c % σ 34 0) := by
        funext c
        unfold rwP
        rw [q34]
        exact l6 _ (Int.emod_nonneg _ (by omega)) (Int.emod_lt_of_pos _ (by omega))
      have ek : pkC τ2 28 = pkC σ 28 := by unfold pkC outB; rw [q28]
      have ea : bAt τ2 30 = bAt σ 30 := by funext x y; exact bAt_t q32 q33 x y
      refine r_aload_n (dc dkX12_lay 22 rfl) rfl (np 44 rfl ?_)
      refine r_getR (dc dkX12_lay 23 rfl) flX12_24 fd_0_2 (np 47 rfl ?_)
      refine r_getR (dc dkX12_lay 24 rfl) flX12_105 fd_27_1 (np 50 rfl ?_)
      refine r_aload_n (dc dkX12_lay 25 rfl) rfl (np 51 rfl ?_)
      refine r_getR (dc dkX12_lay 26 rfl) flX12_45 fd_0_7 (np 54 rfl ?_)
      refine r_aload_n (dc dkX12_lay 27 rfl) rfl (np 55 rfl ?_)
      refine r_gI 0 (dc dkX12_lay 28 rfl) flX12_146 fd_34_0 rfl (np 58 rfl ?_)
      refine r_iconst (dc dkX12_lay 29 rfl) (np 59 rfl ?_)
      refine r_pV3 (y' := miX1_wrongOf) (dc dkX12_lay 30 rfl) mlX12_263 ceX1_wrongOf ob_28 (Nat.le_of_ble_eq_true rfl) (Nat.le_of_ble_eq_true rfl) (c_X1_wrongOf isBoard_at28 oD oB (by omega) (by decide) oR) (np 62 rfl ?_)
      have eW : wrF (τ2 34 0) (rwP τ2 (τ2 34 0)) (pkC τ2 28) (τ2 28 2) (τ2 (28 + 2) 0) (-1) (τ2 (28 + 2 + 2)) (bAt τ2 (28 + 2)) = wrF (σ 34 0) (fun c => lyP σ (-1) (c % σ 34 0)) (pkC σ 28) (σ 28 2) (σ 30 0) (-1) (σ 32) (bAt σ 30) := by
        rw [eP, show (28 + 2 : Nat) = 30 from rfl, show (30 + 2 : Nat) = 32 from rfl, ek, ea, q28, q30, q32, q34]
      have wb := wrF_b (σ 34 0) (fun c => lyP σ (-1) (c % σ 34 0)) (pkC σ 28) (σ 28 2) (σ 30 0) (-1) (σ 32) (bAt σ 30)
      refine r_eqI _ eW ?_
      refine r_istore_n (lv' := [(2, _), (1, _), (0, _)]) (dc dkX12_lay 31 rfl) (Nat.le_of_ble_eq_true rfl) rfl (np 63 rfl ?_)
      refine r_iload_n (dc dkX12_lay 32 rfl) rfl (np 64 rfl ?_)
      refine r_if_eq (tgt := 69) (dc dkX12_lay 33 rfl) rfl (by first | assumption | decide | omega) (fun h64 => ?_) (fun h64 => (np 67 rfl ?_))
      · skip
        have k2 : τ2 30 0 = σ 30 0 := by rw [q30]
        refine r_aload_n (dc dkX12_lay 36 rfl) rfl (np 70 rfl ?_)
        refine r_getR (dc dkX12_lay 37 rfl) flX12_24 fd_0_2 (np 73 rfl ?_)
        refine r_getR (dc dkX12_lay 38 rfl) flX12_105 fd_27_1 (np 76 rfl ?_)
        refine r_getR (dc dkX12_lay 39 rfl) flX12_167 fd_28_9 (np 79 rfl ?_)
        refine r_gI 0 (dc dkX12_lay 40 rfl) flX12_198 fd_30_0 rfl (np 82 rfl ?_)
        refine r_bipush (dc dkX12_lay 41 rfl) bp_8 (np 84 rfl ?_)
        refine r_icmp_lt (tgt := 90) (dc dkX12_lay 42 rfl) rfl (by first | assumption | decide | omega) (by first | assumption | decide | omega) (fun h84 => ?_) (fun h84 => (np 87 rfl ?_))
        · skip
          refine r_aload_n (dc dkX12_lay 45 rfl) rfl (np 91 rfl ?_)
          refine r_cV0 (y' := miX12_keepPast) (dc dkX12_lay 46 rfl) mlX12_267 ceX12_keepPast ob_0 (Nat.le_of_ble_eq_true rfl) (Nat.le_of_ble_eq_true rfl) (c_X12_keepPast oK oC) (fun r τ3 hp3 => (np 94 rfl ?_))
          obtain ⟨rfl, hk3⟩ := hp3
          have k30 : τ3 30 0 = σ 30 0 := by rw [KP_k hk3 oC (by decide) (by decide) (by decide), q30]
          have k34 : τ3 34 0 = σ 34 0 := by rw [KP_k hk3 oC (by decide) (by decide) (by decide)]; exact q34
          refine r_aload_n (dc dkX12_lay 47 rfl) rfl (np 95 rfl ?_)
          refine r_getR (dc dkX12_lay 48 rfl) flX12_24 fd_0_2 (np 98 rfl ?_)
          refine r_getR (dc dkX12_lay 49 rfl) flX12_105 fd_27_1 (np 101 rfl ?_)
          refine r_getR (dc dkX12_lay 50 rfl) flX12_167 fd_28_9 (np 104 rfl ?_)
          refine r_iconst (dc dkX12_lay 51 rfl) (np 105 rfl ?_)
          refine r_aload_n (dc dkX12_lay 52 rfl) rfl (np 106 rfl ?_)
          refine r_getR (dc dkX12_lay 53 rfl) flX12_45 fd_0_7 (np 109 rfl ?_)
          refine r_aload_n (dc dkX12_lay 54 rfl) rfl (np 110 rfl ?_)
          refine r_gI 0 (dc dkX12_lay 55 rfl) flX12_146 fd_34_0 rfl (np 113 rfl ?_)
          refine r_cV3 (y' := miX0_add) (dc dkX12_lay 56 rfl) mlX12_301 ceX0_add ob_30 (Nat.le_of_ble_eq_true rfl) (Nat.le_of_ble_eq_true rfl) (c_X0_add isBands_at30 (by rw [k30]; omega) (by omega)) (fun r τ7 hp7 => (np 116 rfl ?_))
          obtain ⟨rfl, hk7⟩ := hp7
          refine r_iconst (dc dkX12_lay 57 rfl) (np 117 rfl ?_)
          exact r_iret (dc dkX12_lay 58 rfl) rfl ⟨fun z => absurd z h12, fun _ z => absurd h21 z, fun _ _ => ⟨τ2, s6, l6, fun z => absurd h64 z, fun _ => ⟨fun z => by exfalso; omega, fun _ => ⟨rfl, τ3, hk3, k34 ▸ hk7⟩⟩⟩⟩
        refine r_bipush (dc dkX12_lay 43 rfl) bp_7 (np 89 rfl ?_)
        exact r_iret (dc dkX12_lay 44 rfl) rfl ⟨fun z => absurd z h12, fun _ z => absurd h21 z, fun _ _ => ⟨τ2, s6, l6, fun z => absurd h64 z, fun _ => ⟨fun _ => ⟨rfl, rfl⟩, fun z => absurd (show σ 30 0 = 8 by omega) z⟩⟩⟩
      refine r_iload_n (dc dkX12_lay 34 rfl) rfl (np 68 rfl ?_)
      exact r_iret (dc dkX12_lay 35 rfl) rfl ⟨fun z => absurd z h12, fun _ z => absurd h21 z, fun _ _ => ⟨τ2, s6, l6, fun _ => ⟨rfl, rfl⟩, fun z => absurd z h64⟩⟩
    refine r_bipush (dc dkX12_lay 12 rfl) bp_6 (np 26 rfl ?_)
    exact r_iret (dc dkX12_lay 13 rfl) rfl ⟨fun z => absurd z h12, fun _ _ => ⟨rfl, rfl⟩, fun _ z => absurd z h21⟩
  refine r_iconst (dc dkX12_lay 7 rfl) (np 16 rfl ?_)
  exact r_iret (dc dkX12_lay 8 rfl) rfl ⟨fun _ => ⟨rfl, rfl⟩, fun z => absurd h12 z, fun z => absurd h12 z⟩
theorem lyP_c {σ τ : jS} (e28 : τ 28 = σ 28) (e34 : τ 34 = σ 34) (e35 : τ 35 = σ 35) (e36 : τ 36 = σ 36) (i c : Int) : lyP τ i c = lyP σ i c := by
  unfold lyP
  rw [e28, e34, e35, e36]
set_option maxRecDepth 100000 in
set_option maxHeartbeats 4000000 in
theorem c_X12_mended {σ : jS} (h8 : cB 8 (σ 34 0)) (hb9 : ∀ i, 0 ≤ i → i < σ 34 0 → (-9 ≤ σ 35 i ∧ σ 35 i ≤ 9) ∧ (-9 ≤ σ 36 i ∧ σ 36 i ≤ 9)) (hat : ¬ σ 34 0 = 0 → cB 9 (σ 34 1) ∧ cB 9 (σ 34 2)) (hD : okD σ 28) (h3 : ¬ σ 34 0 = 0 → 3 ≤ σ 34 0) {k : Int} (hk : iR k) : Jm 5 miX12_mended [.ref 0, vI k] σ (fun r τ => same [6] σ τ ∧ ((σ 34 0 = 0 ∨ (smI (σ 35) (σ 34 0) = 0 ∧ smI (σ 36) (σ 34 0) = 0)) → r = some (vI (-1))) ∧ (¬ (σ 34 0 = 0 ∨ (smI (σ 35) (σ 34 0) = 0 ∧ smI (σ 36) (σ 34 0) = 0)) → ∃ v, r = some (vI v) ∧ nthV (fun i => wrA (σ 34 0) (fun c => lyP σ i (c % σ 34 0)) (pkC σ 28) = 0) (σ 34 0) k v)) := by
  refine jm_ofF (Po := (fun r τ => same [6] σ τ ∧ ((σ 34 0 = 0 ∨ (smI (σ 35) (σ 34 0) = 0 ∧ smI (σ 36) (σ 34 0) = 0)) → r = some (vI (-1))) ∧ (¬ (σ 34 0 = 0 ∨ (smI (σ 35) (σ 34 0) = 0 ∧ smI (σ 36) (σ 34 0) = 0)) → ∃ v, r = some (vI v) ∧ nthV (fun i => wrA (σ 34 0) (fun c => lyP σ i (c % σ 34 0)) (pkC σ 28) = 0) (σ 34 0) k v))) (plainFor_of_name (by decide)) (Nat.le_of_ble_eq_true rfl) (lv := [(0, _), (1, _)]) rfl ?_
  refine r_aload_n (dc dkX12_mended 0 rfl) rfl (np 1 rfl ?_)
  refine r_getR (dc dkX12_mended 1 rfl) flX12_24 fd_0_2 (np 4 rfl ?_)
  refine r_getR (dc dkX12_mended 2 rfl) flX12_142 fd_27_2 (np 7 rfl ?_)
  refine r_astore_n (lv' := [(2, _), (0, _), (1, _)]) (dc dkX12_mended 3 rfl) (Nat.le_of_ble_eq_true rfl) rfl (np 8 rfl ?_)
  refine r_aload_n (dc dkX12_mended 4 rfl) rfl (np 9 rfl ?_)
  refine r_gI 0 (dc dkX12_mended 5 rfl) flX12_146 fd_34_0 rfl (np 12 rfl ?_)
  refine r_if_eq (tgt := 22) (dc dkX12_mended 6 rfl) rfl (by first | assumption | decide | omega) (fun h12 => ?_) (fun h12 => (np 15 rfl ?_))
  · skip
    refine r_iconst (dc dkX12_mended 10 rfl) (np 23 rfl ?_)
    exact r_iret (dc dkX12_mended 11 rfl) rfl ⟨same.refl _ _, fun _ => rfl, fun z => by first | exact absurd (Or.inl h12) z | exact absurd (Or.inr h19) z⟩
  refine r_aload_n (dc dkX12_mended 7 rfl) rfl (np 16 rfl ?_)
  refine r_pV0 (y' := miX3_isClosed) (dc dkX12_mended 8 rfl) mlX12_290 ceX3_isClosed ob_34 (Nat.le_of_ble_eq_true rfl) (Nat.le_of_ble_eq_true rfl) (c_X3_isClosed h8 hb9) (np 19 rfl ?_)
  refine r_bz (tgt := 24) (dc dkX12_mended 9 rfl) rfl (fun h19 => ?_) (fun h19 => (np 22 rfl ?_))
  · skip
    refine r_iconst (dc dkX12_mended 12 rfl) (np 25 rfl ?_)
    refine r_istore_n (lv' := [(3, _), (2, _), (0, _), (1, _)]) (dc dkX12_mended 13 rfl) (Nat.le_of_ble_eq_true rfl) rfl (np 26 rfl ?_)
    refine r_iconst (dc dkX12_mended 14 rfl) (np 27 rfl ?_)
    refine r_istore (lv' := [(4, _), (3, _), (2, _), (0, _), (1, _)]) (dc dkX12_mended 15 rfl) (Nat.le_of_ble_eq_true rfl) rfl (np 29 rfl ?_)
    refine r_pick [3, 4, 2, 1, 0] (lv' := [(0, _), (1, _), (2, _), (3, _), (4, _)]) rfl ?_
    refine jlp3 (P := fun (s : Int) (i : Int) (τ : jS) => jR _ _ _ 29 [(0, .ref 0), (1, vI k), (2, .ref 34), (3, vI s), (4, vI i)] [] τ) (I := fun (s : Int) (i : Int) (τ : jS) => (0 ≤ i ∧ i ≤ σ 34 0) ∧ same [6] σ τ ∧ s = smI (fun q => bI ((fun i => wrA (σ 34 0) (fun c => lyP σ i (c % σ 34 0)) (pkC σ 28) = 0) q)) i ∧ (0 ≤ s ∧ s ≤ i) ∧ ∀ j, 0 ≤ j → j < i → (fun i => wrA (σ 34 0) (fun c => lyP σ i (c % σ 34 0)) (pkC σ 28) = 0) j → ¬ smI (fun q => bI ((fun i => wrA (σ 34 0) (fun c => lyP σ i (c % σ 34 0)) (pkC σ 28) = 0) q)) j = k) (fun (s : Int) (i : Int) (τ : jS) => (σ 34 0 - i).toNat) ?_ _ _ _ ⟨by omega, same.refl _ _, rfl, by omega, fun _ _ _ => by omega⟩
    intro s i τ hI29 ih29
    have sT := hI29.2.1
    have e34 : τ 34 = σ 34 := sT 34 (by decide)
    have e35 : τ 35 = σ 35 := sT 35 (by decide)
    have e36 : τ 36 = σ 36 := sT 36 (by decide)
    have e28 : τ 28 = σ 28 := sT 28 (by decide)
    have e340 : τ 34 0 = σ 34 0 := by rw [e34]
    have g8 : cB 8 (τ 34 0) := by rw [e340]; exact h8
    have gb9 : ∀ i, 0 ≤ i → i < τ 34 0 → (-9 ≤ τ 35 i ∧ τ 35 i ≤ 9) ∧ (-9 ≤ τ 36 i ∧ τ 36 i ≤ 9) := by rw [e340, e35, e36]; exact hb9
    have gat : cB 9 (τ 34 1) ∧ cB 9 (τ 34 2) := by rw [e34]; exact hat (by omega)
    have gD : okD τ 28 := by unfold okD; rw [e28, sT 29 (by decide)]; exact hD
    refine r_iload (dc dkX12_mended 16 rfl) rfl (np 31 rfl ?_)
    refine r_aload_n (dc dkX12_mended 17 rfl) rfl (np 32 rfl ?_)
    refine r_gI 0 (dc dkX12_mended 18 rfl) flX12_146 fd_34_0 rfl (np 35 rfl ?_)
    refine r_icmp_ge (tgt := 93) (dc dkX12_mended 19 rfl) rfl (by first | assumption | decide | omega) (by first | assumption | decide | omega) (fun h35 => ?_) (fun h35 => (np 38 rfl ?_))
    · skip
      refine r_iload_n (dc dkX12_mended 45 rfl) rfl (np 94 rfl ?_)
      refine r_iconst (dc dkX12_mended 46 rfl) (np 95 rfl ?_)
      refine r_icmp_ne (tgt := 102) (dc dkX12_mended 47 rfl) rfl (by first | assumption | decide | omega) (by first | assumption | decide | omega) (fun h95 => ?_) (fun h95 => (np 98 rfl ?_))
      · skip
        refine r_iconst (dc dkX12_mended 50 rfl) (np 103 rfl ?_)
        exact r_iret (dc dkX12_mended 51 rfl) rfl ⟨sT, fun z => by rcases z with z | z; exact absurd z h12; exact absurd z h19, fun _ => ⟨_, rfl, Or.inr ⟨fun j j0 j1 jq => hI29.2.2.2.2 j j0 (by omega) jq, by first | (rw [if_pos (by omega), hI29.2.2.1, show i = σ 34 0 by omega]; done) | (rw [if_neg (by omega)]; done)⟩⟩⟩
      refine r_iload_n (dc dkX12_mended 48 rfl) rfl (np 99 rfl ?_)
      refine r_goto (tgt := 103) (dc dkX12_mended 49 rfl) rfl ?_
      exact r_iret (dc dkX12_mended 51 rfl) rfl ⟨sT, fun z => by rcases z with z | z; exact absurd z h12; exact absurd z h19, fun _ => ⟨_, rfl, Or.inr ⟨fun j j0 j1 jq => hI29.2.2.2.2 j j0 (by omega) jq, by first | (rw [if_pos (by omega), hI29.2.2.1, show i = σ 34 0 by omega]; done) | (rw [if_neg (by omega)]; done)⟩⟩⟩
    refine r_aload_n (dc dkX12_mended 20 rfl) rfl (np 39 rfl ?_)
    refine r_aload_n (dc dkX12_mended 21 rfl) rfl (np 40 rfl ?_)
    refine r_getR (dc dkX12_mended 22 rfl) flX12_24 fd_0_2 (np 43 rfl ?_)
    refine r_getR (dc dkX12_mended 23 rfl) flX12_105 fd_27_1 (np 46 rfl ?_)
    refine r_iload (dc dkX12_mended 24 rfl) rfl (np 48 rfl ?_)
    refine r_aload_n (dc dkX12_mended 25 rfl) rfl (np 49 rfl ?_)
    refine r_getR (dc dkX12_mended 26 rfl) flX12_45 fd_0_7 (np 52 rfl ?_)
    refine r_cV3 (y' := miX3_layOut) (dc dkX12_mended 27 rfl) mlX12_293 ceX3_layOut ob_34 (Nat.le_of_ble_eq_true rfl) (Nat.le_of_ble_eq_true rfl) (c_X3_layOut g8 gb9 gat gD (by omega)) (fun r τ2 hp2 => (np 55 rfl ?_))
    obtain ⟨rfl, s7, l7⟩ := hp2
    have s6 : same [6] σ τ2 := fun c hc => by rw [s7 c hc]; exact sT c hc
    have l6 : ∀ c, 0 ≤ c → c < σ 34 0 → τ2 6 c = lyP σ i c := fun c c0 c1 => by rw [l7 c c0 (by omega), lyP_c e28 e34 e35 e36]
    have q28 : τ2 28 = σ 28 := s6 28 (by decide)
    have q29 : τ2 29 = σ 29 := s6 29 (by decide)
    have q30 : τ2 30 = σ 30 := s6 30 (by decide)
    have q31 : τ2 31 = σ 31 := s6 31 (by decide)
    have q32 : τ2 32 = σ 32 := s6 32 (by decide)
    have q33 : τ2 33 = σ 33 := s6 33 (by decide)
    have oD : okD τ2 28 := by unfold okD; rw [q28, q29]; exact hD
    have q34 : τ2 34 0 = σ 34 0 := by rw [s6 34 (by decide)]
    have oR : ∀ j, 0 ≤ j → j < τ2 34 0 → iR (τ2 6 j) := fun j j0 j1 => by
      rw [l6 j j0 (by omega)]
      have := lyP_R hD i j
      omega
    have eW : wrA (τ2 34 0) (rwP τ2 (τ2 34 0)) (pkC τ2 28) = wrA (σ 34 0) (fun c => lyP σ i (c % σ 34 0)) (pkC σ 28) := by
      have eP : rwP τ2 (τ2 34 0) = fun c => lyP σ i (c % σ 34 0) := by
        funext c
        unfold rwP
        rw [q34]
        exact l6 _ (Int.emod_nonneg _ (by omega)) (Int.emod_lt_of_pos _ (by omega))
      have ek : pkC τ2 28 = pkC σ 28 := by unfold pkC outB; rw [q28]
      rw [eP, ek, q34]
    have wb := wrA_b (σ 34 0) (fun c => lyP σ i (c % σ 34 0)) (pkC σ 28)
    refine r_aload_n (dc dkX12_mended 28 rfl) rfl (np 56 rfl ?_)
    refine r_getR (dc dkX12_mended 29 rfl) flX12_24 fd_0_2 (np 59 rfl ?_)
    refine r_getR (dc dkX12_mended 30 rfl) flX12_105 fd_27_1 (np 62 rfl ?_)
    refine r_aload_n (dc dkX12_mended 31 rfl) rfl (np 63 rfl ?_)
    refine r_getR (dc dkX12_mended 32 rfl) flX12_45 fd_0_7 (np 66 rfl ?_)
    refine r_aload_n (dc dkX12_mended 33 rfl) rfl (np 67 rfl ?_)
    refine r_gI 0 (dc dkX12_mended 34 rfl) flX12_146 fd_34_0 rfl (np 70 rfl ?_)
    refine r_pV2 (y' := miX1_wrongAlone) (dc dkX12_mended 35 rfl) mlX12_297 ceX1_wrongAlone ob_28 (Nat.le_of_ble_eq_true rfl) (Nat.le_of_ble_eq_true rfl) (c_X1_wrongAlone isBoard_at28 oD (by omega) oR) (np 73 rfl ?_)
    refine r_eqI _ eW ?_
    refine r_if_ne (tgt := 87) (dc dkX12_mended 36 rfl) rfl (by first | assumption | decide | omega) (fun h73 => ?_) (fun h73 => (np 76 rfl ?_))
    · skip
      refine r_iinc (lv' := [(4, _), (0, _), (1, _), (2, _), (3, _)]) (dc dkX12_mended 43 rfl) (Nat.le_of_ble_eq_true rfl) rfl rfl (np 90 rfl ?_)
      refine r_goto (tgt := 29) (dc dkX12_mended 44 rfl) rfl ?_
      refine r_pick [1, 2, 3, 4, 0] rfl ?_
      exact ih29 _ _ _ (by
            refine ⟨by omega, s6, ?_, by omega, fun j j0 j1 jq => ?_⟩
            · rw [smI_s _ (by omega), ← hI29.2.2.1]
              first | (rw [bI_t h73]; done) | (rw [bI_f h73, Int.add_zero]; done)
            · by_cases hj : j = i
              · subst hj
                rw [← hI29.2.2.1]
                first | omega | exact absurd jq h73
              · exact hI29.2.2.2.2 j j0 (by omega) jq) (by omega)
    refine r_iload_n (dc dkX12_mended 37 rfl) rfl (np 77 rfl ?_)
    refine r_iload_n (dc dkX12_mended 38 rfl) rfl (np 78 rfl ?_)
    refine r_icmp_ne (tgt := 84) (dc dkX12_mended 39 rfl) rfl (by first | assumption | decide | omega) (by first | assumption | decide | omega) (fun h78 => ?_) (fun h78 => (np 81 rfl ?_))
    · skip
      refine r_iinc (lv' := [(3, _), (0, _), (1, _), (2, _), (4, _)]) (dc dkX12_mended 42 rfl) (Nat.le_of_ble_eq_true rfl) rfl rfl (np 87 rfl ?_)
      refine r_iinc (lv' := [(4, _), (3, _), (0, _), (1, _), (2, _)]) (dc dkX12_mended 43 rfl) (Nat.le_of_ble_eq_true rfl) rfl rfl (np 90 rfl ?_)
      refine r_goto (tgt := 29) (dc dkX12_mended 44 rfl) rfl ?_
      refine r_pick [2, 3, 4, 1, 0] rfl ?_
      exact ih29 _ _ _ (by
            refine ⟨by omega, s6, ?_, by omega, fun j j0 j1 jq => ?_⟩
            · rw [smI_s _ (by omega), ← hI29.2.2.1]
              first | (rw [bI_t h73]; done) | (rw [bI_f h73, Int.add_zero]; done)
            · by_cases hj : j = i
              · subst hj
                rw [← hI29.2.2.1]
                first | omega | exact absurd jq h73
              · exact hI29.2.2.2.2 j j0 (by omega) jq) (by omega)
    refine r_iload (dc dkX12_mended 40 rfl) rfl (np 83 rfl ?_)
    exact r_iret (dc dkX12_mended 41 rfl) rfl ⟨s6, fun z => by rcases z with z | z; exact absurd z h12; exact absurd z h19, fun _ => ⟨i, rfl, Or.inl ⟨i, by omega, h73, by rw [← hI29.2.2.1]; omega, rfl⟩⟩⟩
  refine r_iconst (dc dkX12_mended 10 rfl) (np 23 rfl ?_)
  exact r_iret (dc dkX12_mended 11 rfl) rfl ⟨same.refl _ _, fun _ => rfl, fun z => by first | exact absurd (Or.inl h12) z | exact absurd (Or.inr h19) z⟩
