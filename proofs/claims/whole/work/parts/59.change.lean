/-- a band is taken away -/
def RM (σ τ : jS) (k : Nat) (b : Int) : Prop := τ k 0 = σ k 0 - 1 ∧ (∀ j, ¬ j = 0 → τ k j = σ k j) ∧ (∀ j, τ (k + 1) j = if b ≤ j ∧ j < σ k 0 - 1 then σ (k + 1) (j + 1) else σ (k + 1) j) ∧ (∀ j, τ (k + 2) j = if b ≤ j ∧ j < σ k 0 - 1 then σ (k + 2) (j + 1) else σ (k + 2) j) ∧ (∀ j, τ (k + 3) j = if b * 8 ≤ j ∧ j < (σ k 0 - 1) * 8 then σ (k + 3) (j + 8) else σ (k + 3) j) ∧ ∀ c, ¬ c = k → ¬ c = k + 1 → ¬ c = k + 2 → ¬ c = k + 3 → τ c = σ c
/-- a band is put -/
def PT (σ τ : jS) (k : Nat) (b n : Int) : Prop := (∀ c, ¬ c = k + 2 → ¬ c = k + 3 → τ c = σ c) ∧ (∀ j, ¬ j = b → τ (k + 2) j = σ (k + 2) j) ∧ τ (k + 2) b = n ∧ (∀ j, 0 ≤ j → j < n → τ (k + 3) (b * 8 + j) = σ 6 j) ∧ ∀ j, (j < b * 8 ∨ b * 8 + n ≤ j) → τ (k + 3) j = σ (k + 3) j
/-- the outcome of putting a band anew: w, what stands against it -/
def PA (σ τ : jS) (w b n : Int) : Prop := (¬ w = 0 → τ = σ) ∧ (w = 0 → ∃ τ1, KP σ τ1 ∧ PT τ1 τ 30 b n)
set_option maxRecDepth 100000 in
set_option maxHeartbeats 4000000 in
theorem c_X0_remove {σ : jS} {k : Nat} (hk : isBands k) (hB : okB σ k) {b : Int} (hb : iR b) : Jm 2 miX0_remove [.ref k, vI b] σ (fun r τ => r = none ∧ (¬ (0 ≤ b ∧ b < σ k 0) → τ = σ) ∧ ((0 ≤ b ∧ b < σ k 0) → RM σ τ k b)) := by
  have lo := isB_lo hk
  have m8 := hB.1
  refine jm_ofF (Po := (fun r τ => r = none ∧ (¬ (0 ≤ b ∧ b < σ k 0) → τ = σ) ∧ ((0 ≤ b ∧ b < σ k 0) → RM σ τ k b))) (plainFor_of_name (by decide)) (Nat.le_of_ble_eq_true rfl) (lv := [(0, _), (1, _)]) rfl ?_
  refine r_aload_n (dc dkX0_remove 0 rfl) rfl (np 1 rfl ?_)
  refine r_iload_n (dc dkX0_remove 1 rfl) rfl (np 2 rfl ?_)
  refine r_pV1 (y' := miX0_has) (dc dkX0_remove 2 rfl) mlX0_31 ceX0_has (obBands hk) (Nat.le_of_ble_eq_true rfl) (Nat.le_of_ble_eq_true rfl) (c_X0_has hk hB hb) (np 5 rfl ?_)
  refine r_bn (tgt := 9) (dc dkX0_remove 3 rfl) rfl (fun h5 => ?_) (fun h5 => (np 8 rfl ?_))
  · skip
    refine r_iload_n (dc dkX0_remove 5 rfl) rfl (np 10 rfl ?_)
    refine r_istore_n (lv' := [(2, _), (0, _), (1, _)]) (dc dkX0_remove 6 rfl) (Nat.le_of_ble_eq_true rfl) rfl (np 11 rfl ?_)
    refine r_pick [1, 2, 0] (lv' := [(0, _), (1, _), (2, _)]) rfl ?_
    refine jlp2 (P := fun (i : Int) (τ : jS) => jR _ _ _ 11 [(0, .ref k), (1, vI b), (2, vI i)] [] τ) (I := fun (i : Int) (τ : jS) => (b ≤ i ∧ i ≤ σ k 0 - 1) ∧ (∀ c, ¬ c = k + 1 → ¬ c = k + 2 → ¬ c = k + 3 → τ c = σ c) ∧ (∀ j, τ (k + 1) j = if b ≤ j ∧ j < i then σ (k + 1) (j + 1) else σ (k + 1) j) ∧ (∀ j, τ (k + 2) j = if b ≤ j ∧ j < i then σ (k + 2) (j + 1) else σ (k + 2) j) ∧ ∀ j, τ (k + 3) j = if b * 8 ≤ j ∧ j < i * 8 then σ (k + 3) (j + 8) else σ (k + 3) j) (fun (i : Int) (τ : jS) => (σ k 0 - i).toNat) ?_ _ _ ⟨by omega, fun _ _ _ _ => rfl, fun j => by rw [if_neg (by omega)], fun j => by rw [if_neg (by omega)], fun j => by rw [if_neg (by omega)]⟩
    intro i τ hI11 ih11
    have ek : τ k 0 = σ k 0 := by rw [hI11.2.1 k (by omega) (by omega) (by omega)]
    refine r_iload_n (dc dkX0_remove 7 rfl) rfl (np 12 rfl ?_)
    refine r_iconst (dc dkX0_remove 8 rfl) (np 13 rfl ?_)
    refine r_iadd (dc dkX0_remove 9 rfl) (np 14 rfl ?_)
    refine r_aload_n (dc dkX0_remove 10 rfl) rfl (np 15 rfl ?_)
    refine r_gI 0 (dc dkX0_remove 11 rfl) flX0_9 (fdBands_0 hk) rfl (np 18 rfl ?_)
    refine r_icmp_ge (tgt := 86) (dc dkX0_remove 12 rfl) rfl (by first | assumption | decide | omega) (by first | assumption | decide | omega) (fun h18 => ?_) (fun h18 => (np 21 rfl ?_))
    · skip
      refine r_aload_n (dc dkX0_remove 54 rfl) rfl (np 87 rfl ?_)
      refine r_dup (dc dkX0_remove 55 rfl) rfl (np 88 rfl ?_)
      refine r_gI 0 (dc dkX0_remove 56 rfl) flX0_9 (fdBands_0 hk) rfl (np 91 rfl ?_)
      refine r_iconst (dc dkX0_remove 57 rfl) (np 92 rfl ?_)
      refine r_isub (dc dkX0_remove 58 rfl) (np 93 rfl ?_)
      refine r_pI 0 (dc dkX0_remove 59 rfl) fpX0_9 (fdBands_0 hk) rfl (np 96 rfl ?_)
      exact r_vret (dc dkX0_remove 60 rfl) rfl (by
          obtain ⟨_, J1, J2, J3, J4⟩ := hI11
          have ei : i = σ k 0 - 1 := by omega
          subst ei
          refine ⟨rfl, fun z => absurd h5 z, fun _ => ⟨by rw [ju_at, ek], fun j hj => by rw [ju_ne (by omega), J1 k (by omega) (by omega) (by omega)], fun j => by rw [ju_off _ _ _ _ _ (by omega)]; exact J2 j, fun j => by rw [ju_off _ _ _ _ _ (by omega)]; exact J3 j, fun j => by rw [ju_off _ _ _ _ _ (by omega)]; exact J4 j, fun c c0 c1 c2 c3 => by rw [ju_off _ _ _ _ _ c0]; exact J1 c c1 c2 c3⟩⟩)
    refine r_iload_n (dc dkX0_remove 13 rfl) rfl (np 22 rfl ?_)
    refine r_iconst (dc dkX0_remove 14 rfl) (np 23 rfl ?_)
    refine r_iadd (dc dkX0_remove 15 rfl) (np 24 rfl ?_)
    refine r_bipush (dc dkX0_remove 16 rfl) bp_8 (np 26 rfl ?_)
    refine r_icmp_ge (tgt := 86) (dc dkX0_remove 17 rfl) rfl (by first | assumption | decide | omega) (by first | assumption | decide | omega) (fun h26 => ?_) (fun h26 => (np 29 rfl ?_))
    · skip
      refine r_aload_n (dc dkX0_remove 54 rfl) rfl (np 87 rfl ?_)
      refine r_dup (dc dkX0_remove 55 rfl) rfl (np 88 rfl ?_)
      refine r_gI 0 (dc dkX0_remove 56 rfl) flX0_9 (fdBands_0 hk) rfl (np 91 rfl ?_)
      refine r_iconst (dc dkX0_remove 57 rfl) (np 92 rfl ?_)
      refine r_isub (dc dkX0_remove 58 rfl) (np 93 rfl ?_)
      refine r_pI 0 (dc dkX0_remove 59 rfl) fpX0_9 (fdBands_0 hk) rfl (np 96 rfl ?_)
      exact r_vret (dc dkX0_remove 60 rfl) rfl (by
          obtain ⟨_, J1, J2, J3, J4⟩ := hI11
          have ei : i = σ k 0 - 1 := by omega
          subst ei
          refine ⟨rfl, fun z => absurd h5 z, fun _ => ⟨by rw [ju_at, ek], fun j hj => by rw [ju_ne (by omega), J1 k (by omega) (by omega) (by omega)], fun j => by rw [ju_off _ _ _ _ _ (by omega)]; exact J2 j, fun j => by rw [ju_off _ _ _ _ _ (by omega)]; exact J3 j, fun j => by rw [ju_off _ _ _ _ _ (by omega)]; exact J4 j, fun c c0 c1 c2 c3 => by rw [ju_off _ _ _ _ _ c0]; exact J1 c c1 c2 c3⟩⟩)
    refine r_aload_n (dc dkX0_remove 18 rfl) rfl (np 30 rfl ?_)
    refine r_getR (dc dkX0_remove 19 rfl) flX0_15 (fdBands_1 hk) (np 33 rfl ?_)
    refine r_iload_n (dc dkX0_remove 20 rfl) rfl (np 34 rfl ?_)
    refine r_aload_n (dc dkX0_remove 21 rfl) rfl (np 35 rfl ?_)
    refine r_getR (dc dkX0_remove 22 rfl) flX0_15 (fdBands_1 hk) (np 38 rfl ?_)
    refine r_iload_n (dc dkX0_remove 23 rfl) rfl (np 39 rfl ?_)
    refine r_iconst (dc dkX0_remove 24 rfl) (np 40 rfl ?_)
    refine r_iadd (dc dkX0_remove 25 rfl) (np 41 rfl ?_)
    refine r_iald (dc dkX0_remove 26 rfl) (arBands_1 hk) (by omega) (np 42 rfl ?_)
    refine r_iast (dc dkX0_remove 27 rfl) (arBands_1 hk) (by omega) (np 43 rfl ?_)
    refine r_aload_n (dc dkX0_remove 28 rfl) rfl (np 44 rfl ?_)
    refine r_getR (dc dkX0_remove 29 rfl) flX0_19 (fdBands_2 hk) (np 47 rfl ?_)
    refine r_iload_n (dc dkX0_remove 30 rfl) rfl (np 48 rfl ?_)
    refine r_aload_n (dc dkX0_remove 31 rfl) rfl (np 49 rfl ?_)
    refine r_getR (dc dkX0_remove 32 rfl) flX0_19 (fdBands_2 hk) (np 52 rfl ?_)
    refine r_iload_n (dc dkX0_remove 33 rfl) rfl (np 53 rfl ?_)
    refine r_iconst (dc dkX0_remove 34 rfl) (np 54 rfl ?_)
    refine r_iadd (dc dkX0_remove 35 rfl) (np 55 rfl ?_)
    refine r_iald (dc dkX0_remove 36 rfl) (arBands_2 hk) (by omega) (np 56 rfl ?_)
    refine r_iast (dc dkX0_remove 37 rfl) (arBands_2 hk) (by omega) (np 57 rfl ?_)
    refine r_aload_n (dc dkX0_remove 38 rfl) rfl (np 58 rfl ?_)
    refine r_getR (dc dkX0_remove 39 rfl) flX0_22 (fdBands_3 hk) (np 61 rfl ?_)
    refine r_iload_n (dc dkX0_remove 40 rfl) rfl (np 62 rfl ?_)
    refine r_iconst (dc dkX0_remove 41 rfl) (np 63 rfl ?_)
    refine r_iadd (dc dkX0_remove 42 rfl) (np 64 rfl ?_)
    refine r_bipush (dc dkX0_remove 43 rfl) bp_8 (np 66 rfl ?_)
    refine r_imul (dc dkX0_remove 44 rfl) (np 67 rfl ?_)
    refine r_aload_n (dc dkX0_remove 45 rfl) rfl (np 68 rfl ?_)
    refine r_getR (dc dkX0_remove 46 rfl) flX0_22 (fdBands_3 hk) (np 71 rfl ?_)
    refine r_iload_n (dc dkX0_remove 47 rfl) rfl (np 72 rfl ?_)
    refine r_bipush (dc dkX0_remove 48 rfl) bp_8 (np 74 rfl ?_)
    refine r_imul (dc dkX0_remove 49 rfl) (np 75 rfl ?_)
    refine r_bipush (dc dkX0_remove 50 rfl) bp_8 (np 77 rfl ?_)
    refine r_copyI (dc dkX0_remove 51 rfl) cpX0_25 (arBands_3 hk) (arBands_3 hk) (by omega) (Nat.le_of_ble_eq_true rfl) (Nat.le_of_ble_eq_true rfl) (np 80 rfl ?_)
    refine r_iinc (lv' := [(2, _), (0, _), (1, _)]) (dc dkX0_remove 52 rfl) (Nat.le_of_ble_eq_true rfl) rfl rfl (np 83 rfl ?_)
    refine r_goto (tgt := 11) (dc dkX0_remove 53 rfl) rfl ?_
    refine r_pick [1, 2, 0] rfl ?_
    exact ih11 _ _ (by
          obtain ⟨_, J1, J2, J3, J4⟩ := hI11
          refine ⟨by omega, fun c c1 c2 c3 => ?_, fun j => ?_, fun j => ?_, fun j => ?_⟩
          · simp only [jrow, if_neg c3]; rw [ju_off _ _ _ _ _ c2, ju_off _ _ _ _ _ c1]; exact J1 c c1 c2 c3
          · simp only [jrow, if_neg (show ¬ k + 1 = k + 3 by omega)]
            rw [ju_off _ _ _ _ _ (by omega)]
            by_cases hj : j = i
            · rw [hj, ju_at, J2, if_neg (by omega), if_pos (by omega)]
            · rw [ju_ne (by omega), J2]
              by_cases q : b ≤ j ∧ j < i
              · rw [if_pos q, if_pos (by omega)]
              · rw [if_neg q, if_neg (by omega)]
          · simp only [jrow, if_neg (show ¬ k + 2 = k + 3 by omega)]
            by_cases hj : j = i
            · rw [hj, ju_at, ju_off _ _ _ _ _ (by omega), J3, if_neg (by omega), if_pos (by omega)]
            · rw [ju_ne (by omega), ju_off _ _ _ _ _ (by omega), J3]
              by_cases q : b ≤ j ∧ j < i
              · rw [if_pos q, if_pos (by omega)]
              · rw [if_neg q, if_neg (by omega)]
          · simp only [jrow, jcp, if_true]
            rw [ju_off _ _ _ _ _ (by omega), ju_off _ _ _ _ _ (by omega), J4, J4]
            by_cases q : i * 8 ≤ j ∧ j < i * 8 + 8
            · rw [if_pos q, if_neg (by omega), if_pos (by omega)]
              congr 1; omega
            · rw [if_neg q]
              by_cases q2 : b * 8 ≤ j ∧ j < i * 8
              · rw [if_pos q2, if_pos (by omega)]
              · rw [if_neg q2, if_neg (by omega)]) (by omega)
  exact r_vret (dc dkX0_remove 4 rfl) rfl ⟨rfl, fun _ => rfl, fun z => absurd z h5⟩
set_option maxRecDepth 100000 in
set_option maxHeartbeats 4000000 in
theorem c_X12_undo {σ : jS} (hK : okP σ) (hp : cB 8 (σ 0 6)) : Jm 3 miX12_undo [.ref 0] σ (fun r τ => (σ 0 6 = 0 → r = some (vI (-1)) ∧ τ = σ) ∧ (¬ σ 0 6 = 0 → r = some (vI (σ 0 6 - 1)) ∧ (∀ j, ¬ j = 6 → τ 0 j = σ 0 j) ∧ τ 0 6 = σ 0 6 - 1 ∧ cpB σ τ 30 (σ 8 (σ 0 6 - 1)).toNat ∧ ∀ c, ¬ c = 0 → (c < 30 ∨ 34 ≤ c) → τ c = σ c)) := by
  refine jm_ofF (Po := (fun r τ => (σ 0 6 = 0 → r = some (vI (-1)) ∧ τ = σ) ∧ (¬ σ 0 6 = 0 → r = some (vI (σ 0 6 - 1)) ∧ (∀ j, ¬ j = 6 → τ 0 j = σ 0 j) ∧ τ 0 6 = σ 0 6 - 1 ∧ cpB σ τ 30 (σ 8 (σ 0 6 - 1)).toNat ∧ ∀ c, ¬ c = 0 → (c < 30 ∨ 34 ≤ c) → τ c = σ c))) (plainFor_of_name (by decide)) (Nat.le_of_ble_eq_true rfl) (lv := [(0, _)]) rfl ?_
  refine r_aload_n (dc dkX12_undo 0 rfl) rfl (np 1 rfl ?_)
  refine r_gI 6 (dc dkX12_undo 1 rfl) flX12_41 fd_0_6 rfl (np 4 rfl ?_)
  refine r_if_le (tgt := 16) (dc dkX12_undo 2 rfl) rfl (by first | assumption | decide | omega) (fun h4 => ?_) (fun h4 => (np 7 rfl ?_))
  · skip
    refine r_iconst (dc dkX12_undo 7 rfl) (np 17 rfl ?_)
    exact r_iret (dc dkX12_undo 8 rfl) rfl ⟨fun _ => ⟨rfl, rfl⟩, fun z => absurd z (by omega)⟩
  refine r_aload_n (dc dkX12_undo 3 rfl) rfl (np 8 rfl ?_)
  refine r_gI 6 (dc dkX12_undo 4 rfl) flX12_41 fd_0_6 rfl (np 11 rfl ?_)
  refine r_bipush (dc dkX12_undo 5 rfl) bp_8 (np 13 rfl ?_)
  refine r_icmp_le (tgt := 18) (dc dkX12_undo 6 rfl) rfl (by first | assumption | decide | omega) (by first | assumption | decide | omega) (fun h13 => ?_) (fun h13 => (np 16 rfl ?_))
  · skip
    refine r_aload_n (dc dkX12_undo 9 rfl) rfl (np 19 rfl ?_)
    refine r_dup (dc dkX12_undo 10 rfl) rfl (np 20 rfl ?_)
    refine r_gI 6 (dc dkX12_undo 11 rfl) flX12_41 fd_0_6 rfl (np 23 rfl ?_)
    refine r_iconst (dc dkX12_undo 12 rfl) (np 24 rfl ?_)
    refine r_isub (dc dkX12_undo 13 rfl) (np 25 rfl ?_)
    refine r_pI 6 (dc dkX12_undo 14 rfl) fpX12_41 fd_0_6 rfl (np 28 rfl ?_)
    refine r_abs (fun ρ => ρ 0 6 = σ 0 6 - 1 ∧ (∀ j, ¬ j = 6 → ρ 0 j = σ 0 j) ∧ ∀ c, ¬ c = 0 → ρ c = σ c) ⟨by rw [ju_at], fun j hj => ju_ne (by omega), fun c hc => ju_off _ _ _ _ _ hc⟩ ?_
    intro ρ hF
    obtain ⟨F1, F2, F3⟩ := hF
    have e8 : ρ 8 = σ 8 := F3 8 (by decide)
    have eP : ρ 8 (ρ 0 6) = σ 8 (σ 0 6 - 1) := by rw [e8, F1]
    have hQ : isPst (ρ 8 (ρ 0 6)) := by rw [eP]; exact hK.1 (σ 0 6 - 1) (by omega) (by omega)
    have pq := pst_b hQ
    refine r_aload_n (dc dkX12_undo 15 rfl) rfl (np 29 rfl ?_)
    refine r_getR (dc dkX12_undo 16 rfl) flX12_24 fd_0_2 (np 32 rfl ?_)
    refine r_getR (dc dkX12_undo 17 rfl) flX12_105 fd_27_1 (np 35 rfl ?_)
    refine r_getR (dc dkX12_undo 18 rfl) flX12_167 fd_28_9 (np 38 rfl ?_)
    refine r_aload_n (dc dkX12_undo 19 rfl) rfl (np 39 rfl ?_)
    refine r_getR (dc dkX12_undo 20 rfl) flX12_37 fd_0_5 (np 42 rfl ?_)
    refine r_aload_n (dc dkX12_undo 21 rfl) rfl (np 43 rfl ?_)
    refine r_gI 6 (dc dkX12_undo 22 rfl) flX12_41 fd_0_6 rfl (np 46 rfl ?_)
    refine r_aald (dc dkX12_undo 23 rfl) ar_8 (Or.inl rfl) (by omega) (np 47 rfl ?_)
    refine r_cV1 (y' := miX0_copyFrom) (dc dkX12_undo 24 rfl) mlX12_280 ceX0_copyFrom ob_30 (Nat.le_of_ble_eq_true rfl) (Nat.le_of_ble_eq_true rfl) (c_X0_copyFrom isBands_at30 (pst_B hQ) (by omega)) (fun r τ6 hp6 => (np 50 rfl ?_))
    obtain ⟨rfl, hs6, hc6⟩ := hp6
    have g0 : τ6 0 = ρ 0 := hs6 0 (by simp)
    refine r_aload_n (dc dkX12_undo 25 rfl) rfl (np 51 rfl ?_)
    refine r_gI 6 (dc dkX12_undo 26 rfl) flX12_41 fd_0_6 rfl (np 54 rfl ?_)
    exact r_iret (dc dkX12_undo 27 rfl) rfl ⟨fun z => absurd z (by omega), fun _ => ⟨by rw [g0, F1], fun j hj => by rw [g0]; exact F2 j hj, by rw [g0, F1], by
        rw [← eP]; refine cpB_src hc6 ?_ ?_ ?_ ?_ <;> exact F3 _ (by omega), fun c h0 hc => by rw [hs6 c (by simp; omega)]; exact F3 c h0⟩⟩
  refine r_iconst (dc dkX12_undo 7 rfl) (np 17 rfl ?_)
  exact r_iret (dc dkX12_undo 8 rfl) rfl ⟨fun _ => ⟨rfl, rfl⟩, fun z => absurd z (by omega)⟩
set_option maxRecDepth 100000 in
set_option maxHeartbeats 4000000 in
theorem c_X12_putAnew {σ : jS} (hD : okD σ 28) (hB : okB σ 30) (hK : okP σ) (hp : cB 8 (σ 0 6)) {b n : Int} (hb : 0 ≤ b ∧ b < 8) (hn : 3 ≤ n ∧ n ≤ 8) (hr : ∀ i, 0 ≤ i → i < n → iR (σ 6 i)) : Jm 6 miX12_putAnew [.ref 0, vI b, vI n] σ (fun r τ => r = some (vI (wrF n (rwP σ n) (pkC σ 28) (σ 28 2) (σ 30 0) b (σ 32) (bAt σ 30))) ∧ PA σ τ (wrF n (rwP σ n) (pkC σ 28) (σ 28 2) (σ 30 0) b (σ 32) (bAt σ 30)) b n) := by
  have wb := wrF_b n (rwP σ n) (pkC σ 28) (σ 28 2) (σ 30 0) b (σ 32) (bAt σ 30)
  refine jm_ofF (Po := (fun r τ => r = some (vI (wrF n (rwP σ n) (pkC σ 28) (σ 28 2) (σ 30 0) b (σ 32) (bAt σ 30))) ∧ PA σ τ (wrF n (rwP σ n) (pkC σ 28) (σ 28 2) (σ 30 0) b (σ 32) (bAt σ 30)) b n)) (plainFor_of_name (by decide)) (Nat.le_of_ble_eq_true rfl) (lv := [(0, _), (1, _), (2, _)]) rfl ?_
  refine r_aload_n (dc dkX12_putAnew 0 rfl) rfl (np 1 rfl ?_)
  refine r_getR (dc dkX12_putAnew 1 rfl) flX12_24 fd_0_2 (np 4 rfl ?_)
  refine r_getR (dc dkX12_putAnew 2 rfl) flX12_105 fd_27_1 (np 7 rfl ?_)
  refine r_aload_n (dc dkX12_putAnew 3 rfl) rfl (np 8 rfl ?_)
  refine r_getR (dc dkX12_putAnew 4 rfl) flX12_45 fd_0_7 (np 11 rfl ?_)
  refine r_iload_n (dc dkX12_putAnew 5 rfl) rfl (np 12 rfl ?_)
  refine r_iload_n (dc dkX12_putAnew 6 rfl) rfl (np 13 rfl ?_)
  refine r_pV3 (y' := miX1_wrongOf) (dc dkX12_putAnew 7 rfl) mlX12_263 ceX1_wrongOf ob_28 (Nat.le_of_ble_eq_true rfl) (Nat.le_of_ble_eq_true rfl) (c_X1_wrongOf isBoard_at28 hD hB hn (by omega) hr) (np 16 rfl ?_)
  refine r_istore_n (lv' := [(3, _), (0, _), (1, _), (2, _)]) (dc dkX12_putAnew 8 rfl) (Nat.le_of_ble_eq_true rfl) rfl (np 17 rfl ?_)
  refine r_iload_n (dc dkX12_putAnew 9 rfl) rfl (np 18 rfl ?_)
  refine r_if_ne (tgt := 44) (dc dkX12_putAnew 10 rfl) rfl (show iR (wrF n (rwP σ n) (pkC σ 28) (σ 28 2) (σ 30 0) b (σ 32) (bAt σ 30)) by omega) (fun h18 => ?_) (fun h18 => (np 21 rfl ?_))
  · skip
    refine r_iload_n (dc dkX12_putAnew 22 rfl) rfl (np 45 rfl ?_)
    exact r_iret (dc dkX12_putAnew 23 rfl) rfl (by first | exact ⟨rfl, fun z => absurd h18 z, fun _ => ⟨τ2, hk2, hk3⟩⟩ | exact ⟨rfl, fun _ => rfl, fun z => absurd z h18⟩)
  refine r_aload_n (dc dkX12_putAnew 11 rfl) rfl (np 22 rfl ?_)
  refine r_cV0 (y' := miX12_keepPast) (dc dkX12_putAnew 12 rfl) mlX12_267 ceX12_keepPast ob_0 (Nat.le_of_ble_eq_true rfl) (Nat.le_of_ble_eq_true rfl) (c_X12_keepPast hK hp) (fun r τ2 hp2 => (np 25 rfl ?_))
  obtain ⟨rfl, hk2⟩ := hp2
  refine r_aload_n (dc dkX12_putAnew 13 rfl) rfl (np 26 rfl ?_)
  refine r_getR (dc dkX12_putAnew 14 rfl) flX12_24 fd_0_2 (np 29 rfl ?_)
  refine r_getR (dc dkX12_putAnew 15 rfl) flX12_105 fd_27_1 (np 32 rfl ?_)
  refine r_getR (dc dkX12_putAnew 16 rfl) flX12_167 fd_28_9 (np 35 rfl ?_)
  refine r_iload_n (dc dkX12_putAnew 17 rfl) rfl (np 36 rfl ?_)
  refine r_aload_n (dc dkX12_putAnew 18 rfl) rfl (np 37 rfl ?_)
  refine r_getR (dc dkX12_putAnew 19 rfl) flX12_45 fd_0_7 (np 40 rfl ?_)
  refine r_iload_n (dc dkX12_putAnew 20 rfl) rfl (np 41 rfl ?_)
  refine r_cV3 (y' := miX0_put) (dc dkX12_putAnew 21 rfl) mlX12_270 ceX0_put ob_30 (Nat.le_of_ble_eq_true rfl) (Nat.le_of_ble_eq_true rfl) (c_X0_put isBands_at30 hb.1 hb.2 (by omega)) (fun r τ3 hp3 => (np 44 rfl ?_))
  obtain ⟨rfl, hk3⟩ := hp3
  refine r_iload_n (dc dkX12_putAnew 22 rfl) rfl (np 45 rfl ?_)
  exact r_iret (dc dkX12_putAnew 23 rfl) rfl (by first | exact ⟨rfl, fun z => absurd h18 z, fun _ => ⟨τ2, hk2, hk3⟩⟩ | exact ⟨rfl, fun _ => rfl, fun z => absurd z h18⟩)
set_option maxRecDepth 100000 in
set_option maxHeartbeats 4000000 in
theorem c_X12_move {σ : jS} (hB : okB σ 30) (hn : ∀ b, 0 ≤ b → b < σ 30 0 → 3 ≤ σ 32 b) (hD : okD σ 28) (hK : okP σ) (hp : cB 8 (σ 0 6)) {b i p : Int} (hb : iR b) (hi : iR i) (hpp : iR p) : Jm 7 miX12_move [.ref 0, vI b, vI i, vI p] σ (fun r τ => (¬ (((0 ≤ b ∧ b < σ 30 0) ∧ 0 ≤ i ∧ i < σ 32 b) ∧ ¬ pkC σ 28 p = -1) → r = some (vI (-1)) ∧ τ = σ) ∧ ((((0 ≤ b ∧ b < σ 30 0) ∧ 0 ≤ i ∧ i < σ 32 b) ∧ ¬ pkC σ 28 p = -1) → ∃ ρ, same [6] σ ρ ∧ (∀ j, 0 ≤ j → j < σ 32 b → ρ 6 j = if j = i then p else bAt σ 30 b j) ∧ r = some (vI (wrF (σ 32 b) (rwP ρ (σ 32 b)) (pkC σ 28) (σ 28 2) (σ 30 0) b (σ 32) (bAt σ 30))) ∧ PA ρ τ (wrF (σ 32 b) (rwP ρ (σ 32 b)) (pkC σ 28) (σ 28 2) (σ 30 0) b (σ 32) (bAt σ 30)) b (σ 32 b))) := by
  have m8 := hB.1
  refine jm_ofF (Po := (fun r τ => (¬ (((0 ≤ b ∧ b < σ 30 0) ∧ 0 ≤ i ∧ i < σ 32 b) ∧ ¬ pkC σ 28 p = -1) → r = some (vI (-1)) ∧ τ = σ) ∧ ((((0 ≤ b ∧ b < σ 30 0) ∧ 0 ≤ i ∧ i < σ 32 b) ∧ ¬ pkC σ 28 p = -1) → ∃ ρ, same [6] σ ρ ∧ (∀ j, 0 ≤ j → j < σ 32 b → ρ 6 j = if j = i then p else bAt σ 30 b j) ∧ r = some (vI (wrF (σ 32 b) (rwP ρ (σ 32 b)) (pkC σ 28) (σ 28 2) (σ 30 0) b (σ 32) (bAt σ 30))) ∧ PA ρ τ (wrF (σ 32 b) (rwP ρ (σ 32 b)) (pkC σ 28) (σ 28 2) (σ 30 0) b (σ 32) (bAt σ 30)) b (σ 32 b)))) (plainFor_of_name (by decide)) (Nat.le_of_ble_eq_true rfl) (lv := [(0, _), (1, _), (2, _), (3, _)]) rfl ?_
  refine r_aload_n (dc dkX12_move 0 rfl) rfl (np 1 rfl ?_)
  refine r_getR (dc dkX12_move 1 rfl) flX12_24 fd_0_2 (np 4 rfl ?_)
  refine r_getR (dc dkX12_move 2 rfl) flX12_105 fd_27_1 (np 7 rfl ?_)
  refine r_astore (lv' := [(4, _), (0, _), (1, _), (2, _), (3, _)]) (dc dkX12_move 3 rfl) (Nat.le_of_ble_eq_true rfl) rfl (np 9 rfl ?_)
  refine r_aload (dc dkX12_move 4 rfl) rfl (np 11 rfl ?_)
  refine r_getR (dc dkX12_move 5 rfl) flX12_167 fd_28_9 (np 14 rfl ?_)
  refine r_iload_n (dc dkX12_move 6 rfl) rfl (np 15 rfl ?_)
  refine r_iload_n (dc dkX12_move 7 rfl) rfl (np 16 rfl ?_)
  refine r_pV2 (y' := miX0_hasCorner) (dc dkX12_move 8 rfl) mlX12_203 ceX0_hasCorner ob_30 (Nat.le_of_ble_eq_true rfl) (Nat.le_of_ble_eq_true rfl) (c_X0_hasCorner isBands_at30 hB hb hi) (np 19 rfl ?_)
  refine r_bz (tgt := 41) (dc dkX12_move 9 rfl) rfl (fun h19 => ?_) (fun h19 => (np 22 rfl ?_))
  · skip
    refine r_iconst (dc dkX12_move 20 rfl) (np 42 rfl ?_)
    exact r_iret (dc dkX12_move 21 rfl) rfl ⟨fun _ => ⟨rfl, rfl⟩, fun z => by first | exact absurd z.1 h19 | exact absurd h29 z.2 | omega⟩
  replace h19 : (0 ≤ b ∧ b < σ 30 0) ∧ 0 ≤ i ∧ i < σ 32 b := h19
  have s8 : σ 32 b ≤ 8 := (hB.2.1 b (by omega) (by omega)).2
  have n3 := hn b (by omega) (by omega)
  have pb := pkG_b (σ 28 0) (σ 28 1) (outB σ 28) p
  replace pb : -1 ≤ pkC σ 28 p ∧ pkC σ 28 p ≤ 1 := pb
  refine r_aload (dc dkX12_move 10 rfl) rfl (np 24 rfl ?_)
  refine r_iload_n (dc dkX12_move 11 rfl) rfl (np 25 rfl ?_)
  refine r_pV1 (y' := miX1_pegAt) (dc dkX12_move 12 rfl) mlX12_163 ceX1_pegAt ob_28 (Nat.le_of_ble_eq_true rfl) (Nat.le_of_ble_eq_true rfl) (c_X1_pegAt isBoard_at28 hD hpp) (np 28 rfl ?_)
  refine r_iconst (dc dkX12_move 13 rfl) (np 29 rfl ?_)
  refine r_icmp_eq (tgt := 41) (dc dkX12_move 14 rfl) rfl (by first | assumption | decide | omega) (by first | assumption | decide | omega) (fun h29 => ?_) (fun h29 => (np 32 rfl ?_))
  · skip
    refine r_iconst (dc dkX12_move 20 rfl) (np 42 rfl ?_)
    exact r_iret (dc dkX12_move 21 rfl) rfl ⟨fun _ => ⟨rfl, rfl⟩, fun z => by first | exact absurd z.1 h19 | exact absurd h29 z.2 | omega⟩
  refine r_iload_n (dc dkX12_move 15 rfl) rfl (np 33 rfl ?_)
  refine r_aload_n (dc dkX12_move 16 rfl) rfl (np 34 rfl ?_)
  refine r_getR (dc dkX12_move 17 rfl) flX12_45 fd_0_7 (np 37 rfl ?_)
  refine r_alen (dc dkX12_move 18 rfl) ar_6 (Nat.le_of_ble_eq_true rfl) (np 38 rfl ?_)
  refine r_icmp_lt (tgt := 43) (dc dkX12_move 19 rfl) rfl (by first | assumption | decide | omega) (by first | assumption | decide | omega) (fun h38 => ?_) (fun h38 => (np 41 rfl ?_))
  · skip
    refine r_aload (dc dkX12_move 22 rfl) rfl (np 45 rfl ?_)
    refine r_getR (dc dkX12_move 23 rfl) flX12_167 fd_28_9 (np 48 rfl ?_)
    refine r_iload_n (dc dkX12_move 24 rfl) rfl (np 49 rfl ?_)
    refine r_aload_n (dc dkX12_move 25 rfl) rfl (np 50 rfl ?_)
    refine r_getR (dc dkX12_move 26 rfl) flX12_45 fd_0_7 (np 53 rfl ?_)
    refine r_cV2 (y' := miX0_fill) (dc dkX12_move 27 rfl) mlX12_251 ceX0_fill ob_30 (Nat.le_of_ble_eq_true rfl) (Nat.le_of_ble_eq_true rfl) (c_X0_fill isBands_at30 hB (by omega) (by omega) (by show 0 < σ 32 b; omega)) (fun r τ2 hp2 => (np 56 rfl ?_))
    obtain ⟨rfl, s2, l2⟩ := hp2
    replace l2 : ∀ j, 0 ≤ j → j < σ 32 b → τ2 6 j = bAt σ 30 b j := l2
    refine r_istore (lv' := [(5, _), (4, _), (0, _), (1, _), (2, _), (3, _)]) (dc dkX12_move 28 rfl) (Nat.le_of_ble_eq_true rfl) rfl (np 58 rfl ?_)
    refine r_aload_n (dc dkX12_move 29 rfl) rfl (np 59 rfl ?_)
    refine r_getR (dc dkX12_move 30 rfl) flX12_45 fd_0_7 (np 62 rfl ?_)
    refine r_iload_n (dc dkX12_move 31 rfl) rfl (np 63 rfl ?_)
    refine r_iload_n (dc dkX12_move 32 rfl) rfl (np 64 rfl ?_)
    refine r_iast (dc dkX12_move 33 rfl) ar_6 (by omega) (np 65 rfl ?_)
    refine r_abs (fun ρ => same [6] σ ρ ∧ ∀ j, 0 ≤ j → j < σ 32 b → ρ 6 j = if j = i then p else bAt σ 30 b j) ⟨s2.put (by decide), fun j j0 j1 => by
        by_cases hj : j = i
        · rw [hj, ju_at, if_pos rfl]
        · rw [ju_ne (by omega), if_neg hj]; exact l2 j j0 j1⟩ ?_
    intro ρ hF
    obtain ⟨s6, F2⟩ := hF
    have q28 : ρ 28 = σ 28 := s6 28 (by decide)
    have q29 : ρ 29 = σ 29 := s6 29 (by decide)
    have q30 : ρ 30 = σ 30 := s6 30 (by decide)
    have q31 : ρ 31 = σ 31 := s6 31 (by decide)
    have q32 : ρ 32 = σ 32 := s6 32 (by decide)
    have q33 : ρ 33 = σ 33 := s6 33 (by decide)
    have oD : okD ρ 28 := by unfold okD; rw [q28, q29]; exact hD
    have oB : okB ρ 30 := okB_t hB q30 q31 q32 q33
    have oK : okP ρ := by unfold okP; rw [s6 8 (by decide)]; exact hK
    have oC : cB 8 (ρ 0 6) := by rw [s6 0 (by decide)]; exact hp
    have oR : ∀ j, 0 ≤ j → j < σ 32 b → iR (ρ 6 j) := fun j j0 j1 => by
      rw [F2 j j0 j1]
      split
      · exact hpp
      · have := bAt_p hB (b := b) (i := j) (by omega) (by omega) (show 0 < σ 32 b by omega) j0
        omega
    have eW : wrF (σ 32 b) (rwP ρ (σ 32 b)) (pkC ρ 28) (ρ 28 2) (ρ 30 0) b (ρ 32) (bAt ρ 30) = wrF (σ 32 b) (rwP ρ (σ 32 b)) (pkC σ 28) (σ 28 2) (σ 30 0) b (σ 32) (bAt σ 30) := by
      have e1 : pkC ρ 28 = pkC σ 28 := by unfold pkC outB; rw [q28]
      have e2 : bAt ρ 30 = bAt σ 30 := by funext x y; exact bAt_t q32 q33 x y
      rw [e1, e2, q28, q30, q32]
    refine r_aload_n (dc dkX12_move 34 rfl) rfl (np 66 rfl ?_)
    refine r_iload_n (dc dkX12_move 35 rfl) rfl (np 67 rfl ?_)
    refine r_iload (dc dkX12_move 36 rfl) rfl (np 69 rfl ?_)
    refine r_cV2 (y' := miX12_putAnew) (dc dkX12_move 37 rfl) mlX12_255 ceX12_putAnew ob_0 (Nat.le_of_ble_eq_true rfl) (Nat.le_of_ble_eq_true rfl) (c_X12_putAnew oD oB oK oC (by omega) ⟨n3, s8⟩ oR) (fun r τ5 hp5 => (np 72 rfl ?_))
    obtain ⟨rfl, hk5⟩ := hp5
    exact r_iret (dc dkX12_move 38 rfl) rfl (by rw [eW] at hk5 ⊢; exact ⟨fun z => absurd ⟨h19, h29⟩ z, fun _ => ⟨ρ, s6, F2, rfl, hk5⟩⟩)
  refine r_iconst (dc dkX12_move 20 rfl) (np 42 rfl ?_)
  exact r_iret (dc dkX12_move 21 rfl) rfl ⟨fun _ => ⟨rfl, rfl⟩, fun z => by first | exact absurd z.1 h19 | exact absurd h29 z.2 | omega⟩
