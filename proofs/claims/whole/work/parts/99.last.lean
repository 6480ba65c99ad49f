set_option maxRecDepth 100000 in
set_option maxHeartbeats 4000000 in
theorem c_X0_has {σ : jS} {k : Nat} {b : Int} (hk : isBands k) (hb : iR b) (hm : iR (σ k 0)) : Jp 1 miX0_has [.ref k, vI b] σ (vI (bI (0 ≤ b ∧ b < σ k 0 ∧ b < 8))) := by
  refine jm_of (Po := (jP (vI (bI (0 ≤ b ∧ b < σ k 0 ∧ b < 8))) σ)) (by decide) (Nat.le_of_ble_eq_true rfl) (lv := [(0, _), (1, _)]) rfl ?_
  refine r_iload_n (dc dkX0_has 0 rfl) rfl (np 1 rfl ?_)
  refine r_if_lt (tgt := 22) (dc dkX0_has 1 rfl) rfl hb (fun h1 => ?_) (fun h1 => (np 4 rfl ?_))
  · skip
    refine r_iconst (dc dkX0_has 11 rfl) (np 23 rfl ?_)
    exact r_zret (dc dkX0_has 12 rfl) rfl (by first | exact Or.inl rfl | exact Or.inr rfl) ⟨by first | rw [bI_t (by omega)] | rw [bI_f (by omega)], rfl⟩
  refine r_iload_n (dc dkX0_has 2 rfl) rfl (np 5 rfl ?_)
  refine r_aload_n (dc dkX0_has 3 rfl) rfl (np 6 rfl ?_)
  refine r_gI 0 (dc dkX0_has 4 rfl) flX0_9 (fdBands_0 hk) rfl (np 9 rfl ?_)
  refine r_icmp_ge (tgt := 22) (dc dkX0_has 5 rfl) rfl (by omega) (by omega) (fun h9 => ?_) (fun h9 => (np 12 rfl ?_))
  · skip
    refine r_iconst (dc dkX0_has 11 rfl) (np 23 rfl ?_)
    exact r_zret (dc dkX0_has 12 rfl) rfl (by first | exact Or.inl rfl | exact Or.inr rfl) ⟨by first | rw [bI_t (by omega)] | rw [bI_f (by omega)], rfl⟩
  refine r_iload_n (dc dkX0_has 6 rfl) rfl (np 13 rfl ?_)
  refine r_bipush (dc dkX0_has 7 rfl) bp_8 (np 15 rfl ?_)
  refine r_icmp_ge (tgt := 22) (dc dkX0_has 8 rfl) rfl (by omega) (by omega) (fun h15 => ?_) (fun h15 => (np 18 rfl ?_))
  · skip
    refine r_iconst (dc dkX0_has 11 rfl) (np 23 rfl ?_)
    exact r_zret (dc dkX0_has 12 rfl) rfl (by first | exact Or.inl rfl | exact Or.inr rfl) ⟨by first | rw [bI_t (by omega)] | rw [bI_f (by omega)], rfl⟩
  refine r_iconst (dc dkX0_has 9 rfl) (np 19 rfl ?_)
  refine r_goto (tgt := 23) (dc dkX0_has 10 rfl) rfl ?_
  exact r_zret (dc dkX0_has 12 rfl) rfl (by first | exact Or.inl rfl | exact Or.inr rfl) ⟨by first | rw [bI_t (by omega)] | rw [bI_f (by omega)], rfl⟩
set_option maxRecDepth 100000 in
set_option maxHeartbeats 4000000 in
theorem c_X0_sizeOf {σ : jS} {k : Nat} {b : Int} (hk : isBands k) (hb : iR b) : Jp 1 miX0_sizeOf [.ref k, vI b] σ (vI (if b < 0 ∨ 8 ≤ b then 0 else σ (k + 2) b)) := by
  refine jm_of (Po := (jP (vI (if b < 0 ∨ 8 ≤ b then 0 else σ (k + 2) b)) σ)) (by decide) (Nat.le_of_ble_eq_true rfl) (lv := [(0, _), (1, _)]) rfl ?_
  refine r_iload_n (dc dkX0_sizeOf 0 rfl) rfl (np 1 rfl ?_)
  refine r_if_lt (tgt := 10) (dc dkX0_sizeOf 1 rfl) rfl (by omega) (fun h1 => ?_) (fun h1 => (np 4 rfl ?_))
  · skip
    refine r_iconst (dc dkX0_sizeOf 5 rfl) (np 11 rfl ?_)
    refine r_goto (tgt := 20) (dc dkX0_sizeOf 6 rfl) rfl ?_
    exact r_iret (dc dkX0_sizeOf 11 rfl) rfl ⟨by first | (rw [if_pos (by omega)]) | (rw [if_neg (by omega)]), rfl⟩
  refine r_iload_n (dc dkX0_sizeOf 2 rfl) rfl (np 5 rfl ?_)
  refine r_bipush (dc dkX0_sizeOf 3 rfl) bp_8 (np 7 rfl ?_)
  refine r_icmp_lt (tgt := 14) (dc dkX0_sizeOf 4 rfl) rfl (by omega) (by omega) (fun h7 => ?_) (fun h7 => (np 10 rfl ?_))
  · skip
    refine r_aload_n (dc dkX0_sizeOf 7 rfl) rfl (np 15 rfl ?_)
    refine r_getR (dc dkX0_sizeOf 8 rfl) flX0_19 (fdBands_2 hk) (np 18 rfl ?_)
    refine r_iload_n (dc dkX0_sizeOf 9 rfl) rfl (np 19 rfl ?_)
    refine r_iald (dc dkX0_sizeOf 10 rfl) (arBands_2 hk) (by omega) (np 20 rfl ?_)
    exact r_iret (dc dkX0_sizeOf 11 rfl) rfl ⟨by first | (rw [if_pos (by omega)]) | (rw [if_neg (by omega)]), rfl⟩
  refine r_iconst (dc dkX0_sizeOf 5 rfl) (np 11 rfl ?_)
  refine r_goto (tgt := 20) (dc dkX0_sizeOf 6 rfl) rfl ?_
  exact r_iret (dc dkX0_sizeOf 11 rfl) rfl ⟨by first | (rw [if_pos (by omega)]) | (rw [if_neg (by omega)]), rfl⟩
set_option maxRecDepth 100000 in
set_option maxHeartbeats 4000000 in
theorem c_X0_hasCorner {σ : jS} {k : Nat} {b i : Int} (hk : isBands k) (hb : iR b) (hi : iR i) (hm : iR (σ k 0)) (hs : ∀ b, 0 ≤ b → b < 8 → iR (σ (k + 2) b)) : Jp 2 miX0_hasCorner [.ref k, vI b, vI i] σ (vI (bI ((0 ≤ b ∧ b < σ k 0 ∧ b < 8) ∧ 0 ≤ i ∧ i < σ (k + 2) b))) := by
  refine jm_of (Po := (jP (vI (bI ((0 ≤ b ∧ b < σ k 0 ∧ b < 8) ∧ 0 ≤ i ∧ i < σ (k + 2) b))) σ)) (by decide) (Nat.le_of_ble_eq_true rfl) (lv := [(0, _), (1, _), (2, _)]) rfl ?_
  refine r_aload_n (dc dkX0_hasCorner 0 rfl) rfl (np 1 rfl ?_)
  refine r_iload_n (dc dkX0_hasCorner 1 rfl) rfl (np 2 rfl ?_)
  refine r_pV1 (y' := miX0_has) (dc dkX0_hasCorner 2 rfl) mlX0_31 ceX0_has (obBands hk) (Nat.le_of_ble_eq_true rfl) (Nat.le_of_ble_eq_true rfl) (c_X0_has hk (by omega) (by omega)) (np 5 rfl ?_)
  refine r_bz (tgt := 25) (dc dkX0_hasCorner 3 rfl) rfl (fun h5 => ?_) (fun h5 => (np 8 rfl ?_))
  · skip
    refine r_iconst (dc dkX0_hasCorner 13 rfl) (np 26 rfl ?_)
    exact r_zret (dc dkX0_hasCorner 14 rfl) rfl (by first | exact Or.inl rfl | exact Or.inr rfl) ⟨by first | rw [bI_t (by omega)] | rw [bI_f (by omega)], rfl⟩
  refine r_iload_n (dc dkX0_hasCorner 4 rfl) rfl (np 9 rfl ?_)
  refine r_if_lt (tgt := 25) (dc dkX0_hasCorner 5 rfl) rfl (by omega) (fun h9 => ?_) (fun h9 => (np 12 rfl ?_))
  · skip
    refine r_iconst (dc dkX0_hasCorner 13 rfl) (np 26 rfl ?_)
    exact r_zret (dc dkX0_hasCorner 14 rfl) rfl (by first | exact Or.inl rfl | exact Or.inr rfl) ⟨by first | rw [bI_t (by omega)] | rw [bI_f (by omega)], rfl⟩
  refine r_iload_n (dc dkX0_hasCorner 6 rfl) rfl (np 13 rfl ?_)
  refine r_aload_n (dc dkX0_hasCorner 7 rfl) rfl (np 14 rfl ?_)
  refine r_iload_n (dc dkX0_hasCorner 8 rfl) rfl (np 15 rfl ?_)
  refine r_pV1 (y' := miX0_sizeOf) (dc dkX0_hasCorner 9 rfl) mlX0_35 ceX0_sizeOf (obBands hk) (Nat.le_of_ble_eq_true rfl) (Nat.le_of_ble_eq_true rfl) (c_X0_sizeOf hk (by omega)) (np 18 rfl ?_)
  refine r_icmp_ge (tgt := 25) (dc dkX0_hasCorner 10 rfl) rfl (by omega) (by omega) (fun h18 => ?_) (fun h18 => (np 21 rfl ?_))
  · skip
    refine r_iconst (dc dkX0_hasCorner 13 rfl) (np 26 rfl ?_)
    exact r_zret (dc dkX0_hasCorner 14 rfl) rfl (by first | exact Or.inl rfl | exact Or.inr rfl) ⟨by first | rw [bI_t (by omega)] | rw [bI_f (by omega)], rfl⟩
  refine r_iconst (dc dkX0_hasCorner 11 rfl) (np 22 rfl ?_)
  refine r_goto (tgt := 26) (dc dkX0_hasCorner 12 rfl) rfl ?_
  exact r_zret (dc dkX0_hasCorner 14 rfl) rfl (by first | exact Or.inl rfl | exact Or.inr rfl) ⟨by first | rw [bI_t (by omega)] | rw [bI_f (by omega)], rfl⟩
