/-! ===== what is kept for undo ===== -/
def isPst (z : Int) : Prop := z = 79 ∨ z = 83 ∨ z = 87 ∨ z = 91 ∨ z = 95 ∨ z = 99 ∨ z = 103 ∨ z = 107
theorem pst_B {z : Int} (h : isPst z) : isBands z.toNat := by
  unfold isBands
  rcases h with rfl | rfl | rfl | rfl | rfl | rfl | rfl | rfl <;> decide
theorem pst_b {z : Int} (h : isPst z) : 79 ≤ z ∧ z ≤ 107 ∧ ((z.toNat : Nat) : Int) = z ∧ 79 ≤ z.toNat ∧ z.toNat ≤ 107 := by unfold isPst at h; omega
def okP (σ : jS) : Prop := (∀ i, 0 ≤ i → i < 8 → isPst (σ 8 i)) ∧ ∀ i j, 0 ≤ i → i < j → j < 8 → ¬ σ 8 i = σ 8 j
/-- the bands were kept -/
def KP (σ τ : jS) : Prop := (∀ j, ¬ j = 6 → τ 0 j = σ 0 j) ∧ τ 0 6 = min (σ 0 6) 7 + 1 ∧ okP τ ∧ (∀ i, 0 ≤ i → i < 8 → τ 8 i = if σ 0 6 = 8 then (if i = 7 then σ 8 0 else σ 8 (i + 1)) else σ 8 i) ∧ cpB σ τ (τ 8 (min (σ 0 6) 7)).toNat 30 ∧ ∀ c, ¬ c = 0 → ¬ c = 8 → (c < (τ 8 (min (σ 0 6) 7)).toNat ∨ (τ 8 (min (σ 0 6) 7)).toNat + 4 ≤ c) → τ c = σ c
set_option maxRecDepth 100000 in
set_option maxHeartbeats 4000000 in
theorem c_X3_sumX {σ : jS} (h8 : cB 8 (σ 34 0)) : Jp 1 miX3_sumX [.ref 34] σ (vI (smI (σ 35) (σ 34 0))) := by
  refine jm_ofF (Po := (jP (vI (smI (σ 35) (σ 34 0))) σ)) (plainFor_of_name (by decide)) (Nat.le_of_ble_eq_true rfl) (lv := [(0, _)]) rfl ?_
  refine r_iconst (dc dkX3_sumX 0 rfl) (np 1 rfl ?_)
  refine r_istore_n (lv' := [(1, _), (0, _)]) (dc dkX3_sumX 1 rfl) (Nat.le_of_ble_eq_true rfl) rfl (np 2 rfl ?_)
  refine r_iconst (dc dkX3_sumX 2 rfl) (np 3 rfl ?_)
  refine r_istore_n (lv' := [(2, _), (1, _), (0, _)]) (dc dkX3_sumX 3 rfl) (Nat.le_of_ble_eq_true rfl) rfl (np 4 rfl ?_)
  refine r_pick [2, 1, 0] (lv' := [(0, _), (1, _), (2, _)]) rfl ?_
  refine jlp2 (P := fun (s : Int) (i : Int) => jR _ _ _ 4 [(0, .ref 34), (1, vI s), (2, vI i)] [] σ) (I := fun (s : Int) (i : Int) => (0 ≤ i ∧ i ≤ σ 34 0) ∧ s = smI (σ 35) i) (fun (s : Int) (i : Int) => (σ 34 0 - i).toNat) ?_ _ _ ⟨by omega, rfl⟩
  intro s i hI4 ih4
  refine r_iload_n (dc dkX3_sumX 4 rfl) rfl (np 5 rfl ?_)
  refine r_aload_n (dc dkX3_sumX 5 rfl) rfl (np 6 rfl ?_)
  refine r_gI 0 (dc dkX3_sumX 6 rfl) flX3_9 fd_34_0 rfl (np 9 rfl ?_)
  refine r_icmp_ge (tgt := 33) (dc dkX3_sumX 7 rfl) rfl (by first | assumption | decide | omega) (by first | assumption | decide | omega) (fun h9 => ?_) (fun h9 => (np 12 rfl ?_))
  · skip
    refine r_iload_n (dc dkX3_sumX 20 rfl) rfl (np 34 rfl ?_)
    exact r_iret (dc dkX3_sumX 21 rfl) rfl ⟨congrArg (fun z => some (vI z)) (by rw [hI4.2, show i = σ 34 0 by omega]), rfl⟩
  refine r_iload_n (dc dkX3_sumX 8 rfl) rfl (np 13 rfl ?_)
  refine r_bipush (dc dkX3_sumX 9 rfl) bp_8 (np 15 rfl ?_)
  refine r_icmp_ge (tgt := 33) (dc dkX3_sumX 10 rfl) rfl (by first | assumption | decide | omega) (by first | assumption | decide | omega) (fun h15 => ?_) (fun h15 => (np 18 rfl ?_))
  · skip
    refine r_iload_n (dc dkX3_sumX 20 rfl) rfl (np 34 rfl ?_)
    exact r_iret (dc dkX3_sumX 21 rfl) rfl ⟨congrArg (fun z => some (vI z)) (by rw [hI4.2, show i = σ 34 0 by omega]), rfl⟩
  refine r_iload_n (dc dkX3_sumX 11 rfl) rfl (np 19 rfl ?_)
  refine r_aload_n (dc dkX3_sumX 12 rfl) rfl (np 20 rfl ?_)
  refine r_getR (dc dkX3_sumX 13 rfl) flX3_21 fd_34_3 (np 23 rfl ?_)
  refine r_iload_n (dc dkX3_sumX 14 rfl) rfl (np 24 rfl ?_)
  refine r_iald (dc dkX3_sumX 15 rfl) ar_35 (by omega) (np 25 rfl ?_)
  refine r_iadd (dc dkX3_sumX 16 rfl) (np 26 rfl ?_)
  refine r_istore_n (lv' := [(1, _), (0, _), (2, _)]) (dc dkX3_sumX 17 rfl) (Nat.le_of_ble_eq_true rfl) rfl (np 27 rfl ?_)
  refine r_iinc (lv' := [(2, _), (1, _), (0, _)]) (dc dkX3_sumX 18 rfl) (Nat.le_of_ble_eq_true rfl) rfl rfl (np 30 rfl ?_)
  refine r_goto (tgt := 4) (dc dkX3_sumX 19 rfl) rfl ?_
  refine r_pick [2, 1, 0] rfl ?_
  exact ih4 _ _ ⟨by omega, by rw [smI_s _ (by omega), ← hI4.2]⟩ (by omega)
set_option maxRecDepth 100000 in
set_option maxHeartbeats 4000000 in
theorem c_X3_sumY {σ : jS} (h8 : cB 8 (σ 34 0)) : Jp 1 miX3_sumY [.ref 34] σ (vI (smI (σ 36) (σ 34 0))) := by
  refine jm_ofF (Po := (jP (vI (smI (σ 36) (σ 34 0))) σ)) (plainFor_of_name (by decide)) (Nat.le_of_ble_eq_true rfl) (lv := [(0, _)]) rfl ?_
  refine r_iconst (dc dkX3_sumY 0 rfl) (np 1 rfl ?_)
  refine r_istore_n (lv' := [(1, _), (0, _)]) (dc dkX3_sumY 1 rfl) (Nat.le_of_ble_eq_true rfl) rfl (np 2 rfl ?_)
  refine r_iconst (dc dkX3_sumY 2 rfl) (np 3 rfl ?_)
  refine r_istore_n (lv' := [(2, _), (1, _), (0, _)]) (dc dkX3_sumY 3 rfl) (Nat.le_of_ble_eq_true rfl) rfl (np 4 rfl ?_)
  refine r_pick [2, 1, 0] (lv' := [(0, _), (1, _), (2, _)]) rfl ?_
  refine jlp2 (P := fun (s : Int) (i : Int) => jR _ _ _ 4 [(0, .ref 34), (1, vI s), (2, vI i)] [] σ) (I := fun (s : Int) (i : Int) => (0 ≤ i ∧ i ≤ σ 34 0) ∧ s = smI (σ 36) i) (fun (s : Int) (i : Int) => (σ 34 0 - i).toNat) ?_ _ _ ⟨by omega, rfl⟩
  intro s i hI4 ih4
  refine r_iload_n (dc dkX3_sumY 4 rfl) rfl (np 5 rfl ?_)
  refine r_aload_n (dc dkX3_sumY 5 rfl) rfl (np 6 rfl ?_)
  refine r_gI 0 (dc dkX3_sumY 6 rfl) flX3_9 fd_34_0 rfl (np 9 rfl ?_)
  refine r_icmp_ge (tgt := 33) (dc dkX3_sumY 7 rfl) rfl (by first | assumption | decide | omega) (by first | assumption | decide | omega) (fun h9 => ?_) (fun h9 => (np 12 rfl ?_))
  · skip
    refine r_iload_n (dc dkX3_sumY 20 rfl) rfl (np 34 rfl ?_)
    exact r_iret (dc dkX3_sumY 21 rfl) rfl ⟨congrArg (fun z => some (vI z)) (by rw [hI4.2, show i = σ 34 0 by omega]), rfl⟩
  refine r_iload_n (dc dkX3_sumY 8 rfl) rfl (np 13 rfl ?_)
  refine r_bipush (dc dkX3_sumY 9 rfl) bp_8 (np 15 rfl ?_)
  refine r_icmp_ge (tgt := 33) (dc dkX3_sumY 10 rfl) rfl (by first | assumption | decide | omega) (by first | assumption | decide | omega) (fun h15 => ?_) (fun h15 => (np 18 rfl ?_))
  · skip
    refine r_iload_n (dc dkX3_sumY 20 rfl) rfl (np 34 rfl ?_)
    exact r_iret (dc dkX3_sumY 21 rfl) rfl ⟨congrArg (fun z => some (vI z)) (by rw [hI4.2, show i = σ 34 0 by omega]), rfl⟩
  refine r_iload_n (dc dkX3_sumY 11 rfl) rfl (np 19 rfl ?_)
  refine r_aload_n (dc dkX3_sumY 12 rfl) rfl (np 20 rfl ?_)
  refine r_getR (dc dkX3_sumY 13 rfl) flX3_25 fd_34_4 (np 23 rfl ?_)
  refine r_iload_n (dc dkX3_sumY 14 rfl) rfl (np 24 rfl ?_)
  refine r_iald (dc dkX3_sumY 15 rfl) ar_36 (by omega) (np 25 rfl ?_)
  refine r_iadd (dc dkX3_sumY 16 rfl) (np 26 rfl ?_)
  refine r_istore_n (lv' := [(1, _), (0, _), (2, _)]) (dc dkX3_sumY 17 rfl) (Nat.le_of_ble_eq_true rfl) rfl (np 27 rfl ?_)
  refine r_iinc (lv' := [(2, _), (1, _), (0, _)]) (dc dkX3_sumY 18 rfl) (Nat.le_of_ble_eq_true rfl) rfl rfl (np 30 rfl ?_)
  refine r_goto (tgt := 4) (dc dkX3_sumY 19 rfl) rfl ?_
  refine r_pick [2, 1, 0] rfl ?_
  exact ih4 _ _ ⟨by omega, by rw [smI_s _ (by omega), ← hI4.2]⟩ (by omega)
theorem smI_9 {f : Int → Int} {n : Int} (hn : cB 8 n) (h : ∀ i, 0 ≤ i → i < n → -9 ≤ f i ∧ f i ≤ 9) : -72 ≤ smI f n ∧ smI f n ≤ 72 := by
  have := smI_b (A := 9) hn.1 h
  omega
set_option maxRecDepth 100000 in
set_option maxHeartbeats 4000000 in
theorem c_X3_isClosed {σ : jS} (h8 : cB 8 (σ 34 0)) (hb9 : ∀ i, 0 ≤ i → i < σ 34 0 → (-9 ≤ σ 35 i ∧ σ 35 i ≤ 9) ∧ (-9 ≤ σ 36 i ∧ σ 36 i ≤ 9)) : Jp 2 miX3_isClosed [.ref 34] σ (vI (bI (smI (σ 35) (σ 34 0) = 0 ∧ smI (σ 36) (σ 34 0) = 0))) := by
  have b1 := smI_9 h8 (fun i i0 i1 => (hb9 i i0 i1).1)
  have b2 := smI_9 h8 (fun i i0 i1 => (hb9 i i0 i1).2)
  refine jm_ofF (Po := (jP (vI (bI (smI (σ 35) (σ 34 0) = 0 ∧ smI (σ 36) (σ 34 0) = 0))) σ)) (plainFor_of_name (by decide)) (Nat.le_of_ble_eq_true rfl) (lv := [(0, _)]) rfl ?_
  refine r_aload_n (dc dkX3_isClosed 0 rfl) rfl (np 1 rfl ?_)
  refine r_pV0 (y' := miX3_sumX) (dc dkX3_isClosed 1 rfl) mlX3_77 ceX3_sumX ob_34 (Nat.le_of_ble_eq_true rfl) (Nat.le_of_ble_eq_true rfl) (c_X3_sumX h8) (np 4 rfl ?_)
  refine r_if_ne (tgt := 18) (dc dkX3_isClosed 2 rfl) rfl (by first | assumption | decide | omega) (fun h4 => ?_) (fun h4 => (np 7 rfl ?_))
  · skip
    refine r_iconst (dc dkX3_isClosed 8 rfl) (np 19 rfl ?_)
    exact r_zret (dc dkX3_isClosed 9 rfl) rfl (by first | exact Or.inl rfl | exact Or.inr rfl) ⟨congrArg (fun z => some (vI z)) (by first | exact bT ⟨h4, h11⟩ | exact bF (fun z => h4 z.1) | exact bF (fun z => h11 z.2)), rfl⟩
  refine r_aload_n (dc dkX3_isClosed 3 rfl) rfl (np 8 rfl ?_)
  refine r_pV0 (y' := miX3_sumY) (dc dkX3_isClosed 4 rfl) mlX3_80 ceX3_sumY ob_34 (Nat.le_of_ble_eq_true rfl) (Nat.le_of_ble_eq_true rfl) (c_X3_sumY h8) (np 11 rfl ?_)
  refine r_if_ne (tgt := 18) (dc dkX3_isClosed 5 rfl) rfl (by first | assumption | decide | omega) (fun h11 => ?_) (fun h11 => (np 14 rfl ?_))
  · skip
    refine r_iconst (dc dkX3_isClosed 8 rfl) (np 19 rfl ?_)
    exact r_zret (dc dkX3_isClosed 9 rfl) rfl (by first | exact Or.inl rfl | exact Or.inr rfl) ⟨congrArg (fun z => some (vI z)) (by first | exact bT ⟨h4, h11⟩ | exact bF (fun z => h4 z.1) | exact bF (fun z => h11 z.2)), rfl⟩
  refine r_iconst (dc dkX3_isClosed 6 rfl) (np 15 rfl ?_)
  refine r_goto (tgt := 19) (dc dkX3_isClosed 7 rfl) rfl ?_
  exact r_zret (dc dkX3_isClosed 9 rfl) rfl (by first | exact Or.inl rfl | exact Or.inr rfl) ⟨congrArg (fun z => some (vI z)) (by first | exact bT ⟨h4, h11⟩ | exact bF (fun z => h4 z.1) | exact bF (fun z => h11 z.2)), rfl⟩
set_option maxRecDepth 100000 in
set_option maxHeartbeats 4000000 in
theorem c_X12_closes {σ : jS} (h8 : cB 8 (σ 34 0)) (hb9 : ∀ i, 0 ≤ i → i < σ 34 0 → (-9 ≤ σ 35 i ∧ σ 35 i ≤ 9) ∧ (-9 ≤ σ 36 i ∧ σ 36 i ≤ 9)) : Jp 3 miX12_closes [.ref 0] σ (vI (gte (σ 34 0 = 0) (-1) (bI (smI (σ 35) (σ 34 0) = 0 ∧ smI (σ 36) (σ 34 0) = 0)))) := by
  refine jm_ofF (Po := (jP (vI (gte (σ 34 0 = 0) (-1) (bI (smI (σ 35) (σ 34 0) = 0 ∧ smI (σ 36) (σ 34 0) = 0)))) σ)) (plainFor_of_name (by decide)) (Nat.le_of_ble_eq_true rfl) (lv := [(0, _)]) rfl ?_
  refine r_aload_n (dc dkX12_closes 0 rfl) rfl (np 1 rfl ?_)
  refine r_getR (dc dkX12_closes 1 rfl) flX12_24 fd_0_2 (np 4 rfl ?_)
  refine r_getR (dc dkX12_closes 2 rfl) flX12_142 fd_27_2 (np 7 rfl ?_)
  refine r_gI 0 (dc dkX12_closes 3 rfl) flX12_146 fd_34_0 rfl (np 10 rfl ?_)
  refine r_if_ne (tgt := 15) (dc dkX12_closes 4 rfl) rfl (by first | assumption | decide | omega) (fun h10 => ?_) (fun h10 => (np 13 rfl ?_))
  · skip
    refine r_aload_n (dc dkX12_closes 7 rfl) rfl (np 16 rfl ?_)
    refine r_getR (dc dkX12_closes 8 rfl) flX12_24 fd_0_2 (np 19 rfl ?_)
    refine r_getR (dc dkX12_closes 9 rfl) flX12_142 fd_27_2 (np 22 rfl ?_)
    refine r_pV0 (y' := miX3_isClosed) (dc dkX12_closes 10 rfl) mlX12_290 ceX3_isClosed ob_34 (Nat.le_of_ble_eq_true rfl) (Nat.le_of_ble_eq_true rfl) (c_X3_isClosed h8 hb9) (np 25 rfl ?_)
    refine r_bz (tgt := 32) (dc dkX12_closes 11 rfl) rfl (fun h25 => ?_) (fun h25 => (np 28 rfl ?_))
    · skip
      refine r_iconst (dc dkX12_closes 14 rfl) (np 33 rfl ?_)
      exact r_iret (dc dkX12_closes 15 rfl) rfl ⟨congrArg (fun z => some (vI z)) (by first | (rw [gte_t h10]; done) | (rw [gte_f h10, bI_t h25]; done) | (rw [gte_f h10, bI_f h25]; done)), rfl⟩
    refine r_iconst (dc dkX12_closes 12 rfl) (np 29 rfl ?_)
    refine r_goto (tgt := 33) (dc dkX12_closes 13 rfl) rfl ?_
    exact r_iret (dc dkX12_closes 15 rfl) rfl ⟨congrArg (fun z => some (vI z)) (by first | (rw [gte_t h10]; done) | (rw [gte_f h10, bI_t h25]; done) | (rw [gte_f h10, bI_f h25]; done)), rfl⟩
  refine r_iconst (dc dkX12_closes 5 rfl) (np 14 rfl ?_)
  exact r_iret (dc dkX12_closes 6 rfl) rfl ⟨congrArg (fun z => some (vI z)) (by first | (rw [gte_t h10]; done) | (rw [gte_f h10, bI_t h25]; done) | (rw [gte_f h10, bI_f h25]; done)), rfl⟩
set_option maxRecDepth 100000 in
set_option maxHeartbeats 4000000 in
theorem c_X12_keepPast {σ : jS} (hK : okP σ) (hp : cB 8 (σ 0 6)) : Jm 3 miX12_keepPast [.ref 0] σ (fun r τ => r = none ∧ KP σ τ) := by
  refine jm_ofF (Po := (fun r τ => r = none ∧ KP σ τ)) (plainFor_of_name (by decide)) (Nat.le_of_ble_eq_true rfl) (lv := [(0, _)]) rfl ?_
  have jj58 : ∀ τ5 : jS, (okP τ5 ∧ τ5 0 6 = min (σ 0 6) 7 ∧ (∀ j, ¬ j = 6 → τ5 0 j = σ 0 j) ∧ (∀ i, 0 ≤ i → i < 8 → τ5 8 i = if σ 0 6 = 8 then (if i = 7 then σ 8 0 else σ 8 (i + 1)) else σ 8 i) ∧ ∀ c, ¬ c = 0 → ¬ c = 8 → τ5 c = σ c) → jR 3 miX12_keepPast (fun r τ => r = none ∧ KP σ τ) 58 [(0, .ref 0)] [] τ5 := by
    intro τ5 hq
    obtain ⟨E1, E2, E3, E4, E5⟩ := hq
    have pq := pst_b (E1.1 (τ5 0 6) (by omega) (by omega))
    refine r_aload_n (dc dkX12_keepPast 34 rfl) rfl (np 59 rfl ?_)
    refine r_getR (dc dkX12_keepPast 35 rfl) flX12_37 fd_0_5 (np 62 rfl ?_)
    refine r_aload_n (dc dkX12_keepPast 36 rfl) rfl (np 63 rfl ?_)
    refine r_gI 6 (dc dkX12_keepPast 37 rfl) flX12_41 fd_0_6 rfl (np 66 rfl ?_)
    refine r_aald (dc dkX12_keepPast 38 rfl) ar_8 (Or.inl rfl) (by omega) (np 67 rfl ?_)
    refine r_aload_n (dc dkX12_keepPast 39 rfl) rfl (np 68 rfl ?_)
    refine r_getR (dc dkX12_keepPast 40 rfl) flX12_24 fd_0_2 (np 71 rfl ?_)
    refine r_getR (dc dkX12_keepPast 41 rfl) flX12_105 fd_27_1 (np 74 rfl ?_)
    refine r_getR (dc dkX12_keepPast 42 rfl) flX12_167 fd_28_9 (np 77 rfl ?_)
    refine r_cV1 (y' := miX0_copyFrom) (dc dkX12_keepPast 43 rfl) mlX12_280 ceX0_copyFrom (obBands (pst_B (E1.1 _ (by omega) (by omega)))) (Nat.le_of_ble_eq_true rfl) (Nat.le_of_ble_eq_true rfl) (c_X0_copyFrom (pst_B (E1.1 _ (by omega) (by omega))) isBands_at30 (by omega)) (fun r τ6 hp6 => (np 80 rfl ?_))
    obtain ⟨rfl, hs6, hc6⟩ := hp6
    refine r_aload_n (dc dkX12_keepPast 44 rfl) rfl (np 81 rfl ?_)
    refine r_dup (dc dkX12_keepPast 45 rfl) rfl (np 82 rfl ?_)
    refine r_gI 6 (dc dkX12_keepPast 46 rfl) flX12_41 fd_0_6 rfl (np 85 rfl ?_)
    refine r_iconst (dc dkX12_keepPast 47 rfl) (np 86 rfl ?_)
    refine r_iadd (dc dkX12_keepPast 48 rfl) (np 87 rfl ?_)
    refine r_pI 6 (dc dkX12_keepPast 49 rfl) fpX12_41 fd_0_6 rfl (np 90 rfl ?_)
    exact r_vret (dc dkX12_keepPast 50 rfl) rfl (by
        have e06 : τ6 0 6 = min (σ 0 6) 7 := by rw [hs6 0 (by simp; omega)]; exact E2
        have e8 : τ6 8 = τ5 8 := hs6 8 (by simp; omega)
        have k8 : ju τ6 0 6 (τ6 0 6 + 1) 8 (min (σ 0 6) 7) = τ5 8 (τ5 0 6) := by rw [ju_off _ _ _ _ _ (by decide), e8, E2]
        refine ⟨rfl, fun j hj => by rw [ju_ne (by omega), hs6 0 (by simp; omega)]; exact E3 j hj, by rw [ju_at, e06], ⟨fun i i0 i1 => by rw [ju_off _ _ _ _ _ (by decide), e8]; exact E1.1 i i0 i1, fun i j i0 ij j1 => by rw [ju_off _ _ _ _ _ (by decide), e8]; exact E1.2 i j i0 ij j1⟩, fun i i0 i1 => by rw [ju_off _ _ _ _ _ (by decide), e8]; exact E4 i i0 i1, ?_, fun c h0 h8 hc => ?_⟩
        · rw [k8]
          refine cpB_tgt (cpB_src hc6 ?_ ?_ ?_ ?_) ?_ ?_ ?_ ?_
          · exact E5 30 (by decide) (by decide)
          · exact E5 31 (by decide) (by decide)
          · exact E5 32 (by decide) (by decide)
          · exact E5 33 (by decide) (by decide)
          all_goals exact ju_off _ _ _ _ _ (by omega)
        · rw [k8] at hc
          rw [ju_off _ _ _ _ _ h0, hs6 c (by simp; omega), E5 c h0 h8])
  refine r_aload_n (dc dkX12_keepPast 0 rfl) rfl (np 1 rfl ?_)
  refine r_gI 6 (dc dkX12_keepPast 1 rfl) flX12_41 fd_0_6 rfl (np 4 rfl ?_)
  refine r_bipush (dc dkX12_keepPast 2 rfl) bp_8 (np 6 rfl ?_)
  refine r_icmp_lt (tgt := 58) (dc dkX12_keepPast 3 rfl) rfl (by first | assumption | decide | omega) (by first | assumption | decide | omega) (fun h6 => ?_) (fun h6 => (np 9 rfl ?_))
  · skip
    refine r_pick [0] rfl ?_
    exact jj58 _ (by
          first
          | exact ⟨hK, by omega, fun _ _ => rfl, fun i _ _ => by rw [if_neg (by omega)], fun _ _ _ => rfl⟩
          | (have pb := pst_b (hK.1 0 (by decide) (by decide))
             have g : ∀ j, 0 ≤ j → j < 8 → ju (ju τ 8 7 (((σ 8 0).toNat : Nat) : Int)) 0 6 7 8 j = if j = 7 then σ 8 0 else σ 8 (j + 1) := fun j j0 j1 => by
               rw [ju_off _ _ _ _ _ (by decide)]
               by_cases hj : j = 7
               · rw [hj, ju_at, if_pos rfl, pb.2.2.1]
               · rw [ju_ne (by omega), if_neg hj]; exact hI18.2.1 j j0 (by omega)
             refine ⟨⟨fun j j0 j1 => ?_, fun x y x0 xy y1 => ?_⟩, by rw [ju_at]; omega, fun j hj => by rw [ju_ne (by omega), ju_off _ _ _ _ _ (by decide), hI18.2.2.2 0 (by decide)], fun j j0 j1 => by rw [g j j0 j1, if_pos (show σ 0 6 = 8 by omega)], fun c h1 h2 => by rw [ju_off _ _ _ _ _ h1, ju_off _ _ _ _ _ h2]; exact hI18.2.2.2 c h2⟩
             · rw [g j j0 j1]
               split
               · exact hK.1 0 (by decide) (by decide)
               · exact hK.1 (j + 1) (by omega) (by omega)
             · rw [g x x0 (by omega), g y (by omega) y1]
               by_cases hy : y = 7
               · rw [if_neg (by omega), if_pos hy]
                 exact fun z => hK.2 0 (x + 1) (by decide) (by omega) (by omega) z.symm
               · rw [if_neg (by omega), if_neg hy]
                 exact hK.2 (x + 1) (y + 1) (by omega) (by omega) (by omega)))
  refine r_aload_n (dc dkX12_keepPast 4 rfl) rfl (np 10 rfl ?_)
  refine r_getR (dc dkX12_keepPast 5 rfl) flX12_37 fd_0_5 (np 13 rfl ?_)
  refine r_iconst (dc dkX12_keepPast 6 rfl) (np 14 rfl ?_)
  refine r_aald (dc dkX12_keepPast 7 rfl) ar_8 (Or.inl rfl) (by omega) (np 15 rfl ?_)
  refine r_astore_n (lv' := [(1, _), (0, _)]) (dc dkX12_keepPast 8 rfl) (Nat.le_of_ble_eq_true rfl) rfl (np 16 rfl ?_)
  refine r_iconst (dc dkX12_keepPast 9 rfl) (np 17 rfl ?_)
  refine r_istore_n (lv' := [(2, _), (1, _), (0, _)]) (dc dkX12_keepPast 10 rfl) (Nat.le_of_ble_eq_true rfl) rfl (np 18 rfl ?_)
  refine r_pick [2, 1, 0] (lv' := [(0, _), (1, _), (2, _)]) rfl ?_
  refine jlp2 (P := fun (i : Int) (τ : jS) => jR _ _ _ 18 [(0, .ref 0), (1, .ref (σ 8 0).toNat), (2, vI i)] [] τ) (I := fun (i : Int) (τ : jS) => (1 ≤ i ∧ i ≤ 8) ∧ (∀ j, 0 ≤ j → j < i - 1 → τ 8 j = σ 8 (j + 1)) ∧ (∀ j, i - 1 ≤ j → j < 8 → τ 8 j = σ 8 j) ∧ ∀ c, ¬ c = 8 → τ c = σ c) (fun (i : Int) (τ : jS) => (8 - i).toNat) ?_ _ _ ⟨by omega, fun j _ _ => by omega, fun _ _ _ => rfl, fun _ _ => rfl⟩
  intro i τ hI18 ih18
  refine r_iload_n (dc dkX12_keepPast 11 rfl) rfl (np 19 rfl ?_)
  refine r_bipush (dc dkX12_keepPast 12 rfl) bp_8 (np 21 rfl ?_)
  refine r_icmp_ge (tgt := 44) (dc dkX12_keepPast 13 rfl) rfl (by first | assumption | decide | omega) (by first | assumption | decide | omega) (fun h21 => ?_) (fun h21 => (np 24 rfl ?_))
  · skip
    refine r_aload_n (dc dkX12_keepPast 26 rfl) rfl (np 45 rfl ?_)
    refine r_getR (dc dkX12_keepPast 27 rfl) flX12_37 fd_0_5 (np 48 rfl ?_)
    refine r_bipush (dc dkX12_keepPast 28 rfl) bp_7 (np 50 rfl ?_)
    refine r_aload_n (dc dkX12_keepPast 29 rfl) rfl (np 51 rfl ?_)
    refine r_aast (dc dkX12_keepPast 30 rfl) ar_8 (obBands (pst_B (hK.1 0 (by decide) (by decide)))) (by omega) (np 52 rfl ?_)
    refine r_aload_n (dc dkX12_keepPast 31 rfl) rfl (np 53 rfl ?_)
    refine r_bipush (dc dkX12_keepPast 32 rfl) bp_7 (np 55 rfl ?_)
    refine r_pI 6 (dc dkX12_keepPast 33 rfl) fpX12_41 fd_0_6 rfl (np 58 rfl ?_)
    refine r_pick [0] rfl ?_
    exact jj58 _ (by
          first
          | exact ⟨hK, by omega, fun _ _ => rfl, fun i _ _ => by rw [if_neg (by omega)], fun _ _ _ => rfl⟩
          | (have pb := pst_b (hK.1 0 (by decide) (by decide))
             have g : ∀ j, 0 ≤ j → j < 8 → ju (ju τ 8 7 (((σ 8 0).toNat : Nat) : Int)) 0 6 7 8 j = if j = 7 then σ 8 0 else σ 8 (j + 1) := fun j j0 j1 => by
               rw [ju_off _ _ _ _ _ (by decide)]
               by_cases hj : j = 7
               · rw [hj, ju_at, if_pos rfl, pb.2.2.1]
               · rw [ju_ne (by omega), if_neg hj]; exact hI18.2.1 j j0 (by omega)
             refine ⟨⟨fun j j0 j1 => ?_, fun x y x0 xy y1 => ?_⟩, by rw [ju_at]; omega, fun j hj => by rw [ju_ne (by omega), ju_off _ _ _ _ _ (by decide), hI18.2.2.2 0 (by decide)], fun j j0 j1 => by rw [g j j0 j1, if_pos (show σ 0 6 = 8 by omega)], fun c h1 h2 => by rw [ju_off _ _ _ _ _ h1, ju_off _ _ _ _ _ h2]; exact hI18.2.2.2 c h2⟩
             · rw [g j j0 j1]
               split
               · exact hK.1 0 (by decide) (by decide)
               · exact hK.1 (j + 1) (by omega) (by omega)
             · rw [g x x0 (by omega), g y (by omega) y1]
               by_cases hy : y = 7
               · rw [if_neg (by omega), if_pos hy]
                 exact fun z => hK.2 0 (x + 1) (by decide) (by omega) (by omega) z.symm
               · rw [if_neg (by omega), if_neg hy]
                 exact hK.2 (x + 1) (y + 1) (by omega) (by omega) (by omega)))
  refine r_aload_n (dc dkX12_keepPast 14 rfl) rfl (np 25 rfl ?_)
  refine r_getR (dc dkX12_keepPast 15 rfl) flX12_37 fd_0_5 (np 28 rfl ?_)
  refine r_iload_n (dc dkX12_keepPast 16 rfl) rfl (np 29 rfl ?_)
  refine r_iconst (dc dkX12_keepPast 17 rfl) (np 30 rfl ?_)
  refine r_isub (dc dkX12_keepPast 18 rfl) (np 31 rfl ?_)
  refine r_aload_n (dc dkX12_keepPast 19 rfl) rfl (np 32 rfl ?_)
  refine r_getR (dc dkX12_keepPast 20 rfl) flX12_37 fd_0_5 (np 35 rfl ?_)
  refine r_iload_n (dc dkX12_keepPast 21 rfl) rfl (np 36 rfl ?_)
  refine r_aald (dc dkX12_keepPast 22 rfl) ar_8 (Or.inl rfl) (by omega) (np 37 rfl ?_)
  refine r_aast (dc dkX12_keepPast 23 rfl) ar_8 (obBands (pst_B (by rw [hI18.2.2.1 i (by omega) (by omega)]; exact hK.1 i (by omega) (by omega)))) (by omega) (np 38 rfl ?_)
  refine r_iinc (lv' := [(2, _), (0, _), (1, _)]) (dc dkX12_keepPast 24 rfl) (Nat.le_of_ble_eq_true rfl) rfl rfl (np 41 rfl ?_)
  refine r_goto (tgt := 18) (dc dkX12_keepPast 25 rfl) rfl ?_
  refine r_pick [1, 2, 0] rfl ?_
  exact ih18 _ _ (by
        have q := hI18.2.2.1 i (by omega) (by omega)
        have pb := pst_b (hK.1 i (by omega) (by omega))
        refine ⟨by omega, fun j j0 j1 => ?_, fun j j0 j1 => by rw [ju_ne (by omega)]; exact hI18.2.2.1 j (by omega) j1, fun c hc => by rw [ju_off _ _ _ _ _ hc]; exact hI18.2.2.2 c hc⟩
        by_cases hj : j = i - 1
        · rw [hj, ju_at, q, pb.2.2.1, show i - 1 + 1 = i by omega]
        · rw [ju_ne (by omega)]; exact hI18.2.1 j j0 (by omega)) (by omega)
