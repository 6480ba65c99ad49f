/-- bits of those that fit -/
noncomputable def ovF (Q : Int → Prop) : Nat → Int
  | 0 => 0
  | k + 1 => gte (Q k) (iOr (ovF Q k) (iShl 1 k)) (ovF Q k)
theorem ovF_s {Q : Int → Prop} {i : Int} (h : 0 ≤ i) : ovF Q (i + 1).toNat = gte (Q i) (iOr (ovF Q i.toNat) (iShl 1 i)) (ovF Q i.toNat) := by
  rw [show (i + 1).toNat = i.toNat + 1 by omega, ovF, Int.toNat_of_nonneg h]
theorem ovF_c {Q Q' : Int → Prop} : ∀ n : Nat, (∀ i : Int, 0 ≤ i → i < n → (Q i ↔ Q' i)) → ovF Q n = ovF Q' n
  | 0, _ => rfl
  | n + 1, h => by rw [ovF, ovF, ovF_c n (fun i h0 h1 => h i h0 (by omega)), propext (h n (by omega) (by omega))]
theorem bI1 {P : Prop} {g : Int} (h : g = bI P) (hz : ¬ g = 0) : P := Classical.byContradiction (fun z => hz (by rw [h, bI_f z]))
theorem bI0 {P : Prop} {g : Int} (h : g = bI P) (hz : g = 0) : ¬ P := fun z => by rw [bI_t z] at h; omega
set_option maxRecDepth 100000 in
set_option maxHeartbeats 4000000 in
theorem c_X12_fault {σ : jS} : Jp 1 miX12_fault [.ref 0] σ (vI (σ 0 13)) := by
  refine jm_ofF (Po := (jP (vI (σ 0 13)) σ)) (plainFor_of_name (by decide)) (Nat.le_of_ble_eq_true rfl) (lv := [(0, _)]) rfl ?_
  refine r_aload_n (dc dkX12_fault 0 rfl) rfl (np 1 rfl ?_)
  refine r_gI 13 (dc dkX12_fault 1 rfl) flX12_85 fd_0_13 rfl (np 4 rfl ?_)
  exact r_iret (dc dkX12_fault 2 rfl) rfl ⟨rfl, rfl⟩
set_option maxRecDepth 100000 in
set_option maxHeartbeats 4000000 in
theorem c_X12_why {σ : jS} : Jp 1 miX12_why [.ref 0] σ (vI (σ 0 14)) := by
  refine jm_ofF (Po := (jP (vI (σ 0 14)) σ)) (plainFor_of_name (by decide)) (Nat.le_of_ble_eq_true rfl) (lv := [(0, _)]) rfl ?_
  refine r_aload_n (dc dkX12_why 0 rfl) rfl (np 1 rfl ?_)
  refine r_gI 14 (dc dkX12_why 1 rfl) flX12_88 fd_0_14 rfl (np 4 rfl ?_)
  exact r_iret (dc dkX12_why 2 rfl) rfl ⟨rfl, rfl⟩
set_option maxRecDepth 100000 in
set_option maxHeartbeats 4000000 in
theorem c_X12_isCount {σ : jS} {n : Int} (hn : iR n) : Jp 1 miX12_isCount [vI n] σ (vI (bI (0 ≤ n ∧ n ≤ 999))) := by
  refine jm_ofF (Po := (jP (vI (bI (0 ≤ n ∧ n ≤ 999))) σ)) (plainFor_of_name (by decide)) (Nat.le_of_ble_eq_true rfl) (lv := [(0, _)]) rfl ?_
  refine r_iload_n (dc dkX12_isCount 0 rfl) rfl (np 1 rfl ?_)
  refine r_if_lt (tgt := 15) (dc dkX12_isCount 1 rfl) rfl (by first | assumption | decide | omega) (fun h1 => ?_) (fun h1 => (np 4 rfl ?_))
  · skip
    refine r_iconst (dc dkX12_isCount 7 rfl) (np 16 rfl ?_)
    exact r_zret (dc dkX12_isCount 8 rfl) rfl (by first | exact Or.inl rfl | exact Or.inr rfl) ⟨congrArg (fun z => some (vI z)) (by first | exact bT (by omega) | exact bF (by omega)), rfl⟩
  refine r_iload_n (dc dkX12_isCount 2 rfl) rfl (np 5 rfl ?_)
  refine r_sipush (dc dkX12_isCount 3 rfl) sp_999 (np 8 rfl ?_)
  refine r_icmp_gt (tgt := 15) (dc dkX12_isCount 4 rfl) rfl (by first | assumption | decide | omega) (by first | assumption | decide | omega) (fun h8 => ?_) (fun h8 => (np 11 rfl ?_))
  · skip
    refine r_iconst (dc dkX12_isCount 7 rfl) (np 16 rfl ?_)
    exact r_zret (dc dkX12_isCount 8 rfl) rfl (by first | exact Or.inl rfl | exact Or.inr rfl) ⟨congrArg (fun z => some (vI z)) (by first | exact bT (by omega) | exact bF (by omega)), rfl⟩
  refine r_iconst (dc dkX12_isCount 5 rfl) (np 12 rfl ?_)
  refine r_goto (tgt := 16) (dc dkX12_isCount 6 rfl) rfl ?_
  exact r_zret (dc dkX12_isCount 8 rfl) rfl (by first | exact Or.inl rfl | exact Or.inr rfl) ⟨congrArg (fun z => some (vI z)) (by first | exact bT (by omega) | exact bF (by omega)), rfl⟩
set_option maxRecDepth 100000 in
set_option maxHeartbeats 4000000 in
theorem c_X12_peg {σ : jS} (hD : okD σ 28) {p : Int} (hp : iR p) : Jp 3 miX12_peg [.ref 0, vI p] σ (vI (pkC σ 28 p)) := by
  refine jm_ofF (Po := (jP (vI (pkC σ 28 p)) σ)) (plainFor_of_name (by decide)) (Nat.le_of_ble_eq_true rfl) (lv := [(0, _), (1, _)]) rfl ?_
  refine r_aload_n (dc dkX12_peg 0 rfl) rfl (np 1 rfl ?_)
  refine r_getR (dc dkX12_peg 1 rfl) flX12_24 fd_0_2 (np 4 rfl ?_)
  refine r_getR (dc dkX12_peg 2 rfl) flX12_105 fd_27_1 (np 7 rfl ?_)
  refine r_iload_n (dc dkX12_peg 3 rfl) rfl (np 8 rfl ?_)
  refine r_pV1 (y' := miX1_pegAt) (dc dkX12_peg 4 rfl) mlX12_163 ceX1_pegAt ob_28 (Nat.le_of_ble_eq_true rfl) (Nat.le_of_ble_eq_true rfl) (c_X1_pegAt isBoard_at28 hD hp) (np 11 rfl ?_)
  exact r_iret (dc dkX12_peg 5 rfl) rfl ⟨rfl, rfl⟩
set_option maxRecDepth 100000 in
set_option maxHeartbeats 4000000 in
theorem c_X12_corner {σ : jS} (hB : okB σ 30) (hn : ∀ b, 0 ≤ b → b < σ 30 0 → 3 ≤ σ 32 b) {b i : Int} (hb : iR b) (hi : iR i) : Jp 3 miX12_corner [.ref 0, vI b, vI i] σ (vI (gte ((0 ≤ b ∧ b < σ 30 0) ∧ 0 ≤ i ∧ i < σ 32 b) (bAt σ 30 b i) (-1))) := by
  have m8 := hB.1
  refine jm_ofF (Po := (jP (vI (gte ((0 ≤ b ∧ b < σ 30 0) ∧ 0 ≤ i ∧ i < σ 32 b) (bAt σ 30 b i) (-1))) σ)) (plainFor_of_name (by decide)) (Nat.le_of_ble_eq_true rfl) (lv := [(0, _), (1, _), (2, _)]) rfl ?_
  refine r_aload_n (dc dkX12_corner 0 rfl) rfl (np 1 rfl ?_)
  refine r_getR (dc dkX12_corner 1 rfl) flX12_24 fd_0_2 (np 4 rfl ?_)
  refine r_getR (dc dkX12_corner 2 rfl) flX12_105 fd_27_1 (np 7 rfl ?_)
  refine r_getR (dc dkX12_corner 3 rfl) flX12_167 fd_28_9 (np 10 rfl ?_)
  refine r_astore_n (lv' := [(3, _), (0, _), (1, _), (2, _)]) (dc dkX12_corner 4 rfl) (Nat.le_of_ble_eq_true rfl) rfl (np 11 rfl ?_)
  refine r_aload_n (dc dkX12_corner 5 rfl) rfl (np 12 rfl ?_)
  refine r_iload_n (dc dkX12_corner 6 rfl) rfl (np 13 rfl ?_)
  refine r_iload_n (dc dkX12_corner 7 rfl) rfl (np 14 rfl ?_)
  refine r_pV2 (y' := miX0_hasCorner) (dc dkX12_corner 8 rfl) mlX12_203 ceX0_hasCorner ob_30 (Nat.le_of_ble_eq_true rfl) (Nat.le_of_ble_eq_true rfl) (c_X0_hasCorner isBands_at30 hB (by omega) (by omega)) (np 17 rfl ?_)
  refine r_bz (tgt := 29) (dc dkX12_corner 9 rfl) rfl (fun h17 => ?_) (fun h17 => (np 20 rfl ?_))
  · skip
    refine r_iconst (dc dkX12_corner 15 rfl) (np 30 rfl ?_)
    exact r_iret (dc dkX12_corner 16 rfl) rfl ⟨congrArg (fun z => some (vI z)) (by first | (rw [gte_t h17]; done) | (rw [gte_f h17]; done)), rfl⟩
  replace h17 : (0 ≤ b ∧ b < σ 30 0) ∧ 0 ≤ i ∧ i < σ 32 b := h17
  have s8 : σ 32 b ≤ 8 := (hB.2.1 b (by omega) (by omega)).2
  refine r_aload_n (dc dkX12_corner 10 rfl) rfl (np 21 rfl ?_)
  refine r_iload_n (dc dkX12_corner 11 rfl) rfl (np 22 rfl ?_)
  refine r_iload_n (dc dkX12_corner 12 rfl) rfl (np 23 rfl ?_)
  refine r_pV2 (y' := miX0_at) (dc dkX12_corner 13 rfl) mlX12_207 ceX0_at ob_30 (Nat.le_of_ble_eq_true rfl) (Nat.le_of_ble_eq_true rfl) (c_X0_at isBands_at30 hB (by omega) (by omega) (by omega) (by show 0 < σ 32 b; omega)) (np 26 rfl ?_)
  refine r_goto (tgt := 30) (dc dkX12_corner 14 rfl) rfl ?_
  exact r_iret (dc dkX12_corner 16 rfl) rfl ⟨congrArg (fun z => some (vI z)) (by first | (rw [gte_t h17]; done) | (rw [gte_f h17]; done)), rfl⟩
set_option maxRecDepth 100000 in
set_option maxHeartbeats 4000000 in
theorem c_X12_side {σ : jS} (hB : okB σ 30) (hn : ∀ b, 0 ≤ b → b < σ 30 0 → 3 ≤ σ 32 b) {b i : Int} (hb : iR b) (hi : iR i) : Jp 3 miX12_side [.ref 0, vI b, vI i] σ (vI (gte ((0 ≤ b ∧ b < σ 30 0) ∧ 0 ≤ i ∧ i < σ 32 b) (al (bAt σ 30 b i) (bAt σ 30 b (i + 1)) (bAt σ 30 b (i + 1))) (-1))) := by
  have m8 := hB.1
  refine jm_ofF (Po := (jP (vI (gte ((0 ≤ b ∧ b < σ 30 0) ∧ 0 ≤ i ∧ i < σ 32 b) (al (bAt σ 30 b i) (bAt σ 30 b (i + 1)) (bAt σ 30 b (i + 1))) (-1))) σ)) (plainFor_of_name (by decide)) (Nat.le_of_ble_eq_true rfl) (lv := [(0, _), (1, _), (2, _)]) rfl ?_
  refine r_aload_n (dc dkX12_side 0 rfl) rfl (np 1 rfl ?_)
  refine r_getR (dc dkX12_side 1 rfl) flX12_24 fd_0_2 (np 4 rfl ?_)
  refine r_getR (dc dkX12_side 2 rfl) flX12_105 fd_27_1 (np 7 rfl ?_)
  refine r_getR (dc dkX12_side 3 rfl) flX12_167 fd_28_9 (np 10 rfl ?_)
  refine r_astore_n (lv' := [(3, _), (0, _), (1, _), (2, _)]) (dc dkX12_side 4 rfl) (Nat.le_of_ble_eq_true rfl) rfl (np 11 rfl ?_)
  refine r_aload_n (dc dkX12_side 5 rfl) rfl (np 12 rfl ?_)
  refine r_iload_n (dc dkX12_side 6 rfl) rfl (np 13 rfl ?_)
  refine r_iload_n (dc dkX12_side 7 rfl) rfl (np 14 rfl ?_)
  refine r_pV2 (y' := miX0_hasCorner) (dc dkX12_side 8 rfl) mlX12_203 ceX0_hasCorner ob_30 (Nat.le_of_ble_eq_true rfl) (Nat.le_of_ble_eq_true rfl) (c_X0_hasCorner isBands_at30 hB (by omega) (by omega)) (np 17 rfl ?_)
  refine r_bz (tgt := 40) (dc dkX12_side 9 rfl) rfl (fun h17 => ?_) (fun h17 => (np 20 rfl ?_))
  · skip
    refine r_iconst (dc dkX12_side 22 rfl) (np 41 rfl ?_)
    exact r_iret (dc dkX12_side 23 rfl) rfl ⟨congrArg (fun z => some (vI z)) (by first | (rw [gte_t h17]; done) | (rw [gte_f h17]; done)), rfl⟩
  replace h17 : (0 ≤ b ∧ b < σ 30 0) ∧ 0 ≤ i ∧ i < σ 32 b := h17
  have s8 : σ 32 b ≤ 8 := (hB.2.1 b (by omega) (by omega)).2
  have hPg : ∀ i, 0 ≤ i → isPg (bAt σ 30 b i) := fun i i0 => bAt_p hB (by omega) (by omega) (show 0 < σ 32 b by omega) i0
  refine r_aload_n (dc dkX12_side 10 rfl) rfl (np 21 rfl ?_)
  refine r_iload_n (dc dkX12_side 11 rfl) rfl (np 22 rfl ?_)
  refine r_iload_n (dc dkX12_side 12 rfl) rfl (np 23 rfl ?_)
  refine r_pV2 (y' := miX0_at) (dc dkX12_side 13 rfl) mlX12_207 ceX0_at ob_30 (Nat.le_of_ble_eq_true rfl) (Nat.le_of_ble_eq_true rfl) (c_X0_at isBands_at30 hB (by omega) (by omega) (by omega) (by show 0 < σ 32 b; omega)) (np 26 rfl ?_)
  refine r_aload_n (dc dkX12_side 14 rfl) rfl (np 27 rfl ?_)
  refine r_iload_n (dc dkX12_side 15 rfl) rfl (np 28 rfl ?_)
  refine r_iload_n (dc dkX12_side 16 rfl) rfl (np 29 rfl ?_)
  refine r_iconst (dc dkX12_side 17 rfl) (np 30 rfl ?_)
  refine r_iadd (dc dkX12_side 18 rfl) (np 31 rfl ?_)
  refine r_pV2 (y' := miX0_at) (dc dkX12_side 19 rfl) mlX12_207 ceX0_at ob_30 (Nat.le_of_ble_eq_true rfl) (Nat.le_of_ble_eq_true rfl) (c_X0_at isBands_at30 hB (by omega) (by omega) (by omega) (by show 0 < σ 32 b; omega)) (np 34 rfl ?_)
  refine r_pS2 (y' := miX7_square) (dc dkX12_side 20 rfl) mlX12_211 seX7_square (Nat.le_of_ble_eq_true rfl) (Nat.le_of_ble_eq_true rfl) (c_X7_square (hPg _ (by omega)) (hPg _ (by omega))) (np 37 rfl ?_)
  refine r_goto (tgt := 41) (dc dkX12_side 21 rfl) rfl ?_
  exact r_iret (dc dkX12_side 23 rfl) rfl ⟨congrArg (fun z => some (vI z)) (by first | (rw [gte_t h17]; done) | (rw [gte_f h17]; done)), rfl⟩
set_option maxRecDepth 100000 in
set_option maxHeartbeats 4000000 in
theorem c_X12_over {σ : jS} (hB : okB σ 30) (hn : ∀ b, 0 ≤ b → b < σ 30 0 → 3 ≤ σ 32 b) (hD : okD σ 28) {p w : Int} (hp : iR p) (hw : iR w) : Jp 5 miX12_over [.ref 0, vI p, vI w] σ (vI (gte (¬ pkC σ 28 p = -1 ∧ 0 ≤ w ∧ w ≤ 1) (ovF (fun b => (w = 0 ∧ wthB (σ 32 b) (bAt σ 30 b) p) ∨ (w = 1 ∧ isOnB (σ 32 b) (bAt σ 30 b) p)) (σ 30 0).toNat) (-1))) := by
  have m8 := hB.1
  have pb := pkG_b (σ 28 0) (σ 28 1) (outB σ 28) p
  replace pb : -1 ≤ pkC σ 28 p ∧ pkC σ 28 p ≤ 1 := pb
  refine jm_ofF (Po := (jP (vI (gte (¬ pkC σ 28 p = -1 ∧ 0 ≤ w ∧ w ≤ 1) (ovF (fun b => (w = 0 ∧ wthB (σ 32 b) (bAt σ 30 b) p) ∨ (w = 1 ∧ isOnB (σ 32 b) (bAt σ 30 b) p)) (σ 30 0).toNat) (-1))) σ)) (plainFor_of_name (by decide)) (Nat.le_of_ble_eq_true rfl) (lv := [(0, _), (1, _), (2, _)]) rfl ?_
  refine r_aload_n (dc dkX12_over 0 rfl) rfl (np 1 rfl ?_)
  refine r_getR (dc dkX12_over 1 rfl) flX12_24 fd_0_2 (np 4 rfl ?_)
  refine r_getR (dc dkX12_over 2 rfl) flX12_105 fd_27_1 (np 7 rfl ?_)
  refine r_iload_n (dc dkX12_over 3 rfl) rfl (np 8 rfl ?_)
  refine r_pV1 (y' := miX1_pegAt) (dc dkX12_over 4 rfl) mlX12_163 ceX1_pegAt ob_28 (Nat.le_of_ble_eq_true rfl) (Nat.le_of_ble_eq_true rfl) (c_X1_pegAt isBoard_at28 hD hp) (np 11 rfl ?_)
  refine r_iconst (dc dkX12_over 5 rfl) (np 12 rfl ?_)
  refine r_icmp_eq (tgt := 24) (dc dkX12_over 6 rfl) rfl (by first | assumption | decide | omega) (by first | assumption | decide | omega) (fun h12 => ?_) (fun h12 => (np 15 rfl ?_))
  · skip
    refine r_iconst (dc dkX12_over 12 rfl) (np 25 rfl ?_)
    exact r_iret (dc dkX12_over 13 rfl) rfl ⟨congrArg (fun z => some (vI z)) (by first | (rw [gte_t ⟨h12, by omega, by omega⟩, hI43.2, show i = σ 30 0 by omega]; done) | (rw [gte_f (by omega)]; done)), rfl⟩
  refine r_iload_n (dc dkX12_over 7 rfl) rfl (np 16 rfl ?_)
  refine r_if_lt (tgt := 24) (dc dkX12_over 8 rfl) rfl (by first | assumption | decide | omega) (fun h16 => ?_) (fun h16 => (np 19 rfl ?_))
  · skip
    refine r_iconst (dc dkX12_over 12 rfl) (np 25 rfl ?_)
    exact r_iret (dc dkX12_over 13 rfl) rfl ⟨congrArg (fun z => some (vI z)) (by first | (rw [gte_t ⟨h12, by omega, by omega⟩, hI43.2, show i = σ 30 0 by omega]; done) | (rw [gte_f (by omega)]; done)), rfl⟩
  refine r_iload_n (dc dkX12_over 9 rfl) rfl (np 20 rfl ?_)
  refine r_iconst (dc dkX12_over 10 rfl) (np 21 rfl ?_)
  refine r_icmp_le (tgt := 26) (dc dkX12_over 11 rfl) rfl (by first | assumption | decide | omega) (by first | assumption | decide | omega) (fun h21 => ?_) (fun h21 => (np 24 rfl ?_))
  · skip
    have pg : isPg p := by
      have d0 := hD.1
      have d1 := hD.2.1
      unfold pkC pkG at h12
      split at h12
      · omega
      · exact absurd rfl h12
    refine r_aload_n (dc dkX12_over 14 rfl) rfl (np 27 rfl ?_)
    refine r_getR (dc dkX12_over 15 rfl) flX12_24 fd_0_2 (np 30 rfl ?_)
    refine r_getR (dc dkX12_over 16 rfl) flX12_105 fd_27_1 (np 33 rfl ?_)
    refine r_getR (dc dkX12_over 17 rfl) flX12_167 fd_28_9 (np 36 rfl ?_)
    refine r_astore_n (lv' := [(3, _), (0, _), (1, _), (2, _)]) (dc dkX12_over 18 rfl) (Nat.le_of_ble_eq_true rfl) rfl (np 37 rfl ?_)
    refine r_iconst (dc dkX12_over 19 rfl) (np 38 rfl ?_)
    refine r_istore (lv' := [(4, _), (3, _), (0, _), (1, _), (2, _)]) (dc dkX12_over 20 rfl) (Nat.le_of_ble_eq_true rfl) rfl (np 40 rfl ?_)
    refine r_iconst (dc dkX12_over 21 rfl) (np 41 rfl ?_)
    refine r_istore (lv' := [(5, _), (4, _), (3, _), (0, _), (1, _), (2, _)]) (dc dkX12_over 22 rfl) (Nat.le_of_ble_eq_true rfl) rfl (np 43 rfl ?_)
    refine r_pick [3, 4, 5, 2, 1, 0] (lv' := [(0, _), (1, _), (2, _), (3, _), (4, _), (5, _)]) rfl ?_
    refine jlp2 (P := fun (s : Int) (i : Int) => jR _ _ _ 43 [(0, .ref 0), (1, vI p), (2, vI w), (3, .ref 30), (4, vI s), (5, vI i)] [] σ) (I := fun (s : Int) (i : Int) => (0 ≤ i ∧ i ≤ σ 30 0) ∧ s = ovF (fun b => (w = 0 ∧ wthB (σ 32 b) (bAt σ 30 b) p) ∨ (w = 1 ∧ isOnB (σ 32 b) (bAt σ 30 b) p)) i.toNat) (fun (s : Int) (i : Int) => (σ 30 0 - i).toNat) ?_ _ _ ⟨by omega, rfl⟩
    intro s i hI43 ih43
    refine r_iload (dc dkX12_over 23 rfl) rfl (np 45 rfl ?_)
    refine r_aload_n (dc dkX12_over 24 rfl) rfl (np 46 rfl ?_)
    refine r_gI 0 (dc dkX12_over 25 rfl) flX12_198 fd_30_0 rfl (np 49 rfl ?_)
    refine r_icmp_ge (tgt := 95) (dc dkX12_over 26 rfl) rfl (by first | assumption | decide | omega) (by first | assumption | decide | omega) (fun h49 => ?_) (fun h49 => (np 52 rfl ?_))
    · skip
      refine r_iload (dc dkX12_over 49 rfl) rfl (np 97 rfl ?_)
      exact r_iret (dc dkX12_over 50 rfl) rfl ⟨congrArg (fun z => some (vI z)) (by first | (rw [gte_t ⟨h12, by omega, by omega⟩, hI43.2, show i = σ 30 0 by omega]; done) | (rw [gte_f (by omega)]; done)), rfl⟩
    have jj73 : ∀ g : Int, g = bI ((fun b => (w = 0 ∧ wthB (σ 32 b) (bAt σ 30 b) p) ∨ (w = 1 ∧ isOnB (σ 32 b) (bAt σ 30 b) p)) i) → jR 5 miX12_over (jP (vI (gte (¬ pkC σ 28 p = -1 ∧ 0 ≤ w ∧ w ≤ 1) (ovF (fun b => (w = 0 ∧ wthB (σ 32 b) (bAt σ 30 b) p) ∨ (w = 1 ∧ isOnB (σ 32 b) (bAt σ 30 b) p)) (σ 30 0).toNat) (-1))) σ) 73 [(0, .ref 0), (1, vI p), (2, vI w), (3, .ref 30), (4, vI s), (5, vI i)] [vI g] σ := by
      intro g hg
      refine r_istore (lv' := [(6, _), (0, _), (1, _), (2, _), (3, _), (4, _), (5, _)]) (dc dkX12_over 38 rfl) (Nat.le_of_ble_eq_true rfl) rfl (np 75 rfl ?_)
      refine r_iload (dc dkX12_over 39 rfl) rfl (np 77 rfl ?_)
      refine r_if_eq (tgt := 89) (dc dkX12_over 40 rfl) rfl (by rw [hg]; exact bI_R _) (fun h77 => ?_) (fun h77 => (np 80 rfl ?_))
      · skip
        refine r_iinc (lv' := [(5, _), (6, _), (0, _), (1, _), (2, _), (3, _), (4, _)]) (dc dkX12_over 47 rfl) (Nat.le_of_ble_eq_true rfl) rfl rfl (np 92 rfl ?_)
        refine r_goto (tgt := 43) (dc dkX12_over 48 rfl) rfl ?_
        refine r_pick [2, 3, 4, 5, 6, 0] rfl ?_
        exact ih43 _ _ ⟨by omega, by rw [ovF_s (by omega), ← hI43.2]; first | (rw [gte_t (bI1 hg h77)]; done) | (rw [gte_f (bI0 hg h77)]; done)⟩ (by omega)
      refine r_iload (dc dkX12_over 41 rfl) rfl (np 82 rfl ?_)
      refine r_iconst (dc dkX12_over 42 rfl) (np 83 rfl ?_)
      refine r_iload (dc dkX12_over 43 rfl) rfl (np 85 rfl ?_)
      refine r_ishl (dc dkX12_over 44 rfl) (np 86 rfl ?_)
      refine r_ior (dc dkX12_over 45 rfl) (np 87 rfl ?_)
      refine r_istore (lv' := [(4, _), (6, _), (0, _), (1, _), (2, _), (3, _), (5, _)]) (dc dkX12_over 46 rfl) (Nat.le_of_ble_eq_true rfl) rfl (np 89 rfl ?_)
      refine r_iinc (lv' := [(5, _), (4, _), (6, _), (0, _), (1, _), (2, _), (3, _)]) (dc dkX12_over 47 rfl) (Nat.le_of_ble_eq_true rfl) rfl rfl (np 92 rfl ?_)
      refine r_goto (tgt := 43) (dc dkX12_over 48 rfl) rfl ?_
      refine r_pick [3, 4, 5, 6, 1, 0] rfl ?_
      exact ih43 _ _ ⟨by omega, by rw [ovF_s (by omega), ← hI43.2]; first | (rw [gte_t (bI1 hg h77)]; done) | (rw [gte_f (bI0 hg h77)]; done)⟩ (by omega)
    refine r_iload_n (dc dkX12_over 27 rfl) rfl (np 53 rfl ?_)
    refine r_if_ne (tgt := 66) (dc dkX12_over 28 rfl) rfl (by first | assumption | decide | omega) (fun h53 => ?_) (fun h53 => (np 56 rfl ?_))
    · skip
      refine r_aload_n (dc dkX12_over 34 rfl) rfl (np 67 rfl ?_)
      refine r_iload (dc dkX12_over 35 rfl) rfl (np 69 rfl ?_)
      refine r_iload_n (dc dkX12_over 36 rfl) rfl (np 70 rfl ?_)
      refine r_pV2 (y' := miX0_holdsOn) (dc dkX12_over 37 rfl) mlX12_219 ceX0_holdsOn ob_30 (Nat.le_of_ble_eq_true rfl) (Nat.le_of_ble_eq_true rfl) (c_X0_holdsOn isBands_at30 hB (by omega) (by omega) pg) (np 73 rfl ?_)
      refine r_pick [0, 1, 2, 3, 4, 5] rfl ?_
      exact jj73 _ (bI_iff ⟨fun z => by first | exact Or.inl ⟨by omega, z⟩ | exact Or.inr ⟨by omega, z⟩, fun z => by rcases z with z | z <;> first | exact z.2 | omega⟩)
    refine r_aload_n (dc dkX12_over 29 rfl) rfl (np 57 rfl ?_)
    refine r_iload (dc dkX12_over 30 rfl) rfl (np 59 rfl ?_)
    refine r_iload_n (dc dkX12_over 31 rfl) rfl (np 60 rfl ?_)
    refine r_pV2 (y' := miX0_holdsWithin) (dc dkX12_over 32 rfl) mlX12_216 ceX0_holdsWithin ob_30 (Nat.le_of_ble_eq_true rfl) (Nat.le_of_ble_eq_true rfl) (c_X0_holdsWithin isBands_at30 hB (by omega) (by omega) pg) (np 63 rfl ?_)
    refine r_goto (tgt := 73) (dc dkX12_over 33 rfl) rfl ?_
    refine r_pick [0, 1, 2, 3, 4, 5] rfl ?_
    exact jj73 _ (bI_iff ⟨fun z => by first | exact Or.inl ⟨by omega, z⟩ | exact Or.inr ⟨by omega, z⟩, fun z => by rcases z with z | z <;> first | exact z.2 | omega⟩)
  refine r_iconst (dc dkX12_over 12 rfl) (np 25 rfl ?_)
  exact r_iret (dc dkX12_over 13 rfl) rfl ⟨congrArg (fun z => some (vI z)) (by first | (rw [gte_t ⟨h12, by omega, by omega⟩, hI43.2, show i = σ 30 0 by omega]; done) | (rw [gte_f (by omega)]; done)), rfl⟩
set_option maxRecDepth 100000 in
set_option maxHeartbeats 4000000 in
theorem c_X12_cross {σ : jS} (hB : okB σ 30) (hn : ∀ b, 0 ≤ b → b < σ 30 0 → 3 ≤ σ 32 b) {a b w : Int} (ha : iR a) (hb : iR b) (hw : iR w) : Jp 4 miX12_cross [.ref 0, vI a, vI b, vI w] σ (vI (gte ((0 ≤ a ∧ a < σ 30 0) ∧ (0 ≤ b ∧ b < σ 30 0) ∧ ¬ a = b ∧ 0 ≤ w ∧ w ≤ 1) (meetN (σ 32 a) (bAt σ 30 a) (σ 32 b) (bAt σ 30 b) (w + 1)) (-1))) := by
  have m8 := hB.1
  refine jm_ofF (Po := (jP (vI (gte ((0 ≤ a ∧ a < σ 30 0) ∧ (0 ≤ b ∧ b < σ 30 0) ∧ ¬ a = b ∧ 0 ≤ w ∧ w ≤ 1) (meetN (σ 32 a) (bAt σ 30 a) (σ 32 b) (bAt σ 30 b) (w + 1)) (-1))) σ)) (plainFor_of_name (by decide)) (Nat.le_of_ble_eq_true rfl) (lv := [(0, _), (1, _), (2, _), (3, _)]) rfl ?_
  refine r_aload_n (dc dkX12_cross 0 rfl) rfl (np 1 rfl ?_)
  refine r_getR (dc dkX12_cross 1 rfl) flX12_24 fd_0_2 (np 4 rfl ?_)
  refine r_getR (dc dkX12_cross 2 rfl) flX12_105 fd_27_1 (np 7 rfl ?_)
  refine r_getR (dc dkX12_cross 3 rfl) flX12_167 fd_28_9 (np 10 rfl ?_)
  refine r_astore (lv' := [(4, _), (0, _), (1, _), (2, _), (3, _)]) (dc dkX12_cross 4 rfl) (Nat.le_of_ble_eq_true rfl) rfl (np 12 rfl ?_)
  refine r_aload (dc dkX12_cross 5 rfl) rfl (np 14 rfl ?_)
  refine r_iload_n (dc dkX12_cross 6 rfl) rfl (np 15 rfl ?_)
  refine r_pV1 (y' := miX0_has) (dc dkX12_cross 7 rfl) mlX12_171 ceX0_has ob_30 (Nat.le_of_ble_eq_true rfl) (Nat.le_of_ble_eq_true rfl) (c_X0_has isBands_at30 hB (by omega)) (np 18 rfl ?_)
  refine r_bz (tgt := 44) (dc dkX12_cross 8 rfl) rfl (fun h18 => ?_) (fun h18 => (np 21 rfl ?_))
  · skip
    refine r_iconst (dc dkX12_cross 21 rfl) (np 45 rfl ?_)
    exact r_iret (dc dkX12_cross 22 rfl) rfl ⟨congrArg (fun z => some (vI z)) (by first | (rw [gte_t ⟨h18, h27, h32, by omega⟩, show w + 1 = 1 by omega]; done) | (rw [gte_t ⟨h18, h27, h32, by omega⟩, show w + 1 = 2 by omega]; done) | (rw [gte_f (by omega)]; done)), rfl⟩
  refine r_aload (dc dkX12_cross 9 rfl) rfl (np 23 rfl ?_)
  refine r_iload_n (dc dkX12_cross 10 rfl) rfl (np 24 rfl ?_)
  refine r_pV1 (y' := miX0_has) (dc dkX12_cross 11 rfl) mlX12_171 ceX0_has ob_30 (Nat.le_of_ble_eq_true rfl) (Nat.le_of_ble_eq_true rfl) (c_X0_has isBands_at30 hB (by omega)) (np 27 rfl ?_)
  refine r_bz (tgt := 44) (dc dkX12_cross 12 rfl) rfl (fun h27 => ?_) (fun h27 => (np 30 rfl ?_))
  · skip
    refine r_iconst (dc dkX12_cross 21 rfl) (np 45 rfl ?_)
    exact r_iret (dc dkX12_cross 22 rfl) rfl ⟨congrArg (fun z => some (vI z)) (by first | (rw [gte_t ⟨h18, h27, h32, by omega⟩, show w + 1 = 1 by omega]; done) | (rw [gte_t ⟨h18, h27, h32, by omega⟩, show w + 1 = 2 by omega]; done) | (rw [gte_f (by omega)]; done)), rfl⟩
  refine r_iload_n (dc dkX12_cross 13 rfl) rfl (np 31 rfl ?_)
  refine r_iload_n (dc dkX12_cross 14 rfl) rfl (np 32 rfl ?_)
  refine r_icmp_eq (tgt := 44) (dc dkX12_cross 15 rfl) rfl (by first | assumption | decide | omega) (by first | assumption | decide | omega) (fun h32 => ?_) (fun h32 => (np 35 rfl ?_))
  · skip
    refine r_iconst (dc dkX12_cross 21 rfl) (np 45 rfl ?_)
    exact r_iret (dc dkX12_cross 22 rfl) rfl ⟨congrArg (fun z => some (vI z)) (by first | (rw [gte_t ⟨h18, h27, h32, by omega⟩, show w + 1 = 1 by omega]; done) | (rw [gte_t ⟨h18, h27, h32, by omega⟩, show w + 1 = 2 by omega]; done) | (rw [gte_f (by omega)]; done)), rfl⟩
  refine r_iload_n (dc dkX12_cross 16 rfl) rfl (np 36 rfl ?_)
  refine r_if_lt (tgt := 44) (dc dkX12_cross 17 rfl) rfl (by first | assumption | decide | omega) (fun h36 => ?_) (fun h36 => (np 39 rfl ?_))
  · skip
    refine r_iconst (dc dkX12_cross 21 rfl) (np 45 rfl ?_)
    exact r_iret (dc dkX12_cross 22 rfl) rfl ⟨congrArg (fun z => some (vI z)) (by first | (rw [gte_t ⟨h18, h27, h32, by omega⟩, show w + 1 = 1 by omega]; done) | (rw [gte_t ⟨h18, h27, h32, by omega⟩, show w + 1 = 2 by omega]; done) | (rw [gte_f (by omega)]; done)), rfl⟩
  refine r_iload_n (dc dkX12_cross 18 rfl) rfl (np 40 rfl ?_)
  refine r_iconst (dc dkX12_cross 19 rfl) (np 41 rfl ?_)
  refine r_icmp_le (tgt := 46) (dc dkX12_cross 20 rfl) rfl (by first | assumption | decide | omega) (by first | assumption | decide | omega) (fun h41 => ?_) (fun h41 => (np 44 rfl ?_))
  · skip
    refine r_aload (dc dkX12_cross 23 rfl) rfl (np 48 rfl ?_)
    refine r_iload_n (dc dkX12_cross 24 rfl) rfl (np 49 rfl ?_)
    refine r_iload_n (dc dkX12_cross 25 rfl) rfl (np 50 rfl ?_)
    refine r_iload_n (dc dkX12_cross 26 rfl) rfl (np 51 rfl ?_)
    refine r_if_ne (tgt := 58) (dc dkX12_cross 27 rfl) rfl (by first | assumption | decide | omega) (fun h51 => ?_) (fun h51 => (np 54 rfl ?_))
    · skip
      refine r_iconst (dc dkX12_cross 30 rfl) (np 59 rfl ?_)
      refine r_pV3 (y' := miX0_meetings) (dc dkX12_cross 31 rfl) mlX12_199 ceX0_meetings ob_30 (Nat.le_of_ble_eq_true rfl) (Nat.le_of_ble_eq_true rfl) (c_X0_meetings isBands_at30 hB (by omega) (by omega) (by omega) (by omega) (by decide)) (np 62 rfl ?_)
      exact r_iret (dc dkX12_cross 32 rfl) rfl ⟨congrArg (fun z => some (vI z)) (by first | (rw [gte_t ⟨h18, h27, h32, by omega⟩, show w + 1 = 1 by omega]; done) | (rw [gte_t ⟨h18, h27, h32, by omega⟩, show w + 1 = 2 by omega]; done) | (rw [gte_f (by omega)]; done)), rfl⟩
    refine r_iconst (dc dkX12_cross 28 rfl) (np 55 rfl ?_)
    refine r_goto (tgt := 59) (dc dkX12_cross 29 rfl) rfl ?_
    refine r_pV3 (y' := miX0_meetings) (dc dkX12_cross 31 rfl) mlX12_199 ceX0_meetings ob_30 (Nat.le_of_ble_eq_true rfl) (Nat.le_of_ble_eq_true rfl) (c_X0_meetings isBands_at30 hB (by omega) (by omega) (by omega) (by omega) (by decide)) (np 62 rfl ?_)
    exact r_iret (dc dkX12_cross 32 rfl) rfl ⟨congrArg (fun z => some (vI z)) (by first | (rw [gte_t ⟨h18, h27, h32, by omega⟩, show w + 1 = 1 by omega]; done) | (rw [gte_t ⟨h18, h27, h32, by omega⟩, show w + 1 = 2 by omega]; done) | (rw [gte_f (by omega)]; done)), rfl⟩
  refine r_iconst (dc dkX12_cross 21 rfl) (np 45 rfl ?_)
  exact r_iret (dc dkX12_cross 22 rfl) rfl ⟨congrArg (fun z => some (vI z)) (by first | (rw [gte_t ⟨h18, h27, h32, by omega⟩, show w + 1 = 1 by omega]; done) | (rw [gte_t ⟨h18, h27, h32, by omega⟩, show w + 1 = 2 by omega]; done) | (rw [gte_f (by omega)]; done)), rfl⟩
set_option maxRecDepth 100000 in
set_option maxHeartbeats 4000000 in
theorem c_X12_in {σ : jS} (hB : okB σ 30) (hn : ∀ b, 0 ≤ b → b < σ 30 0 → 3 ≤ σ 32 b) {a b : Int} (ha : iR a) (hb : iR b) : Jp 6 miX12_in [.ref 0, vI a, vI b] σ (vI (gte ((0 ≤ a ∧ a < σ 30 0) ∧ (0 ≤ b ∧ b < σ 30 0)) (bI (lieB (σ 32 a) (bAt σ 30 a) (σ 32 b) (bAt σ 30 b))) (-1))) := by
  have m8 := hB.1
  refine jm_ofF (Po := (jP (vI (gte ((0 ≤ a ∧ a < σ 30 0) ∧ (0 ≤ b ∧ b < σ 30 0)) (bI (lieB (σ 32 a) (bAt σ 30 a) (σ 32 b) (bAt σ 30 b))) (-1))) σ)) (plainFor_of_name (by decide)) (Nat.le_of_ble_eq_true rfl) (lv := [(0, _), (1, _), (2, _)]) rfl ?_
  refine r_aload_n (dc dkX12_in 0 rfl) rfl (np 1 rfl ?_)
  refine r_getR (dc dkX12_in 1 rfl) flX12_24 fd_0_2 (np 4 rfl ?_)
  refine r_getR (dc dkX12_in 2 rfl) flX12_105 fd_27_1 (np 7 rfl ?_)
  refine r_getR (dc dkX12_in 3 rfl) flX12_167 fd_28_9 (np 10 rfl ?_)
  refine r_astore_n (lv' := [(3, _), (0, _), (1, _), (2, _)]) (dc dkX12_in 4 rfl) (Nat.le_of_ble_eq_true rfl) rfl (np 11 rfl ?_)
  refine r_aload_n (dc dkX12_in 5 rfl) rfl (np 12 rfl ?_)
  refine r_iload_n (dc dkX12_in 6 rfl) rfl (np 13 rfl ?_)
  refine r_pV1 (y' := miX0_has) (dc dkX12_in 7 rfl) mlX12_171 ceX0_has ob_30 (Nat.le_of_ble_eq_true rfl) (Nat.le_of_ble_eq_true rfl) (c_X0_has isBands_at30 hB (by omega)) (np 16 rfl ?_)
  refine r_bz (tgt := 27) (dc dkX12_in 8 rfl) rfl (fun h16 => ?_) (fun h16 => (np 19 rfl ?_))
  · skip
    refine r_iconst (dc dkX12_in 13 rfl) (np 28 rfl ?_)
    exact r_iret (dc dkX12_in 14 rfl) rfl ⟨congrArg (fun z => some (vI z)) (by first | (rw [gte_t ⟨h16, h24⟩, bI_t h35]; done) | (rw [gte_t ⟨h16, h24⟩, bI_f h35]; done) | (rw [gte_f (by omega)]; done)), rfl⟩
  refine r_aload_n (dc dkX12_in 9 rfl) rfl (np 20 rfl ?_)
  refine r_iload_n (dc dkX12_in 10 rfl) rfl (np 21 rfl ?_)
  refine r_pV1 (y' := miX0_has) (dc dkX12_in 11 rfl) mlX12_171 ceX0_has ob_30 (Nat.le_of_ble_eq_true rfl) (Nat.le_of_ble_eq_true rfl) (c_X0_has isBands_at30 hB (by omega)) (np 24 rfl ?_)
  refine r_bn (tgt := 29) (dc dkX12_in 12 rfl) rfl (fun h24 => ?_) (fun h24 => (np 27 rfl ?_))
  · skip
    refine r_aload_n (dc dkX12_in 15 rfl) rfl (np 30 rfl ?_)
    refine r_iload_n (dc dkX12_in 16 rfl) rfl (np 31 rfl ?_)
    refine r_iload_n (dc dkX12_in 17 rfl) rfl (np 32 rfl ?_)
    refine r_pV2 (y' := miX0_liesIn) (dc dkX12_in 18 rfl) mlX12_222 ceX0_liesIn ob_30 (Nat.le_of_ble_eq_true rfl) (Nat.le_of_ble_eq_true rfl) (c_X0_liesIn isBands_at30 hB (by omega) (by omega) (by omega) (by omega)) (np 35 rfl ?_)
    refine r_bz (tgt := 42) (dc dkX12_in 19 rfl) rfl (fun h35 => ?_) (fun h35 => (np 38 rfl ?_))
    · skip
      refine r_iconst (dc dkX12_in 22 rfl) (np 43 rfl ?_)
      exact r_iret (dc dkX12_in 23 rfl) rfl ⟨congrArg (fun z => some (vI z)) (by first | (rw [gte_t ⟨h16, h24⟩, bI_t h35]; done) | (rw [gte_t ⟨h16, h24⟩, bI_f h35]; done) | (rw [gte_f (by omega)]; done)), rfl⟩
    refine r_iconst (dc dkX12_in 20 rfl) (np 39 rfl ?_)
    refine r_goto (tgt := 43) (dc dkX12_in 21 rfl) rfl ?_
    exact r_iret (dc dkX12_in 23 rfl) rfl ⟨congrArg (fun z => some (vI z)) (by first | (rw [gte_t ⟨h16, h24⟩, bI_t h35]; done) | (rw [gte_t ⟨h16, h24⟩, bI_f h35]; done) | (rw [gte_f (by omega)]; done)), rfl⟩
  refine r_iconst (dc dkX12_in 13 rfl) (np 28 rfl ?_)
  exact r_iret (dc dkX12_in 14 rfl) rfl ⟨congrArg (fun z => some (vI z)) (by first | (rw [gte_t ⟨h16, h24⟩, bI_t h35]; done) | (rw [gte_t ⟨h16, h24⟩, bI_f h35]; done) | (rw [gte_f (by omega)]; done)), rfl⟩
set_option maxRecDepth 100000 in
set_option maxHeartbeats 4000000 in
theorem c_X12_rim {σ : jS} (hB : okB σ 30) (hn : ∀ b, 0 ≤ b → b < σ 30 0 → 3 ≤ σ 32 b) {b w : Int} (hb : iR b) (hw : iR w) : Jp 3 miX12_rim [.ref 0, vI b, vI w] σ (vI (gte ((0 ≤ b ∧ b < σ 30 0) ∧ 0 ≤ w ∧ w ≤ 3) (if w < 2 then mnN (fun i => if w % 2 = 0 then bAt σ 30 b i % 10 else bAt σ 30 b i / 10) 9 (σ 32 b).toNat else mxN (fun i => if w % 2 = 0 then bAt σ 30 b i % 10 else bAt σ 30 b i / 10) 0 (σ 32 b).toNat - mnN (fun i => if w % 2 = 0 then bAt σ 30 b i % 10 else bAt σ 30 b i / 10) 9 (σ 32 b).toNat) (-1))) := by
  have m8 := hB.1
  refine jm_ofF (Po := (jP (vI (gte ((0 ≤ b ∧ b < σ 30 0) ∧ 0 ≤ w ∧ w ≤ 3) (if w < 2 then mnN (fun i => if w % 2 = 0 then bAt σ 30 b i % 10 else bAt σ 30 b i / 10) 9 (σ 32 b).toNat else mxN (fun i => if w % 2 = 0 then bAt σ 30 b i % 10 else bAt σ 30 b i / 10) 0 (σ 32 b).toNat - mnN (fun i => if w % 2 = 0 then bAt σ 30 b i % 10 else bAt σ 30 b i / 10) 9 (σ 32 b).toNat) (-1))) σ)) (plainFor_of_name (by decide)) (Nat.le_of_ble_eq_true rfl) (lv := [(0, _), (1, _), (2, _)]) rfl ?_
  refine r_aload_n (dc dkX12_rim 0 rfl) rfl (np 1 rfl ?_)
  refine r_getR (dc dkX12_rim 1 rfl) flX12_24 fd_0_2 (np 4 rfl ?_)
  refine r_getR (dc dkX12_rim 2 rfl) flX12_105 fd_27_1 (np 7 rfl ?_)
  refine r_getR (dc dkX12_rim 3 rfl) flX12_167 fd_28_9 (np 10 rfl ?_)
  refine r_iload_n (dc dkX12_rim 4 rfl) rfl (np 11 rfl ?_)
  refine r_pV1 (y' := miX0_has) (dc dkX12_rim 5 rfl) mlX12_171 ceX0_has ob_30 (Nat.le_of_ble_eq_true rfl) (Nat.le_of_ble_eq_true rfl) (c_X0_has isBands_at30 hB (by omega)) (np 14 rfl ?_)
  refine r_bz (tgt := 26) (dc dkX12_rim 6 rfl) rfl (fun h14 => ?_) (fun h14 => (np 17 rfl ?_))
  · skip
    refine r_iconst (dc dkX12_rim 12 rfl) (np 27 rfl ?_)
    exact r_iret (dc dkX12_rim 13 rfl) rfl ⟨congrArg (fun z => some (vI z)) (by first | (rw [gte_t ⟨h14, by omega⟩]; done) | (rw [gte_f (by omega)]; done)), rfl⟩
  refine r_iload_n (dc dkX12_rim 7 rfl) rfl (np 18 rfl ?_)
  refine r_if_lt (tgt := 26) (dc dkX12_rim 8 rfl) rfl (by first | assumption | decide | omega) (fun h18 => ?_) (fun h18 => (np 21 rfl ?_))
  · skip
    refine r_iconst (dc dkX12_rim 12 rfl) (np 27 rfl ?_)
    exact r_iret (dc dkX12_rim 13 rfl) rfl ⟨congrArg (fun z => some (vI z)) (by first | (rw [gte_t ⟨h14, by omega⟩]; done) | (rw [gte_f (by omega)]; done)), rfl⟩
  refine r_iload_n (dc dkX12_rim 9 rfl) rfl (np 22 rfl ?_)
  refine r_iconst (dc dkX12_rim 10 rfl) (np 23 rfl ?_)
  refine r_icmp_le (tgt := 28) (dc dkX12_rim 11 rfl) rfl (by first | assumption | decide | omega) (by first | assumption | decide | omega) (fun h23 => ?_) (fun h23 => (np 26 rfl ?_))
  · skip
    refine r_aload_n (dc dkX12_rim 14 rfl) rfl (np 29 rfl ?_)
    refine r_getR (dc dkX12_rim 15 rfl) flX12_24 fd_0_2 (np 32 rfl ?_)
    refine r_getR (dc dkX12_rim 16 rfl) flX12_105 fd_27_1 (np 35 rfl ?_)
    refine r_getR (dc dkX12_rim 17 rfl) flX12_167 fd_28_9 (np 38 rfl ?_)
    refine r_iload_n (dc dkX12_rim 18 rfl) rfl (np 39 rfl ?_)
    refine r_iload_n (dc dkX12_rim 19 rfl) rfl (np 40 rfl ?_)
    refine r_pV2 (y' := miX0_rimOf) (dc dkX12_rim 20 rfl) mlX12_238 ceX0_rimOf ob_30 (Nat.le_of_ble_eq_true rfl) (Nat.le_of_ble_eq_true rfl) (c_X0_rimOf isBands_at30 hB (by omega) (by omega) (by omega)) (np 43 rfl ?_)
    exact r_iret (dc dkX12_rim 21 rfl) rfl ⟨congrArg (fun z => some (vI z)) (by first | (rw [gte_t ⟨h14, by omega⟩]; done) | (rw [gte_f (by omega)]; done)), rfl⟩
  refine r_iconst (dc dkX12_rim 12 rfl) (np 27 rfl ?_)
  exact r_iret (dc dkX12_rim 13 rfl) rfl ⟨congrArg (fun z => some (vI z)) (by first | (rw [gte_t ⟨h14, by omega⟩]; done) | (rw [gte_f (by omega)]; done)), rfl⟩
set_option maxRecDepth 100000 in
set_option maxHeartbeats 4000000 in
theorem c_X12_wide {σ : jS} (hB : okB σ 30) (hn : ∀ b, 0 ≤ b → b < σ 30 0 → 3 ≤ σ 32 b) {b : Int} (hb : iR b) : Jp 4 miX12_wide [.ref 0, vI b] σ (vI (gte (0 ≤ b ∧ b < σ 30 0) (wdN (bAt σ 30 b) (σ 32 b).toNat) (-1))) := by
  have m8 := hB.1
  refine jm_ofF (Po := (jP (vI (gte (0 ≤ b ∧ b < σ 30 0) (wdN (bAt σ 30 b) (σ 32 b).toNat) (-1))) σ)) (plainFor_of_name (by decide)) (Nat.le_of_ble_eq_true rfl) (lv := [(0, _), (1, _)]) rfl ?_
  refine r_aload_n (dc dkX12_wide 0 rfl) rfl (np 1 rfl ?_)
  refine r_getR (dc dkX12_wide 1 rfl) flX12_24 fd_0_2 (np 4 rfl ?_)
  refine r_getR (dc dkX12_wide 2 rfl) flX12_105 fd_27_1 (np 7 rfl ?_)
  refine r_getR (dc dkX12_wide 3 rfl) flX12_167 fd_28_9 (np 10 rfl ?_)
  refine r_iload_n (dc dkX12_wide 4 rfl) rfl (np 11 rfl ?_)
  refine r_pV1 (y' := miX0_has) (dc dkX12_wide 5 rfl) mlX12_171 ceX0_has ob_30 (Nat.le_of_ble_eq_true rfl) (Nat.le_of_ble_eq_true rfl) (c_X0_has isBands_at30 hB (by omega)) (np 14 rfl ?_)
  refine r_bz (tgt := 34) (dc dkX12_wide 6 rfl) rfl (fun h14 => ?_) (fun h14 => (np 17 rfl ?_))
  · skip
    refine r_iconst (dc dkX12_wide 14 rfl) (np 35 rfl ?_)
    exact r_iret (dc dkX12_wide 15 rfl) rfl ⟨congrArg (fun z => some (vI z)) (by first | (rw [gte_t h14]; done) | (rw [gte_f h14]; done)), rfl⟩
  refine r_aload_n (dc dkX12_wide 7 rfl) rfl (np 18 rfl ?_)
  refine r_getR (dc dkX12_wide 8 rfl) flX12_24 fd_0_2 (np 21 rfl ?_)
  refine r_getR (dc dkX12_wide 9 rfl) flX12_105 fd_27_1 (np 24 rfl ?_)
  refine r_getR (dc dkX12_wide 10 rfl) flX12_167 fd_28_9 (np 27 rfl ?_)
  refine r_iload_n (dc dkX12_wide 11 rfl) rfl (np 28 rfl ?_)
  refine r_pV1 (y' := miX0_widest) (dc dkX12_wide 12 rfl) mlX12_245 ceX0_widest ob_30 (Nat.le_of_ble_eq_true rfl) (Nat.le_of_ble_eq_true rfl) (c_X0_widest isBands_at30 hB (by omega) (by omega)) (np 31 rfl ?_)
  refine r_goto (tgt := 35) (dc dkX12_wide 13 rfl) rfl ?_
  exact r_iret (dc dkX12_wide 15 rfl) rfl ⟨congrArg (fun z => some (vI z)) (by first | (rw [gte_t h14]; done) | (rw [gte_f h14]; done)), rfl⟩
set_option maxRecDepth 100000 in
set_option maxHeartbeats 4000000 in
theorem c_X12_free {σ : jS} (hB : okB σ 30) (hn : ∀ b, 0 ≤ b → b < σ 30 0 → 3 ≤ σ 32 b) (hD : okD σ 28) : Jp 6 miX12_free [.ref 0] σ (vI (smI (fun p => bI (pkC σ 28 p = 1 ∧ ¬ ∃ b, 0 ≤ b ∧ b < σ 30 0 ∧ ¬ b = -1 ∧ hldB (σ 32 b) (bAt σ 30 b) p)) 100)) := by
  have m8 := hB.1
  refine jm_ofF (Po := (jP (vI (smI (fun p => bI (pkC σ 28 p = 1 ∧ ¬ ∃ b, 0 ≤ b ∧ b < σ 30 0 ∧ ¬ b = -1 ∧ hldB (σ 32 b) (bAt σ 30 b) p)) 100)) σ)) (plainFor_of_name (by decide)) (Nat.le_of_ble_eq_true rfl) (lv := [(0, _)]) rfl ?_
  refine r_aload_n (dc dkX12_free 0 rfl) rfl (np 1 rfl ?_)
  refine r_getR (dc dkX12_free 1 rfl) flX12_24 fd_0_2 (np 4 rfl ?_)
  refine r_getR (dc dkX12_free 2 rfl) flX12_105 fd_27_1 (np 7 rfl ?_)
  refine r_astore_n (lv' := [(1, _), (0, _)]) (dc dkX12_free 3 rfl) (Nat.le_of_ble_eq_true rfl) rfl (np 8 rfl ?_)
  refine r_iconst (dc dkX12_free 4 rfl) (np 9 rfl ?_)
  refine r_istore_n (lv' := [(2, _), (1, _), (0, _)]) (dc dkX12_free 5 rfl) (Nat.le_of_ble_eq_true rfl) rfl (np 10 rfl ?_)
  refine r_iconst (dc dkX12_free 6 rfl) (np 11 rfl ?_)
  refine r_istore_n (lv' := [(3, _), (2, _), (1, _), (0, _)]) (dc dkX12_free 7 rfl) (Nat.le_of_ble_eq_true rfl) rfl (np 12 rfl ?_)
  refine r_pick [3, 2, 1, 0] (lv' := [(0, _), (1, _), (2, _), (3, _)]) rfl ?_
  refine jlp2 (P := fun (s : Int) (i : Int) => jR _ _ _ 12 [(0, .ref 0), (1, .ref 28), (2, vI s), (3, vI i)] [] σ) (I := fun (s : Int) (i : Int) => (0 ≤ i ∧ i ≤ 100) ∧ s = smI (fun p => bI (pkC σ 28 p = 1 ∧ ¬ ∃ b, 0 ≤ b ∧ b < σ 30 0 ∧ ¬ b = -1 ∧ hldB (σ 32 b) (bAt σ 30 b) p)) i) (fun (s : Int) (i : Int) => (100 - i).toNat) ?_ _ _ ⟨by omega, rfl⟩
  intro s i hI12 ih12
  refine r_iload_n (dc dkX12_free 8 rfl) rfl (np 13 rfl ?_)
  refine r_bipush (dc dkX12_free 9 rfl) bp_100 (np 15 rfl ?_)
  refine r_icmp_ge (tgt := 48) (dc dkX12_free 10 rfl) rfl (by first | assumption | decide | omega) (by first | assumption | decide | omega) (fun h15 => ?_) (fun h15 => (np 18 rfl ?_))
  · skip
    refine r_iload_n (dc dkX12_free 25 rfl) rfl (np 49 rfl ?_)
    exact r_iret (dc dkX12_free 26 rfl) rfl ⟨congrArg (fun z => some (vI z)) (by rw [hI12.2, show i = 100 by omega]), rfl⟩
  refine r_aload_n (dc dkX12_free 11 rfl) rfl (np 19 rfl ?_)
  refine r_iload_n (dc dkX12_free 12 rfl) rfl (np 20 rfl ?_)
  refine r_pV1 (y' := miX1_pegAt) (dc dkX12_free 13 rfl) mlX12_163 ceX1_pegAt ob_28 (Nat.le_of_ble_eq_true rfl) (Nat.le_of_ble_eq_true rfl) (c_X1_pegAt isBoard_at28 hD (by omega)) (np 23 rfl ?_)
  have pb := pkG_b (σ 28 0) (σ 28 1) (outB σ 28) i
  replace pb : -1 ≤ pkC σ 28 i ∧ pkC σ 28 i ≤ 1 := pb
  refine r_iconst (dc dkX12_free 14 rfl) (np 24 rfl ?_)
  refine r_icmp_ne (tgt := 42) (dc dkX12_free 15 rfl) rfl (by first | assumption | decide | omega) (by first | assumption | decide | omega) (fun h24 => ?_) (fun h24 => (np 27 rfl ?_))
  · skip
    refine r_iinc (lv' := [(3, _), (0, _), (1, _), (2, _)]) (dc dkX12_free 23 rfl) (Nat.le_of_ble_eq_true rfl) rfl rfl (np 45 rfl ?_)
    refine r_goto (tgt := 12) (dc dkX12_free 24 rfl) rfl ?_
    refine r_pick [1, 2, 3, 0] rfl ?_
    exact ih12 _ _ ⟨by omega, by rw [smI_s _ (by omega), ← hI12.2]; first | (rw [bI_t ⟨h24, h36⟩]; done) | (rw [bI_f (fun z => h24 z.1), Int.add_zero]; done) | (rw [bI_f (fun z => z.2 h36), Int.add_zero]; done)⟩ (by omega)
  refine r_aload_n (dc dkX12_free 16 rfl) rfl (np 28 rfl ?_)
  refine r_getR (dc dkX12_free 17 rfl) flX12_167 fd_28_9 (np 31 rfl ?_)
  refine r_iload_n (dc dkX12_free 18 rfl) rfl (np 32 rfl ?_)
  refine r_iconst (dc dkX12_free 19 rfl) (np 33 rfl ?_)
  refine r_pV2 (y' := miX0_anyHolds) (dc dkX12_free 20 rfl) mlX12_248 ceX0_anyHolds ob_30 (Nat.le_of_ble_eq_true rfl) (Nat.le_of_ble_eq_true rfl) (c_X0_anyHolds isBands_at30 hB (by omega) (by decide)) (np 36 rfl ?_)
  refine r_bn (tgt := 42) (dc dkX12_free 21 rfl) rfl (fun h36 => ?_) (fun h36 => (np 39 rfl ?_))
  · skip
    refine r_iinc (lv' := [(3, _), (0, _), (1, _), (2, _)]) (dc dkX12_free 23 rfl) (Nat.le_of_ble_eq_true rfl) rfl rfl (np 45 rfl ?_)
    refine r_goto (tgt := 12) (dc dkX12_free 24 rfl) rfl ?_
    refine r_pick [1, 2, 3, 0] rfl ?_
    exact ih12 _ _ ⟨by omega, by rw [smI_s _ (by omega), ← hI12.2]; first | (rw [bI_t ⟨h24, h36⟩]; done) | (rw [bI_f (fun z => h24 z.1), Int.add_zero]; done) | (rw [bI_f (fun z => z.2 h36), Int.add_zero]; done)⟩ (by omega)
  refine r_iinc (lv' := [(2, _), (0, _), (1, _), (3, _)]) (dc dkX12_free 22 rfl) (Nat.le_of_ble_eq_true rfl) rfl rfl (np 42 rfl ?_)
  refine r_iinc (lv' := [(3, _), (2, _), (0, _), (1, _)]) (dc dkX12_free 23 rfl) (Nat.le_of_ble_eq_true rfl) rfl rfl (np 45 rfl ?_)
  refine r_goto (tgt := 12) (dc dkX12_free 24 rfl) rfl ?_
  refine r_pick [2, 3, 1, 0] rfl ?_
  exact ih12 _ _ ⟨by omega, by rw [smI_s _ (by omega), ← hI12.2]; first | (rw [bI_t ⟨h24, h36⟩]; done) | (rw [bI_f (fun z => h24 z.1), Int.add_zero]; done) | (rw [bI_f (fun z => z.2 h36), Int.add_zero]; done)⟩ (by omega)
set_option maxRecDepth 100000 in
set_option maxHeartbeats 4000000 in
theorem c_X12_count {σ : jS} (hD : okD σ 28) {w : Int} (hw : iR w) : Jp 1 miX12_count [.ref 0, vI w] σ (vI (if w = 0 then σ 28 0 else if w = 1 then σ 28 1 else if w = 2 then σ 30 0 else if w = 3 then σ 28 3 else if w = 4 then σ 28 2 else if w = 5 then σ 34 0 else if w = 6 then σ 27 3 else if w = 7 then σ 2 1 else -1)) := by
  have d2 := hD.2.2.1
  refine jm_ofF (Po := (jP (vI (if w = 0 then σ 28 0 else if w = 1 then σ 28 1 else if w = 2 then σ 30 0 else if w = 3 then σ 28 3 else if w = 4 then σ 28 2 else if w = 5 then σ 34 0 else if w = 6 then σ 27 3 else if w = 7 then σ 2 1 else -1)) σ)) (plainFor_of_name (by decide)) (Nat.le_of_ble_eq_true rfl) (lv := [(0, _), (1, _)]) rfl ?_
  refine r_iload_n (dc dkX12_count 0 rfl) rfl (np 1 rfl ?_)
  by_cases hs0 : w = 0
  · skip
    refine r_tableIn (tgt := 48) (off := 47) (dc dkX12_count 1 rfl) (by omega) (by omega) (by omega) (by rw [show ((w) - (0) : Int).toNat = 0 by omega]; rfl) rfl ?_
    refine r_aload_n (dc dkX12_count 2 rfl) rfl (np 49 rfl ?_)
    refine r_getR (dc dkX12_count 3 rfl) flX12_24 fd_0_2 (np 52 rfl ?_)
    refine r_getR (dc dkX12_count 4 rfl) flX12_105 fd_27_1 (np 55 rfl ?_)
    refine r_gI 0 (dc dkX12_count 5 rfl) flX12_394 fd_28_0 rfl (np 58 rfl ?_)
    exact r_iret (dc dkX12_count 6 rfl) rfl ⟨congrArg (fun z => some (vI z)) (by first | (rw [if_pos (by omega)]; done) | (rw [if_neg (by omega), if_pos (by omega)]; done) | (rw [if_neg (by omega), if_neg (by omega), if_pos (by omega)]; done) | (rw [if_neg (by omega), if_neg (by omega), if_neg (by omega), if_pos (by omega)]; done) | (rw [if_neg (by omega), if_neg (by omega), if_neg (by omega), if_neg (by omega), if_pos (by omega)]; done) | (rw [if_neg (by omega), if_neg (by omega), if_neg (by omega), if_neg (by omega), if_neg (by omega), if_pos (by omega)]; done) | (rw [if_neg (by omega), if_neg (by omega), if_neg (by omega), if_neg (by omega), if_neg (by omega), if_neg (by omega), if_pos (by omega)]; done) | (rw [if_neg (by omega), if_neg (by omega), if_neg (by omega), if_neg (by omega), if_neg (by omega), if_neg (by omega), if_neg (by omega), if_pos (by omega)]; done) | (rw [if_neg (by omega), if_neg (by omega), if_neg (by omega), if_neg (by omega), if_neg (by omega), if_neg (by omega), if_neg (by omega), if_neg (by omega)]; done) | (rw [if_neg (by omega), if_neg (by omega), if_neg (by omega), if_neg (by omega), if_pos (by omega)]; omega)), rfl⟩
  by_cases hs1 : w = 1
  · skip
    refine r_tableIn (tgt := 59) (off := 58) (dc dkX12_count 1 rfl) (by omega) (by omega) (by omega) (by rw [show ((w) - (0) : Int).toNat = 1 by omega]; rfl) rfl ?_
    refine r_aload_n (dc dkX12_count 7 rfl) rfl (np 60 rfl ?_)
    refine r_getR (dc dkX12_count 8 rfl) flX12_24 fd_0_2 (np 63 rfl ?_)
    refine r_getR (dc dkX12_count 9 rfl) flX12_105 fd_27_1 (np 66 rfl ?_)
    refine r_gI 1 (dc dkX12_count 10 rfl) flX12_397 fd_28_1 rfl (np 69 rfl ?_)
    exact r_iret (dc dkX12_count 11 rfl) rfl ⟨congrArg (fun z => some (vI z)) (by first | (rw [if_pos (by omega)]; done) | (rw [if_neg (by omega), if_pos (by omega)]; done) | (rw [if_neg (by omega), if_neg (by omega), if_pos (by omega)]; done) | (rw [if_neg (by omega), if_neg (by omega), if_neg (by omega), if_pos (by omega)]; done) | (rw [if_neg (by omega), if_neg (by omega), if_neg (by omega), if_neg (by omega), if_pos (by omega)]; done) | (rw [if_neg (by omega), if_neg (by omega), if_neg (by omega), if_neg (by omega), if_neg (by omega), if_pos (by omega)]; done) | (rw [if_neg (by omega), if_neg (by omega), if_neg (by omega), if_neg (by omega), if_neg (by omega), if_neg (by omega), if_pos (by omega)]; done) | (rw [if_neg (by omega), if_neg (by omega), if_neg (by omega), if_neg (by omega), if_neg (by omega), if_neg (by omega), if_neg (by omega), if_pos (by omega)]; done) | (rw [if_neg (by omega), if_neg (by omega), if_neg (by omega), if_neg (by omega), if_neg (by omega), if_neg (by omega), if_neg (by omega), if_neg (by omega)]; done) | (rw [if_neg (by omega), if_neg (by omega), if_neg (by omega), if_neg (by omega), if_pos (by omega)]; omega)), rfl⟩
  by_cases hs2 : w = 2
  · skip
    refine r_tableIn (tgt := 70) (off := 69) (dc dkX12_count 1 rfl) (by omega) (by omega) (by omega) (by rw [show ((w) - (0) : Int).toNat = 2 by omega]; rfl) rfl ?_
    refine r_aload_n (dc dkX12_count 12 rfl) rfl (np 71 rfl ?_)
    refine r_getR (dc dkX12_count 13 rfl) flX12_24 fd_0_2 (np 74 rfl ?_)
    refine r_getR (dc dkX12_count 14 rfl) flX12_105 fd_27_1 (np 77 rfl ?_)
    refine r_getR (dc dkX12_count 15 rfl) flX12_167 fd_28_9 (np 80 rfl ?_)
    refine r_gI 0 (dc dkX12_count 16 rfl) flX12_198 fd_30_0 rfl (np 83 rfl ?_)
    exact r_iret (dc dkX12_count 17 rfl) rfl ⟨congrArg (fun z => some (vI z)) (by first | (rw [if_pos (by omega)]; done) | (rw [if_neg (by omega), if_pos (by omega)]; done) | (rw [if_neg (by omega), if_neg (by omega), if_pos (by omega)]; done) | (rw [if_neg (by omega), if_neg (by omega), if_neg (by omega), if_pos (by omega)]; done) | (rw [if_neg (by omega), if_neg (by omega), if_neg (by omega), if_neg (by omega), if_pos (by omega)]; done) | (rw [if_neg (by omega), if_neg (by omega), if_neg (by omega), if_neg (by omega), if_neg (by omega), if_pos (by omega)]; done) | (rw [if_neg (by omega), if_neg (by omega), if_neg (by omega), if_neg (by omega), if_neg (by omega), if_neg (by omega), if_pos (by omega)]; done) | (rw [if_neg (by omega), if_neg (by omega), if_neg (by omega), if_neg (by omega), if_neg (by omega), if_neg (by omega), if_neg (by omega), if_pos (by omega)]; done) | (rw [if_neg (by omega), if_neg (by omega), if_neg (by omega), if_neg (by omega), if_neg (by omega), if_neg (by omega), if_neg (by omega), if_neg (by omega)]; done) | (rw [if_neg (by omega), if_neg (by omega), if_neg (by omega), if_neg (by omega), if_pos (by omega)]; omega)), rfl⟩
  by_cases hs3 : w = 3
  · skip
    refine r_tableIn (tgt := 84) (off := 83) (dc dkX12_count 1 rfl) (by omega) (by omega) (by omega) (by rw [show ((w) - (0) : Int).toNat = 3 by omega]; rfl) rfl ?_
    refine r_aload_n (dc dkX12_count 18 rfl) rfl (np 85 rfl ?_)
    refine r_getR (dc dkX12_count 19 rfl) flX12_24 fd_0_2 (np 88 rfl ?_)
    refine r_getR (dc dkX12_count 20 rfl) flX12_105 fd_27_1 (np 91 rfl ?_)
    refine r_gI 3 (dc dkX12_count 21 rfl) flX12_400 fd_28_3 rfl (np 94 rfl ?_)
    exact r_iret (dc dkX12_count 22 rfl) rfl ⟨congrArg (fun z => some (vI z)) (by first | (rw [if_pos (by omega)]; done) | (rw [if_neg (by omega), if_pos (by omega)]; done) | (rw [if_neg (by omega), if_neg (by omega), if_pos (by omega)]; done) | (rw [if_neg (by omega), if_neg (by omega), if_neg (by omega), if_pos (by omega)]; done) | (rw [if_neg (by omega), if_neg (by omega), if_neg (by omega), if_neg (by omega), if_pos (by omega)]; done) | (rw [if_neg (by omega), if_neg (by omega), if_neg (by omega), if_neg (by omega), if_neg (by omega), if_pos (by omega)]; done) | (rw [if_neg (by omega), if_neg (by omega), if_neg (by omega), if_neg (by omega), if_neg (by omega), if_neg (by omega), if_pos (by omega)]; done) | (rw [if_neg (by omega), if_neg (by omega), if_neg (by omega), if_neg (by omega), if_neg (by omega), if_neg (by omega), if_neg (by omega), if_pos (by omega)]; done) | (rw [if_neg (by omega), if_neg (by omega), if_neg (by omega), if_neg (by omega), if_neg (by omega), if_neg (by omega), if_neg (by omega), if_neg (by omega)]; done) | (rw [if_neg (by omega), if_neg (by omega), if_neg (by omega), if_neg (by omega), if_pos (by omega)]; omega)), rfl⟩
  by_cases hs4 : w = 4
  · skip
    refine r_tableIn (tgt := 95) (off := 94) (dc dkX12_count 1 rfl) (by omega) (by omega) (by omega) (by rw [show ((w) - (0) : Int).toNat = 4 by omega]; rfl) rfl ?_
    refine r_aload_n (dc dkX12_count 23 rfl) rfl (np 96 rfl ?_)
    refine r_getR (dc dkX12_count 24 rfl) flX12_24 fd_0_2 (np 99 rfl ?_)
    refine r_getR (dc dkX12_count 25 rfl) flX12_105 fd_27_1 (np 102 rfl ?_)
    refine r_gI 2 (dc dkX12_count 26 rfl) flX12_403 fd_28_2 rfl (np 105 rfl ?_)
    refine r_if_eq (tgt := 112) (dc dkX12_count 27 rfl) rfl (by first | assumption | decide | omega) (fun h105 => ?_) (fun h105 => (np 108 rfl ?_))
    · skip
      refine r_iconst (dc dkX12_count 30 rfl) (np 113 rfl ?_)
      exact r_iret (dc dkX12_count 31 rfl) rfl ⟨congrArg (fun z => some (vI z)) (by first | (rw [if_pos (by omega)]; done) | (rw [if_neg (by omega), if_pos (by omega)]; done) | (rw [if_neg (by omega), if_neg (by omega), if_pos (by omega)]; done) | (rw [if_neg (by omega), if_neg (by omega), if_neg (by omega), if_pos (by omega)]; done) | (rw [if_neg (by omega), if_neg (by omega), if_neg (by omega), if_neg (by omega), if_pos (by omega)]; done) | (rw [if_neg (by omega), if_neg (by omega), if_neg (by omega), if_neg (by omega), if_neg (by omega), if_pos (by omega)]; done) | (rw [if_neg (by omega), if_neg (by omega), if_neg (by omega), if_neg (by omega), if_neg (by omega), if_neg (by omega), if_pos (by omega)]; done) | (rw [if_neg (by omega), if_neg (by omega), if_neg (by omega), if_neg (by omega), if_neg (by omega), if_neg (by omega), if_neg (by omega), if_pos (by omega)]; done) | (rw [if_neg (by omega), if_neg (by omega), if_neg (by omega), if_neg (by omega), if_neg (by omega), if_neg (by omega), if_neg (by omega), if_neg (by omega)]; done) | (rw [if_neg (by omega), if_neg (by omega), if_neg (by omega), if_neg (by omega), if_pos (by omega)]; omega)), rfl⟩
    refine r_iconst (dc dkX12_count 28 rfl) (np 109 rfl ?_)
    refine r_goto (tgt := 113) (dc dkX12_count 29 rfl) rfl ?_
    exact r_iret (dc dkX12_count 31 rfl) rfl ⟨congrArg (fun z => some (vI z)) (by first | (rw [if_pos (by omega)]; done) | (rw [if_neg (by omega), if_pos (by omega)]; done) | (rw [if_neg (by omega), if_neg (by omega), if_pos (by omega)]; done) | (rw [if_neg (by omega), if_neg (by omega), if_neg (by omega), if_pos (by omega)]; done) | (rw [if_neg (by omega), if_neg (by omega), if_neg (by omega), if_neg (by omega), if_pos (by omega)]; done) | (rw [if_neg (by omega), if_neg (by omega), if_neg (by omega), if_neg (by omega), if_neg (by omega), if_pos (by omega)]; done) | (rw [if_neg (by omega), if_neg (by omega), if_neg (by omega), if_neg (by omega), if_neg (by omega), if_neg (by omega), if_pos (by omega)]; done) | (rw [if_neg (by omega), if_neg (by omega), if_neg (by omega), if_neg (by omega), if_neg (by omega), if_neg (by omega), if_neg (by omega), if_pos (by omega)]; done) | (rw [if_neg (by omega), if_neg (by omega), if_neg (by omega), if_neg (by omega), if_neg (by omega), if_neg (by omega), if_neg (by omega), if_neg (by omega)]; done) | (rw [if_neg (by omega), if_neg (by omega), if_neg (by omega), if_neg (by omega), if_pos (by omega)]; omega)), rfl⟩
  by_cases hs5 : w = 5
  · skip
    refine r_tableIn (tgt := 114) (off := 113) (dc dkX12_count 1 rfl) (by omega) (by omega) (by omega) (by rw [show ((w) - (0) : Int).toNat = 5 by omega]; rfl) rfl ?_
    refine r_aload_n (dc dkX12_count 32 rfl) rfl (np 115 rfl ?_)
    refine r_getR (dc dkX12_count 33 rfl) flX12_24 fd_0_2 (np 118 rfl ?_)
    refine r_getR (dc dkX12_count 34 rfl) flX12_142 fd_27_2 (np 121 rfl ?_)
    refine r_gI 0 (dc dkX12_count 35 rfl) flX12_146 fd_34_0 rfl (np 124 rfl ?_)
    exact r_iret (dc dkX12_count 36 rfl) rfl ⟨congrArg (fun z => some (vI z)) (by first | (rw [if_pos (by omega)]; done) | (rw [if_neg (by omega), if_pos (by omega)]; done) | (rw [if_neg (by omega), if_neg (by omega), if_pos (by omega)]; done) | (rw [if_neg (by omega), if_neg (by omega), if_neg (by omega), if_pos (by omega)]; done) | (rw [if_neg (by omega), if_neg (by omega), if_neg (by omega), if_neg (by omega), if_pos (by omega)]; done) | (rw [if_neg (by omega), if_neg (by omega), if_neg (by omega), if_neg (by omega), if_neg (by omega), if_pos (by omega)]; done) | (rw [if_neg (by omega), if_neg (by omega), if_neg (by omega), if_neg (by omega), if_neg (by omega), if_neg (by omega), if_pos (by omega)]; done) | (rw [if_neg (by omega), if_neg (by omega), if_neg (by omega), if_neg (by omega), if_neg (by omega), if_neg (by omega), if_neg (by omega), if_pos (by omega)]; done) | (rw [if_neg (by omega), if_neg (by omega), if_neg (by omega), if_neg (by omega), if_neg (by omega), if_neg (by omega), if_neg (by omega), if_neg (by omega)]; done) | (rw [if_neg (by omega), if_neg (by omega), if_neg (by omega), if_neg (by omega), if_pos (by omega)]; omega)), rfl⟩
  by_cases hs6 : w = 6
  · skip
    refine r_tableIn (tgt := 125) (off := 124) (dc dkX12_count 1 rfl) (by omega) (by omega) (by omega) (by rw [show ((w) - (0) : Int).toNat = 6 by omega]; rfl) rfl ?_
    refine r_aload_n (dc dkX12_count 37 rfl) rfl (np 126 rfl ?_)
    refine r_getR (dc dkX12_count 38 rfl) flX12_24 fd_0_2 (np 129 rfl ?_)
    refine r_gI 3 (dc dkX12_count 39 rfl) flX12_151 fd_27_3 rfl (np 132 rfl ?_)
    exact r_iret (dc dkX12_count 40 rfl) rfl ⟨congrArg (fun z => some (vI z)) (by first | (rw [if_pos (by omega)]; done) | (rw [if_neg (by omega), if_pos (by omega)]; done) | (rw [if_neg (by omega), if_neg (by omega), if_pos (by omega)]; done) | (rw [if_neg (by omega), if_neg (by omega), if_neg (by omega), if_pos (by omega)]; done) | (rw [if_neg (by omega), if_neg (by omega), if_neg (by omega), if_neg (by omega), if_pos (by omega)]; done) | (rw [if_neg (by omega), if_neg (by omega), if_neg (by omega), if_neg (by omega), if_neg (by omega), if_pos (by omega)]; done) | (rw [if_neg (by omega), if_neg (by omega), if_neg (by omega), if_neg (by omega), if_neg (by omega), if_neg (by omega), if_pos (by omega)]; done) | (rw [if_neg (by omega), if_neg (by omega), if_neg (by omega), if_neg (by omega), if_neg (by omega), if_neg (by omega), if_neg (by omega), if_pos (by omega)]; done) | (rw [if_neg (by omega), if_neg (by omega), if_neg (by omega), if_neg (by omega), if_neg (by omega), if_neg (by omega), if_neg (by omega), if_neg (by omega)]; done) | (rw [if_neg (by omega), if_neg (by omega), if_neg (by omega), if_neg (by omega), if_pos (by omega)]; omega)), rfl⟩
  by_cases hs7 : w = 7
  · skip
    refine r_tableIn (tgt := 133) (off := 132) (dc dkX12_count 1 rfl) (by omega) (by omega) (by omega) (by rw [show ((w) - (0) : Int).toNat = 7 by omega]; rfl) rfl ?_
    refine r_aload_n (dc dkX12_count 41 rfl) rfl (np 134 rfl ?_)
    refine r_getR (dc dkX12_count 42 rfl) flX12_20 fd_0_1 (np 137 rfl ?_)
    refine r_gI 1 (dc dkX12_count 43 rfl) flX12_99 fd_2_1 rfl (np 140 rfl ?_)
    exact r_iret (dc dkX12_count 44 rfl) rfl ⟨congrArg (fun z => some (vI z)) (by first | (rw [if_pos (by omega)]; done) | (rw [if_neg (by omega), if_pos (by omega)]; done) | (rw [if_neg (by omega), if_neg (by omega), if_pos (by omega)]; done) | (rw [if_neg (by omega), if_neg (by omega), if_neg (by omega), if_pos (by omega)]; done) | (rw [if_neg (by omega), if_neg (by omega), if_neg (by omega), if_neg (by omega), if_pos (by omega)]; done) | (rw [if_neg (by omega), if_neg (by omega), if_neg (by omega), if_neg (by omega), if_neg (by omega), if_pos (by omega)]; done) | (rw [if_neg (by omega), if_neg (by omega), if_neg (by omega), if_neg (by omega), if_neg (by omega), if_neg (by omega), if_pos (by omega)]; done) | (rw [if_neg (by omega), if_neg (by omega), if_neg (by omega), if_neg (by omega), if_neg (by omega), if_neg (by omega), if_neg (by omega), if_pos (by omega)]; done) | (rw [if_neg (by omega), if_neg (by omega), if_neg (by omega), if_neg (by omega), if_neg (by omega), if_neg (by omega), if_neg (by omega), if_neg (by omega)]; done) | (rw [if_neg (by omega), if_neg (by omega), if_neg (by omega), if_neg (by omega), if_pos (by omega)]; omega)), rfl⟩
  refine r_tableOut (tgt := 141) (dc dkX12_count 1 rfl) (by first | assumption | decide | omega) (by omega) rfl ?_
  refine r_iconst (dc dkX12_count 45 rfl) (np 142 rfl ?_)
  exact r_iret (dc dkX12_count 46 rfl) rfl ⟨congrArg (fun z => some (vI z)) (by first | (rw [if_pos (by omega)]; done) | (rw [if_neg (by omega), if_pos (by omega)]; done) | (rw [if_neg (by omega), if_neg (by omega), if_pos (by omega)]; done) | (rw [if_neg (by omega), if_neg (by omega), if_neg (by omega), if_pos (by omega)]; done) | (rw [if_neg (by omega), if_neg (by omega), if_neg (by omega), if_neg (by omega), if_pos (by omega)]; done) | (rw [if_neg (by omega), if_neg (by omega), if_neg (by omega), if_neg (by omega), if_neg (by omega), if_pos (by omega)]; done) | (rw [if_neg (by omega), if_neg (by omega), if_neg (by omega), if_neg (by omega), if_neg (by omega), if_neg (by omega), if_pos (by omega)]; done) | (rw [if_neg (by omega), if_neg (by omega), if_neg (by omega), if_neg (by omega), if_neg (by omega), if_neg (by omega), if_neg (by omega), if_pos (by omega)]; done) | (rw [if_neg (by omega), if_neg (by omega), if_neg (by omega), if_neg (by omega), if_neg (by omega), if_neg (by omega), if_neg (by omega), if_neg (by omega)]; done) | (rw [if_neg (by omega), if_neg (by omega), if_neg (by omega), if_neg (by omega), if_pos (by omega)]; omega)), rfl⟩
set_option maxRecDepth 100000 in
set_option maxHeartbeats 4000000 in
theorem c_X12_again {σ : jS} : Jm 1 miX12_again [.ref 0] σ (fun r τ => r = some (vI (σ 27 3)) ∧ τ = ju σ 27 3 0) := by
  refine jm_ofF (Po := (fun r τ => r = some (vI (σ 27 3)) ∧ τ = ju σ 27 3 0)) (plainFor_of_name (by decide)) (Nat.le_of_ble_eq_true rfl) (lv := [(0, _)]) rfl ?_
  refine r_aload_n (dc dkX12_again 0 rfl) rfl (np 1 rfl ?_)
  refine r_getR (dc dkX12_again 1 rfl) flX12_24 fd_0_2 (np 4 rfl ?_)
  refine r_gI 3 (dc dkX12_again 2 rfl) flX12_151 fd_27_3 rfl (np 7 rfl ?_)
  refine r_istore_n (lv' := [(1, _), (0, _)]) (dc dkX12_again 3 rfl) (Nat.le_of_ble_eq_true rfl) rfl (np 8 rfl ?_)
  refine r_aload_n (dc dkX12_again 4 rfl) rfl (np 9 rfl ?_)
  refine r_getR (dc dkX12_again 5 rfl) flX12_24 fd_0_2 (np 12 rfl ?_)
  refine r_iconst (dc dkX12_again 6 rfl) (np 13 rfl ?_)
  refine r_pI 3 (dc dkX12_again 7 rfl) fpX12_151 fd_27_3 rfl (np 16 rfl ?_)
  refine r_iload_n (dc dkX12_again 8 rfl) rfl (np 17 rfl ?_)
  exact r_iret (dc dkX12_again 9 rfl) rfl ⟨rfl, rfl⟩
set_option maxRecDepth 100000 in
set_option maxHeartbeats 4000000 in
theorem c_X12_crossingsOfAll {σ : jS} (hB : okB σ 30) (hn : ∀ b, 0 ≤ b → b < σ 30 0 → 3 ≤ σ 32 b) {b : Int} (h0 : 0 ≤ b) (h1 : b < σ 30 0) : Jp 4 miX12_crossingsOfAll [.ref 0, vI b] σ (vI (smI (fun x => gte (x = b) 0 (meetN (σ 32 b) (bAt σ 30 b) (σ 32 x) (bAt σ 30 x) 1)) (σ 30 0))) := by
  have m8 := hB.1
  refine jm_ofF (Po := (jP (vI (smI (fun x => gte (x = b) 0 (meetN (σ 32 b) (bAt σ 30 b) (σ 32 x) (bAt σ 30 x) 1)) (σ 30 0))) σ)) (plainFor_of_name (by decide)) (Nat.le_of_ble_eq_true rfl) (lv := [(0, _), (1, _)]) rfl ?_
  refine r_aload_n (dc dkX12_crossingsOfAll 0 rfl) rfl (np 1 rfl ?_)
  refine r_getR (dc dkX12_crossingsOfAll 1 rfl) flX12_24 fd_0_2 (np 4 rfl ?_)
  refine r_getR (dc dkX12_crossingsOfAll 2 rfl) flX12_105 fd_27_1 (np 7 rfl ?_)
  refine r_getR (dc dkX12_crossingsOfAll 3 rfl) flX12_167 fd_28_9 (np 10 rfl ?_)
  refine r_astore_n (lv' := [(2, _), (0, _), (1, _)]) (dc dkX12_crossingsOfAll 4 rfl) (Nat.le_of_ble_eq_true rfl) rfl (np 11 rfl ?_)
  refine r_iconst (dc dkX12_crossingsOfAll 5 rfl) (np 12 rfl ?_)
  refine r_istore_n (lv' := [(3, _), (2, _), (0, _), (1, _)]) (dc dkX12_crossingsOfAll 6 rfl) (Nat.le_of_ble_eq_true rfl) rfl (np 13 rfl ?_)
  refine r_iconst (dc dkX12_crossingsOfAll 7 rfl) (np 14 rfl ?_)
  refine r_istore (lv' := [(4, _), (3, _), (2, _), (0, _), (1, _)]) (dc dkX12_crossingsOfAll 8 rfl) (Nat.le_of_ble_eq_true rfl) rfl (np 16 rfl ?_)
  refine r_pick [3, 4, 2, 1, 0] (lv' := [(0, _), (1, _), (2, _), (3, _), (4, _)]) rfl ?_
  refine jlp2 (P := fun (s : Int) (i : Int) => jR _ _ _ 16 [(0, .ref 0), (1, vI b), (2, .ref 30), (3, vI s), (4, vI i)] [] σ) (I := fun (s : Int) (i : Int) => (0 ≤ i ∧ i ≤ σ 30 0) ∧ s = smI (fun x => gte (x = b) 0 (meetN (σ 32 b) (bAt σ 30 b) (σ 32 x) (bAt σ 30 x) 1)) i) (fun (s : Int) (i : Int) => (σ 30 0 - i).toNat) ?_ _ _ ⟨by omega, rfl⟩
  intro s i hI16 ih16
  refine r_iload (dc dkX12_crossingsOfAll 9 rfl) rfl (np 18 rfl ?_)
  refine r_aload_n (dc dkX12_crossingsOfAll 10 rfl) rfl (np 19 rfl ?_)
  refine r_gI 0 (dc dkX12_crossingsOfAll 11 rfl) flX12_198 fd_30_0 rfl (np 22 rfl ?_)
  refine r_icmp_ge (tgt := 48) (dc dkX12_crossingsOfAll 12 rfl) rfl (by first | assumption | decide | omega) (by first | assumption | decide | omega) (fun h22 => ?_) (fun h22 => (np 25 rfl ?_))
  · skip
    refine r_iload_n (dc dkX12_crossingsOfAll 26 rfl) rfl (np 49 rfl ?_)
    exact r_iret (dc dkX12_crossingsOfAll 27 rfl) rfl ⟨congrArg (fun z => some (vI z)) (by rw [hI16.2, show i = σ 30 0 by omega]), rfl⟩
  refine r_iload (dc dkX12_crossingsOfAll 13 rfl) rfl (np 27 rfl ?_)
  refine r_iload_n (dc dkX12_crossingsOfAll 14 rfl) rfl (np 28 rfl ?_)
  refine r_icmp_eq (tgt := 42) (dc dkX12_crossingsOfAll 15 rfl) rfl (by first | assumption | decide | omega) (by first | assumption | decide | omega) (fun h28 => ?_) (fun h28 => (np 31 rfl ?_))
  · skip
    refine r_iinc (lv' := [(4, _), (0, _), (1, _), (2, _), (3, _)]) (dc dkX12_crossingsOfAll 24 rfl) (Nat.le_of_ble_eq_true rfl) rfl rfl (np 45 rfl ?_)
    refine r_goto (tgt := 16) (dc dkX12_crossingsOfAll 25 rfl) rfl ?_
    refine r_pick [1, 2, 3, 4, 0] rfl ?_
    exact ih16 _ _ ⟨by omega, by rw [smI_s _ (by omega), ← hI16.2]; first | (rw [gte_t (by omega), Int.add_zero]; done) | (rw [gte_f (by omega)]; done)⟩ (by omega)
  refine r_iload_n (dc dkX12_crossingsOfAll 16 rfl) rfl (np 32 rfl ?_)
  refine r_aload_n (dc dkX12_crossingsOfAll 17 rfl) rfl (np 33 rfl ?_)
  refine r_iload_n (dc dkX12_crossingsOfAll 18 rfl) rfl (np 34 rfl ?_)
  refine r_iload (dc dkX12_crossingsOfAll 19 rfl) rfl (np 36 rfl ?_)
  refine r_iconst (dc dkX12_crossingsOfAll 20 rfl) (np 37 rfl ?_)
  refine r_pV3 (y' := miX0_meetings) (dc dkX12_crossingsOfAll 21 rfl) mlX12_199 ceX0_meetings ob_30 (Nat.le_of_ble_eq_true rfl) (Nat.le_of_ble_eq_true rfl) (c_X0_meetings isBands_at30 hB (by omega) (by omega) (by omega) (by omega) (by decide)) (np 40 rfl ?_)
  refine r_iadd (dc dkX12_crossingsOfAll 22 rfl) (np 41 rfl ?_)
  refine r_istore_n (lv' := [(3, _), (0, _), (1, _), (2, _), (4, _)]) (dc dkX12_crossingsOfAll 23 rfl) (Nat.le_of_ble_eq_true rfl) rfl (np 42 rfl ?_)
  refine r_iinc (lv' := [(4, _), (3, _), (0, _), (1, _), (2, _)]) (dc dkX12_crossingsOfAll 24 rfl) (Nat.le_of_ble_eq_true rfl) rfl rfl (np 45 rfl ?_)
  refine r_goto (tgt := 16) (dc dkX12_crossingsOfAll 25 rfl) rfl ?_
  refine r_pick [2, 3, 4, 1, 0] rfl ?_
  exact ih16 _ _ ⟨by omega, by rw [smI_s _ (by omega), ← hI16.2]; first | (rw [gte_t (by omega), Int.add_zero]; done) | (rw [gte_f (by omega)]; done)⟩ (by omega)
set_option maxRecDepth 100000 in
set_option maxHeartbeats 4000000 in
theorem c_X12_byteAt {σ : jS} (hY : okY σ 4) {i : Int} (hi : iR i) : Jp 2 miX12_byteAt [.ref 0, vI i] σ (vI (if 0 ≤ i ∧ i < σ 4 1 then σ 5 i % 256 else -1)) := by
  refine jm_ofF (Po := (jP (vI (if 0 ≤ i ∧ i < σ 4 1 then σ 5 i % 256 else -1)) σ)) (plainFor_of_name (by decide)) (Nat.le_of_ble_eq_true rfl) (lv := [(0, _), (1, _)]) rfl ?_
  refine r_aload_n (dc dkX12_byteAt 0 rfl) rfl (np 1 rfl ?_)
  refine r_getR (dc dkX12_byteAt 1 rfl) flX12_61 fd_0_9 (np 4 rfl ?_)
  refine r_iload_n (dc dkX12_byteAt 2 rfl) rfl (np 5 rfl ?_)
  refine r_pV1 (y' := miX2_at) (dc dkX12_byteAt 3 rfl) mlX12_311 ceX2_at ob_4 (Nat.le_of_ble_eq_true rfl) (Nat.le_of_ble_eq_true rfl) (c_X2_at isBytes_at4 hY hi) (np 8 rfl ?_)
  exact r_iret (dc dkX12_byteAt 4 rfl) rfl ⟨rfl, rfl⟩
set_option maxRecDepth 100000 in
set_option maxHeartbeats 4000000 in
theorem c_X12_end {σ : jS} (hL : cB 640 (σ 2 1)) {n : Int} (hn : iR n) : Jm 1 miX12_end [.ref 0, vI n] σ (fun r τ => r = some (vI (bI (0 ≤ n ∧ n ≤ σ 2 1))) ∧ τ = gte (0 ≤ n ∧ n ≤ σ 2 1) (ju σ 2 1 n) σ) := by
  refine jm_ofF (Po := (fun r τ => r = some (vI (bI (0 ≤ n ∧ n ≤ σ 2 1))) ∧ τ = gte (0 ≤ n ∧ n ≤ σ 2 1) (ju σ 2 1 n) σ)) (plainFor_of_name (by decide)) (Nat.le_of_ble_eq_true rfl) (lv := [(0, _), (1, _)]) rfl ?_
  refine r_iload_n (dc dkX12_end 0 rfl) rfl (np 1 rfl ?_)
  refine r_if_lt (tgt := 15) (dc dkX12_end 1 rfl) rfl (by first | assumption | decide | omega) (fun h1 => ?_) (fun h1 => (np 4 rfl ?_))
  · skip
    refine r_iconst (dc dkX12_end 7 rfl) (np 16 rfl ?_)
    exact r_zret (dc dkX12_end 8 rfl) rfl (by first | exact Or.inl rfl | exact Or.inr rfl) (by first | exact ⟨by rw [bI_t (by omega)], by rw [gte_t (by omega)]⟩ | exact ⟨by rw [bI_f (by omega)], by rw [gte_f (by omega)]⟩)
  refine r_iload_n (dc dkX12_end 2 rfl) rfl (np 5 rfl ?_)
  refine r_aload_n (dc dkX12_end 3 rfl) rfl (np 6 rfl ?_)
  refine r_getR (dc dkX12_end 4 rfl) flX12_20 fd_0_1 (np 9 rfl ?_)
  refine r_gI 1 (dc dkX12_end 5 rfl) flX12_99 fd_2_1 rfl (np 12 rfl ?_)
  refine r_icmp_le (tgt := 17) (dc dkX12_end 6 rfl) rfl (by first | assumption | decide | omega) (by first | assumption | decide | omega) (fun h12 => ?_) (fun h12 => (np 15 rfl ?_))
  · skip
    refine r_aload_n (dc dkX12_end 9 rfl) rfl (np 18 rfl ?_)
    refine r_getR (dc dkX12_end 10 rfl) flX12_20 fd_0_1 (np 21 rfl ?_)
    refine r_iload_n (dc dkX12_end 11 rfl) rfl (np 22 rfl ?_)
    refine r_pI 1 (dc dkX12_end 12 rfl) fpX12_99 fd_2_1 rfl (np 25 rfl ?_)
    refine r_iconst (dc dkX12_end 13 rfl) (np 26 rfl ?_)
    exact r_zret (dc dkX12_end 14 rfl) rfl (by first | exact Or.inl rfl | exact Or.inr rfl) (by first | exact ⟨by rw [bI_t (by omega)], by rw [gte_t (by omega)]⟩ | exact ⟨by rw [bI_f (by omega)], by rw [gte_f (by omega)]⟩)
  refine r_iconst (dc dkX12_end 7 rfl) (np 16 rfl ?_)
  exact r_zret (dc dkX12_end 8 rfl) rfl (by first | exact Or.inl rfl | exact Or.inr rfl) (by first | exact ⟨by rw [bI_t (by omega)], by rw [gte_t (by omega)]⟩ | exact ⟨by rw [bI_f (by omega)], by rw [gte_f (by omega)]⟩)
set_option maxRecDepth 100000 in
set_option maxHeartbeats 4000000 in
theorem c_X12_alike {σ : jS} (hB : okB σ 30) (hn : ∀ b, 0 ≤ b → b < σ 30 0 → 3 ≤ σ 32 b) {a b w : Int} (ha : iR a) (hb : iR b) (hw : iR w) : Jm 6 miX12_alike [.ref 0, vI a, vI b, vI w] σ (fun r τ => same [11, 12, 13, 14] σ τ ∧ r = some (vI (gte ((0 ≤ a ∧ a < σ 30 0) ∧ (0 ≤ b ∧ b < σ 30 0) ∧ 0 ≤ w ∧ w ≤ 2) (bI (alk (σ 32 a) (bAt σ 30 a) (σ 32 b) (bAt σ 30 b) (lPs w))) (-1)))) := by
  have m8 := hB.1
  refine jm_ofF (Po := (fun r τ => same [11, 12, 13, 14] σ τ ∧ r = some (vI (gte ((0 ≤ a ∧ a < σ 30 0) ∧ (0 ≤ b ∧ b < σ 30 0) ∧ 0 ≤ w ∧ w ≤ 2) (bI (alk (σ 32 a) (bAt σ 30 a) (σ 32 b) (bAt σ 30 b) (lPs w))) (-1))))) (plainFor_of_name (by decide)) (Nat.le_of_ble_eq_true rfl) (lv := [(0, _), (1, _), (2, _), (3, _)]) rfl ?_
  refine r_aload_n (dc dkX12_alike 0 rfl) rfl (np 1 rfl ?_)
  refine r_getR (dc dkX12_alike 1 rfl) flX12_24 fd_0_2 (np 4 rfl ?_)
  refine r_getR (dc dkX12_alike 2 rfl) flX12_105 fd_27_1 (np 7 rfl ?_)
  refine r_getR (dc dkX12_alike 3 rfl) flX12_167 fd_28_9 (np 10 rfl ?_)
  refine r_astore (lv' := [(4, _), (0, _), (1, _), (2, _), (3, _)]) (dc dkX12_alike 4 rfl) (Nat.le_of_ble_eq_true rfl) rfl (np 12 rfl ?_)
  refine r_aload (dc dkX12_alike 5 rfl) rfl (np 14 rfl ?_)
  refine r_iload_n (dc dkX12_alike 6 rfl) rfl (np 15 rfl ?_)
  refine r_pV1 (y' := miX0_has) (dc dkX12_alike 7 rfl) mlX12_171 ceX0_has ob_30 (Nat.le_of_ble_eq_true rfl) (Nat.le_of_ble_eq_true rfl) (c_X0_has isBands_at30 hB (by omega)) (np 18 rfl ?_)
  refine r_bz (tgt := 39) (dc dkX12_alike 8 rfl) rfl (fun h18 => ?_) (fun h18 => (np 21 rfl ?_))
  · skip
    refine r_iconst (dc dkX12_alike 18 rfl) (np 40 rfl ?_)
    exact r_iret (dc dkX12_alike 19 rfl) rfl (by first | exact ⟨hs2, by rw [gte_t ⟨h18, h27, by omega⟩]; first | rw [bI_t h53] | rw [bI_f h53]⟩ | exact ⟨same.refl _ _, by rw [gte_f (by omega)]⟩)
  refine r_aload (dc dkX12_alike 9 rfl) rfl (np 23 rfl ?_)
  refine r_iload_n (dc dkX12_alike 10 rfl) rfl (np 24 rfl ?_)
  refine r_pV1 (y' := miX0_has) (dc dkX12_alike 11 rfl) mlX12_171 ceX0_has ob_30 (Nat.le_of_ble_eq_true rfl) (Nat.le_of_ble_eq_true rfl) (c_X0_has isBands_at30 hB (by omega)) (np 27 rfl ?_)
  refine r_bz (tgt := 39) (dc dkX12_alike 12 rfl) rfl (fun h27 => ?_) (fun h27 => (np 30 rfl ?_))
  · skip
    refine r_iconst (dc dkX12_alike 18 rfl) (np 40 rfl ?_)
    exact r_iret (dc dkX12_alike 19 rfl) rfl (by first | exact ⟨hs2, by rw [gte_t ⟨h18, h27, by omega⟩]; first | rw [bI_t h53] | rw [bI_f h53]⟩ | exact ⟨same.refl _ _, by rw [gte_f (by omega)]⟩)
  refine r_iload_n (dc dkX12_alike 13 rfl) rfl (np 31 rfl ?_)
  refine r_if_lt (tgt := 39) (dc dkX12_alike 14 rfl) rfl (by first | assumption | decide | omega) (fun h31 => ?_) (fun h31 => (np 34 rfl ?_))
  · skip
    refine r_iconst (dc dkX12_alike 18 rfl) (np 40 rfl ?_)
    exact r_iret (dc dkX12_alike 19 rfl) rfl (by first | exact ⟨hs2, by rw [gte_t ⟨h18, h27, by omega⟩]; first | rw [bI_t h53] | rw [bI_f h53]⟩ | exact ⟨same.refl _ _, by rw [gte_f (by omega)]⟩)
  refine r_iload_n (dc dkX12_alike 15 rfl) rfl (np 35 rfl ?_)
  refine r_iconst (dc dkX12_alike 16 rfl) (np 36 rfl ?_)
  refine r_icmp_le (tgt := 41) (dc dkX12_alike 17 rfl) rfl (by first | assumption | decide | omega) (by first | assumption | decide | omega) (fun h36 => ?_) (fun h36 => (np 39 rfl ?_))
  · skip
    refine r_aload_n (dc dkX12_alike 20 rfl) rfl (np 42 rfl ?_)
    refine r_getR (dc dkX12_alike 21 rfl) flX12_52 fd_0_8 (np 45 rfl ?_)
    refine r_aload (dc dkX12_alike 22 rfl) rfl (np 47 rfl ?_)
    refine r_iload_n (dc dkX12_alike 23 rfl) rfl (np 48 rfl ?_)
    refine r_iload_n (dc dkX12_alike 24 rfl) rfl (np 49 rfl ?_)
    refine r_iload_n (dc dkX12_alike 25 rfl) rfl (np 50 rfl ?_)
    refine r_cV4 (y' := miX10_areAlike) (dc dkX12_alike 26 rfl) mlX12_225 ceX10_areAlike ob_9 (Nat.le_of_ble_eq_true rfl) (Nat.le_of_ble_eq_true rfl) (c_X10_areAlike hB (by omega) (by omega) (hn a (by omega) (by omega)) (by omega) (by omega) (hn b (by omega) (by omega)) (by omega)) (fun r τ2 hp2 => (np 53 rfl ?_))
    obtain ⟨rfl, hs2⟩ := hp2
    refine r_bz (tgt := 60) (dc dkX12_alike 27 rfl) rfl (fun h53 => ?_) (fun h53 => (np 56 rfl ?_))
    · skip
      refine r_iconst (dc dkX12_alike 30 rfl) (np 61 rfl ?_)
      exact r_iret (dc dkX12_alike 31 rfl) rfl (by first | exact ⟨hs2, by rw [gte_t ⟨h18, h27, by omega⟩]; first | rw [bI_t h53] | rw [bI_f h53]⟩ | exact ⟨same.refl _ _, by rw [gte_f (by omega)]⟩)
    refine r_iconst (dc dkX12_alike 28 rfl) (np 57 rfl ?_)
    refine r_goto (tgt := 61) (dc dkX12_alike 29 rfl) rfl ?_
    exact r_iret (dc dkX12_alike 31 rfl) rfl (by first | exact ⟨hs2, by rw [gte_t ⟨h18, h27, by omega⟩]; first | rw [bI_t h53] | rw [bI_f h53]⟩ | exact ⟨same.refl _ _, by rw [gte_f (by omega)]⟩)
  refine r_iconst (dc dkX12_alike 18 rfl) (np 40 rfl ?_)
  exact r_iret (dc dkX12_alike 19 rfl) rfl (by first | exact ⟨hs2, by rw [gte_t ⟨h18, h27, by omega⟩]; first | rw [bI_t h53] | rw [bI_f h53]⟩ | exact ⟨same.refl _ _, by rw [gte_f (by omega)]⟩)
set_option maxRecDepth 100000 in
set_option maxHeartbeats 4000000 in
theorem c_X12_even {σ : jS} (hB : okB σ 30) (hn : ∀ b, 0 ≤ b → b < σ 30 0 → 3 ≤ σ 32 b) {b w : Int} (hb : iR b) (hw : iR w) : Jm 6 miX12_even [.ref 0, vI b, vI w] σ (fun r τ => same [11, 12, 13, 14] σ τ ∧ r = some (vI (gte ((0 ≤ b ∧ b < σ 30 0) ∧ 0 ≤ w ∧ w ≤ 2) (bI (evB (σ 32 b) (bAt σ 30 b) w)) (-1)))) := by
  have m8 := hB.1
  refine jm_ofF (Po := (fun r τ => same [11, 12, 13, 14] σ τ ∧ r = some (vI (gte ((0 ≤ b ∧ b < σ 30 0) ∧ 0 ≤ w ∧ w ≤ 2) (bI (evB (σ 32 b) (bAt σ 30 b) w)) (-1))))) (plainFor_of_name (by decide)) (Nat.le_of_ble_eq_true rfl) (lv := [(0, _), (1, _), (2, _)]) rfl ?_
  refine r_aload_n (dc dkX12_even 0 rfl) rfl (np 1 rfl ?_)
  refine r_getR (dc dkX12_even 1 rfl) flX12_24 fd_0_2 (np 4 rfl ?_)
  refine r_getR (dc dkX12_even 2 rfl) flX12_105 fd_27_1 (np 7 rfl ?_)
  refine r_getR (dc dkX12_even 3 rfl) flX12_167 fd_28_9 (np 10 rfl ?_)
  refine r_iload_n (dc dkX12_even 4 rfl) rfl (np 11 rfl ?_)
  refine r_pV1 (y' := miX0_has) (dc dkX12_even 5 rfl) mlX12_171 ceX0_has ob_30 (Nat.le_of_ble_eq_true rfl) (Nat.le_of_ble_eq_true rfl) (c_X0_has isBands_at30 hB (by omega)) (np 14 rfl ?_)
  refine r_bz (tgt := 26) (dc dkX12_even 6 rfl) rfl (fun h14 => ?_) (fun h14 => (np 17 rfl ?_))
  · skip
    refine r_iconst (dc dkX12_even 12 rfl) (np 27 rfl ?_)
    exact r_iret (dc dkX12_even 13 rfl) rfl (by first | exact ⟨hs2, by rw [gte_t ⟨h14, by omega⟩]; first | rw [bI_t h47] | rw [bI_f h47]⟩ | exact ⟨same.refl _ _, by rw [gte_f (by omega)]⟩)
  refine r_iload_n (dc dkX12_even 7 rfl) rfl (np 18 rfl ?_)
  refine r_if_lt (tgt := 26) (dc dkX12_even 8 rfl) rfl (by first | assumption | decide | omega) (fun h18 => ?_) (fun h18 => (np 21 rfl ?_))
  · skip
    refine r_iconst (dc dkX12_even 12 rfl) (np 27 rfl ?_)
    exact r_iret (dc dkX12_even 13 rfl) rfl (by first | exact ⟨hs2, by rw [gte_t ⟨h14, by omega⟩]; first | rw [bI_t h47] | rw [bI_f h47]⟩ | exact ⟨same.refl _ _, by rw [gte_f (by omega)]⟩)
  refine r_iload_n (dc dkX12_even 9 rfl) rfl (np 22 rfl ?_)
  refine r_iconst (dc dkX12_even 10 rfl) (np 23 rfl ?_)
  refine r_icmp_le (tgt := 28) (dc dkX12_even 11 rfl) rfl (by first | assumption | decide | omega) (by first | assumption | decide | omega) (fun h23 => ?_) (fun h23 => (np 26 rfl ?_))
  · skip
    refine r_aload_n (dc dkX12_even 14 rfl) rfl (np 29 rfl ?_)
    refine r_getR (dc dkX12_even 15 rfl) flX12_52 fd_0_8 (np 32 rfl ?_)
    refine r_aload_n (dc dkX12_even 16 rfl) rfl (np 33 rfl ?_)
    refine r_getR (dc dkX12_even 17 rfl) flX12_24 fd_0_2 (np 36 rfl ?_)
    refine r_getR (dc dkX12_even 18 rfl) flX12_105 fd_27_1 (np 39 rfl ?_)
    refine r_getR (dc dkX12_even 19 rfl) flX12_167 fd_28_9 (np 42 rfl ?_)
    refine r_iload_n (dc dkX12_even 20 rfl) rfl (np 43 rfl ?_)
    refine r_iload_n (dc dkX12_even 21 rfl) rfl (np 44 rfl ?_)
    refine r_cV3 (y' := miX10_isEven) (dc dkX12_even 22 rfl) mlX12_241 ceX10_isEven ob_9 (Nat.le_of_ble_eq_true rfl) (Nat.le_of_ble_eq_true rfl) (c_X10_isEven hB (by omega) (by omega) (hn b (by omega) (by omega)) (by omega)) (fun r τ2 hp2 => (np 47 rfl ?_))
    obtain ⟨rfl, hs2⟩ := hp2
    refine r_bz (tgt := 54) (dc dkX12_even 23 rfl) rfl (fun h47 => ?_) (fun h47 => (np 50 rfl ?_))
    · skip
      refine r_iconst (dc dkX12_even 26 rfl) (np 55 rfl ?_)
      exact r_iret (dc dkX12_even 27 rfl) rfl (by first | exact ⟨hs2, by rw [gte_t ⟨h14, by omega⟩]; first | rw [bI_t h47] | rw [bI_f h47]⟩ | exact ⟨same.refl _ _, by rw [gte_f (by omega)]⟩)
    refine r_iconst (dc dkX12_even 24 rfl) (np 51 rfl ?_)
    refine r_goto (tgt := 55) (dc dkX12_even 25 rfl) rfl ?_
    exact r_iret (dc dkX12_even 27 rfl) rfl (by first | exact ⟨hs2, by rw [gte_t ⟨h14, by omega⟩]; first | rw [bI_t h47] | rw [bI_f h47]⟩ | exact ⟨same.refl _ _, by rw [gte_f (by omega)]⟩)
  refine r_iconst (dc dkX12_even 12 rfl) (np 27 rfl ?_)
  exact r_iret (dc dkX12_even 13 rfl) rfl (by first | exact ⟨hs2, by rw [gte_t ⟨h14, by omega⟩]; first | rw [bI_t h47] | rw [bI_f h47]⟩ | exact ⟨same.refl _ _, by rw [gte_f (by omega)]⟩)
set_option maxRecDepth 100000 in
set_option maxHeartbeats 4000000 in
theorem c_X12_form {σ : jS} (hB : okB σ 30) (hn : ∀ b, 0 ≤ b → b < σ 30 0 → 3 ≤ σ 32 b) {b w : Int} (hb : iR b) (hw : iR w) : Jm 6 miX12_form [.ref 0, vI b, vI w] σ (fun r τ => same [9, 10, 13, 14] σ τ ∧ (∀ j, ¬ j = 1 → τ 9 j = σ 9 j) ∧ (((0 ≤ b ∧ b < σ 30 0) ∧ 0 ≤ w ∧ w ≤ 2) → r = some (vI (2 * σ 32 b)) ∧ τ 9 1 = 2 * σ 32 b ∧ (∀ j, 0 ≤ j → j < 2 * σ 32 b → cB 18 (τ 10 j)) ∧ lsO (2 * σ 32 b) (VV (σ 32 b) 0 (lPs w)) (rwV (σ 32 b) (bAt σ 30 b)) (τ 10)) ∧ (¬ ((0 ≤ b ∧ b < σ 30 0) ∧ 0 ≤ w ∧ w ≤ 2) → r = some (vI (-1)) ∧ τ = σ)) := by
  have m8 := hB.1
  refine jm_ofF (Po := (fun r τ => same [9, 10, 13, 14] σ τ ∧ (∀ j, ¬ j = 1 → τ 9 j = σ 9 j) ∧ (((0 ≤ b ∧ b < σ 30 0) ∧ 0 ≤ w ∧ w ≤ 2) → r = some (vI (2 * σ 32 b)) ∧ τ 9 1 = 2 * σ 32 b ∧ (∀ j, 0 ≤ j → j < 2 * σ 32 b → cB 18 (τ 10 j)) ∧ lsO (2 * σ 32 b) (VV (σ 32 b) 0 (lPs w)) (rwV (σ 32 b) (bAt σ 30 b)) (τ 10)) ∧ (¬ ((0 ≤ b ∧ b < σ 30 0) ∧ 0 ≤ w ∧ w ≤ 2) → r = some (vI (-1)) ∧ τ = σ))) (plainFor_of_name (by decide)) (Nat.le_of_ble_eq_true rfl) (lv := [(0, _), (1, _), (2, _)]) rfl ?_
  refine r_aload_n (dc dkX12_form 0 rfl) rfl (np 1 rfl ?_)
  refine r_getR (dc dkX12_form 1 rfl) flX12_24 fd_0_2 (np 4 rfl ?_)
  refine r_getR (dc dkX12_form 2 rfl) flX12_105 fd_27_1 (np 7 rfl ?_)
  refine r_getR (dc dkX12_form 3 rfl) flX12_167 fd_28_9 (np 10 rfl ?_)
  refine r_iload_n (dc dkX12_form 4 rfl) rfl (np 11 rfl ?_)
  refine r_pV1 (y' := miX0_has) (dc dkX12_form 5 rfl) mlX12_171 ceX0_has ob_30 (Nat.le_of_ble_eq_true rfl) (Nat.le_of_ble_eq_true rfl) (c_X0_has isBands_at30 hB (by omega)) (np 14 rfl ?_)
  refine r_bz (tgt := 26) (dc dkX12_form 6 rfl) rfl (fun h14 => ?_) (fun h14 => (np 17 rfl ?_))
  · skip
    refine r_iconst (dc dkX12_form 12 rfl) (np 27 rfl ?_)
    exact r_iret (dc dkX12_form 13 rfl) rfl (by first | exact ⟨hs2, hj2, fun _ => ⟨by rw [ht2], ht2, hc2, hl2⟩, fun z => absurd ⟨h14, by omega, by omega⟩ z⟩ | exact ⟨same.refl _ _, fun _ _ => rfl, fun z => absurd z (by omega), fun _ => ⟨rfl, rfl⟩⟩)
  refine r_iload_n (dc dkX12_form 7 rfl) rfl (np 18 rfl ?_)
  refine r_if_lt (tgt := 26) (dc dkX12_form 8 rfl) rfl (by first | assumption | decide | omega) (fun h18 => ?_) (fun h18 => (np 21 rfl ?_))
  · skip
    refine r_iconst (dc dkX12_form 12 rfl) (np 27 rfl ?_)
    exact r_iret (dc dkX12_form 13 rfl) rfl (by first | exact ⟨hs2, hj2, fun _ => ⟨by rw [ht2], ht2, hc2, hl2⟩, fun z => absurd ⟨h14, by omega, by omega⟩ z⟩ | exact ⟨same.refl _ _, fun _ _ => rfl, fun z => absurd z (by omega), fun _ => ⟨rfl, rfl⟩⟩)
  refine r_iload_n (dc dkX12_form 9 rfl) rfl (np 22 rfl ?_)
  refine r_iconst (dc dkX12_form 10 rfl) (np 23 rfl ?_)
  refine r_icmp_le (tgt := 28) (dc dkX12_form 11 rfl) rfl (by first | assumption | decide | omega) (by first | assumption | decide | omega) (fun h23 => ?_) (fun h23 => (np 26 rfl ?_))
  · skip
    refine r_aload_n (dc dkX12_form 14 rfl) rfl (np 29 rfl ?_)
    refine r_getR (dc dkX12_form 15 rfl) flX12_52 fd_0_8 (np 32 rfl ?_)
    refine r_aload_n (dc dkX12_form 16 rfl) rfl (np 33 rfl ?_)
    refine r_getR (dc dkX12_form 17 rfl) flX12_24 fd_0_2 (np 36 rfl ?_)
    refine r_getR (dc dkX12_form 18 rfl) flX12_105 fd_27_1 (np 39 rfl ?_)
    refine r_getR (dc dkX12_form 19 rfl) flX12_167 fd_28_9 (np 42 rfl ?_)
    refine r_iload_n (dc dkX12_form 20 rfl) rfl (np 43 rfl ?_)
    refine r_iload_n (dc dkX12_form 21 rfl) rfl (np 44 rfl ?_)
    refine r_cV3 (y' := miX10_tell) (dc dkX12_form 22 rfl) mlX12_229 ceX10_tell ob_9 (Nat.le_of_ble_eq_true rfl) (Nat.le_of_ble_eq_true rfl) (c_X10_tell hB (by omega) (by omega) (hn b (by omega) (by omega)) (by omega)) (fun r τ2 hp2 => (np 47 rfl ?_))
    obtain ⟨rfl, hs2, hj2, ht2, hc2, hl2⟩ := hp2
    refine r_aload_n (dc dkX12_form 23 rfl) rfl (np 48 rfl ?_)
    refine r_getR (dc dkX12_form 24 rfl) flX12_52 fd_0_8 (np 51 rfl ?_)
    refine r_gI 1 (dc dkX12_form 25 rfl) flX12_233 fd_9_1 rfl (np 54 rfl ?_)
    exact r_iret (dc dkX12_form 26 rfl) rfl (by first | exact ⟨hs2, hj2, fun _ => ⟨by rw [ht2], ht2, hc2, hl2⟩, fun z => absurd ⟨h14, by omega, by omega⟩ z⟩ | exact ⟨same.refl _ _, fun _ _ => rfl, fun z => absurd z (by omega), fun _ => ⟨rfl, rfl⟩⟩)
  refine r_iconst (dc dkX12_form 12 rfl) (np 27 rfl ?_)
  exact r_iret (dc dkX12_form 13 rfl) rfl (by first | exact ⟨hs2, hj2, fun _ => ⟨by rw [ht2], ht2, hc2, hl2⟩, fun z => absurd ⟨h14, by omega, by omega⟩ z⟩ | exact ⟨same.refl _ _, fun _ _ => rfl, fun z => absurd z (by omega), fun _ => ⟨rfl, rfl⟩⟩)
set_option maxRecDepth 100000 in
set_option maxHeartbeats 4000000 in
theorem c_X12_formAt {σ : jS} {i : Int} (hi : iR i) (h9 : cB 16 (σ 9 1)) : Jp 1 miX12_formAt [.ref 0, vI i] σ (vI (if 0 ≤ i ∧ i < σ 9 1 then σ 10 i else -1)) := by
  refine jm_ofF (Po := (jP (vI (if 0 ≤ i ∧ i < σ 9 1 then σ 10 i else -1)) σ)) (plainFor_of_name (by decide)) (Nat.le_of_ble_eq_true rfl) (lv := [(0, _), (1, _)]) rfl ?_
  refine r_iload_n (dc dkX12_formAt 0 rfl) rfl (np 1 rfl ?_)
  refine r_if_lt (tgt := 27) (dc dkX12_formAt 1 rfl) rfl (by first | assumption | decide | omega) (fun h1 => ?_) (fun h1 => (np 4 rfl ?_))
  · skip
    refine r_iconst (dc dkX12_formAt 13 rfl) (np 28 rfl ?_)
    refine r_goto (tgt := 40) (dc dkX12_formAt 14 rfl) rfl ?_
    exact r_iret (dc dkX12_formAt 20 rfl) rfl ⟨congrArg (fun z => some (vI z)) (by first | (rw [if_neg (by omega)]; done) | (rw [if_pos (by omega)]; done)), rfl⟩
  refine r_iload_n (dc dkX12_formAt 2 rfl) rfl (np 5 rfl ?_)
  refine r_aload_n (dc dkX12_formAt 3 rfl) rfl (np 6 rfl ?_)
  refine r_getR (dc dkX12_formAt 4 rfl) flX12_52 fd_0_8 (np 9 rfl ?_)
  refine r_gI 1 (dc dkX12_formAt 5 rfl) flX12_233 fd_9_1 rfl (np 12 rfl ?_)
  refine r_icmp_ge (tgt := 27) (dc dkX12_formAt 6 rfl) rfl (by first | assumption | decide | omega) (by first | assumption | decide | omega) (fun h12 => ?_) (fun h12 => (np 15 rfl ?_))
  · skip
    refine r_iconst (dc dkX12_formAt 13 rfl) (np 28 rfl ?_)
    refine r_goto (tgt := 40) (dc dkX12_formAt 14 rfl) rfl ?_
    exact r_iret (dc dkX12_formAt 20 rfl) rfl ⟨congrArg (fun z => some (vI z)) (by first | (rw [if_neg (by omega)]; done) | (rw [if_pos (by omega)]; done)), rfl⟩
  refine r_iload_n (dc dkX12_formAt 7 rfl) rfl (np 16 rfl ?_)
  refine r_aload_n (dc dkX12_formAt 8 rfl) rfl (np 17 rfl ?_)
  refine r_getR (dc dkX12_formAt 9 rfl) flX12_52 fd_0_8 (np 20 rfl ?_)
  refine r_getR (dc dkX12_formAt 10 rfl) flX12_236 fd_9_0 (np 23 rfl ?_)
  refine r_alen (dc dkX12_formAt 11 rfl) ar_10 (Nat.le_of_ble_eq_true rfl) (np 24 rfl ?_)
  refine r_icmp_lt (tgt := 31) (dc dkX12_formAt 12 rfl) rfl (by first | assumption | decide | omega) (by first | assumption | decide | omega) (fun h24 => ?_) (fun h24 => (np 27 rfl ?_))
  · skip
    refine r_aload_n (dc dkX12_formAt 15 rfl) rfl (np 32 rfl ?_)
    refine r_getR (dc dkX12_formAt 16 rfl) flX12_52 fd_0_8 (np 35 rfl ?_)
    refine r_getR (dc dkX12_formAt 17 rfl) flX12_236 fd_9_0 (np 38 rfl ?_)
    refine r_iload_n (dc dkX12_formAt 18 rfl) rfl (np 39 rfl ?_)
    refine r_iald (dc dkX12_formAt 19 rfl) ar_10 (by omega) (np 40 rfl ?_)
    exact r_iret (dc dkX12_formAt 20 rfl) rfl ⟨congrArg (fun z => some (vI z)) (by first | (rw [if_neg (by omega)]; done) | (rw [if_pos (by omega)]; done)), rfl⟩
  refine r_iconst (dc dkX12_formAt 13 rfl) (np 28 rfl ?_)
  refine r_goto (tgt := 40) (dc dkX12_formAt 14 rfl) rfl ?_
  exact r_iret (dc dkX12_formAt 20 rfl) rfl ⟨congrArg (fun z => some (vI z)) (by first | (rw [if_neg (by omega)]; done) | (rw [if_pos (by omega)]; done)), rfl⟩
