def ixW (w p : Int) : Int := p / 10 * w + p % 10
theorem ixW_b {w h p : Int} (hw : 2 ≤ w ∧ w ≤ 10) (hp : 0 ≤ p ∧ p % 10 < w ∧ p / 10 < h) : (0 ≤ ixW w p ∧ ixW w p < w * h) ∧ pgW w (ixW w p) = p ∧ ixW w p / w = p / 10 ∧ ixW w p % w = p % 10 := by
  have e1 : (p / 10 * w + p % 10) / w = p / 10 := by
    rw [Int.add_comm, Int.add_mul_ediv_right _ _ (by omega), Int.ediv_eq_zero_of_lt (by omega) hp.2.1, Int.zero_add]
  have e2 : (p / 10 * w + p % 10) % w = p % 10 := by
    rw [Int.add_comm, Int.add_mul_emod_self_right, Int.emod_eq_of_lt (by omega) hp.2.1]
  have m := Int.mul_le_mul_of_nonneg_right (show p / 10 ≤ h - 1 by omega) (show 0 ≤ w by omega)
  rw [Int.sub_mul, Int.one_mul, Int.mul_comm h w] at m
  have m0 := Int.mul_nonneg (show 0 ≤ p / 10 by omega) (show 0 ≤ w by omega)
  unfold pgW ixW
  rw [e1, e2]
  exact ⟨⟨by omega, by omega⟩, by omega, rfl, rfl⟩
theorem pk_on {w h : Int} {o : Int → Prop} {p : Int} (h1 : pkG w h o p = 1) : 0 ≤ p ∧ p % 10 < w ∧ p / 10 < h := by
  unfold pkG at h1
  split at h1
  · assumption
  · omega
/-- a three of pegs not in one line -/
def tri3 (pk : Int → Int) (P : Int → Int) : Prop := pk (P 0) = 1 ∧ pk (P 1) = 1 ∧ pk (P 2) = 1 ∧ ¬ tn (P 0) (P 1) (P 2) = 0
theorem FW_end {w h : Int} {pk : Int → Int} {a0 b0 c0 : Int} (h36 : w * h ≤ 36) (v : val3 w h a0 b0 c0) {S E : Int → Prop} {k : Nat} (hF : FW w h pk a0 b0 c0 S E (k + 1)) (hE : ∀ n, 0 ≤ n → n < 7168 → ¬ E n) : ∀ (i : Nat) {n : Int}, H3 w h pk a0 b0 c0 i n → ∃ j, j ≤ k ∧ H3 w h pk a0 b0 c0 j n
  | 0, n, u => ⟨0, Nat.zero_le _, u⟩
  | i + 1, n, u => by
    obtain ⟨p, q, r, hs, hH, hm⟩ := H3_st h36 v u
    obtain ⟨j, hj, x⟩ := FW_end h36 v hF hE i hH
    have y := H3_mv h36 v hs x hm
    by_cases c : j + 1 ≤ k
    · exact ⟨j + 1, c, y⟩
    · rw [show j + 1 = k + 1 by omega] at y
      have nb := H3_b h36 v u
      refine Classical.byContradiction (fun z => ?_)
      exact hE n nb.1 (by omega) ((hF n nb.1 (by omega)).2.mpr ⟨y, fun j' hj' w => z ⟨j', by omega, w⟩⟩)
set_option maxRecDepth 100000 in
set_option maxHeartbeats 4000000 in
theorem c_X5_numberOf {σ : jS} {w h : Int} {pk : Int → Int} (hM : MV σ w h pk) (hB : okB σ 30) {b : Int} (h0 : 0 ≤ b) (h1 : b < 8) (hn : 3 ≤ σ 32 b) (hx : ∀ i, 0 ≤ i → i ≤ 2 → 0 ≤ ixW w (bAt σ 30 b i) ∧ ixW w (bAt σ 30 b i) < 36) : Jp 3 miX5_numberOf [.ref 17, .ref 30, vI b] σ (vI (nm3 (ixW w (bAt σ 30 b 0)) (ixW w (bAt σ 30 b 1)) (ixW w (bAt σ 30 b 2)))) := by
  have pg : ∀ i, 0 ≤ i → isPg (bAt σ 30 b i) := fun i i0 => bAt_p hB h0 h1 (show 0 < σ 32 b by omega) i0
  refine jm_ofF (Po := (jP (vI (nm3 (ixW w (bAt σ 30 b 0)) (ixW w (bAt σ 30 b 1)) (ixW w (bAt σ 30 b 2)))) σ)) (plainFor_of_name (by decide)) (Nat.le_of_ble_eq_true rfl) (lv := [(0, _), (1, _), (2, _)]) rfl ?_
  refine r_aload_n (dc dkX5_numberOf 0 rfl) rfl (np 1 rfl ?_)
  refine r_aload_n (dc dkX5_numberOf 1 rfl) rfl (np 2 rfl ?_)
  refine r_iload_n (dc dkX5_numberOf 2 rfl) rfl (np 3 rfl ?_)
  refine r_iconst (dc dkX5_numberOf 3 rfl) (np 4 rfl ?_)
  refine r_pV2 (y' := miX0_at) (dc dkX5_numberOf 4 rfl) mlX5_72 ceX0_at ob_30 (Nat.le_of_ble_eq_true rfl) (Nat.le_of_ble_eq_true rfl) (c_X0_at isBands_at30 hB h0 h1 (by decide) (by show 0 < σ 32 b; omega)) (np 7 rfl ?_)
  refine r_pV1 (y' := miX5_indexOf) (dc dkX5_numberOf 5 rfl) mlX5_78 ceX5_indexOf ob_17 (Nat.le_of_ble_eq_true rfl) (Nat.le_of_ble_eq_true rfl) (c_X5_indexOf hM (pg 0 (by decide))) (np 10 rfl ?_)
  refine r_aload_n (dc dkX5_numberOf 6 rfl) rfl (np 11 rfl ?_)
  refine r_aload_n (dc dkX5_numberOf 7 rfl) rfl (np 12 rfl ?_)
  refine r_iload_n (dc dkX5_numberOf 8 rfl) rfl (np 13 rfl ?_)
  refine r_iconst (dc dkX5_numberOf 9 rfl) (np 14 rfl ?_)
  refine r_pV2 (y' := miX0_at) (dc dkX5_numberOf 10 rfl) mlX5_72 ceX0_at ob_30 (Nat.le_of_ble_eq_true rfl) (Nat.le_of_ble_eq_true rfl) (c_X0_at isBands_at30 hB h0 h1 (by decide) (by show 0 < σ 32 b; omega)) (np 17 rfl ?_)
  refine r_pV1 (y' := miX5_indexOf) (dc dkX5_numberOf 11 rfl) mlX5_78 ceX5_indexOf ob_17 (Nat.le_of_ble_eq_true rfl) (Nat.le_of_ble_eq_true rfl) (c_X5_indexOf hM (pg 1 (by decide))) (np 20 rfl ?_)
  refine r_aload_n (dc dkX5_numberOf 12 rfl) rfl (np 21 rfl ?_)
  refine r_aload_n (dc dkX5_numberOf 13 rfl) rfl (np 22 rfl ?_)
  refine r_iload_n (dc dkX5_numberOf 14 rfl) rfl (np 23 rfl ?_)
  refine r_iconst (dc dkX5_numberOf 15 rfl) (np 24 rfl ?_)
  refine r_pV2 (y' := miX0_at) (dc dkX5_numberOf 16 rfl) mlX5_72 ceX0_at ob_30 (Nat.le_of_ble_eq_true rfl) (Nat.le_of_ble_eq_true rfl) (c_X0_at isBands_at30 hB h0 h1 (by decide) (by show 0 < σ 32 b; omega)) (np 27 rfl ?_)
  refine r_pV1 (y' := miX5_indexOf) (dc dkX5_numberOf 17 rfl) mlX5_78 ceX5_indexOf ob_17 (Nat.le_of_ble_eq_true rfl) (Nat.le_of_ble_eq_true rfl) (c_X5_indexOf hM (pg 2 (by decide))) (np 30 rfl ?_)
  refine r_pS3 (y' := miX5_number) (dc dkX5_numberOf 18 rfl) mlX5_81 seX5_number (Nat.le_of_ble_eq_true rfl) (Nat.le_of_ble_eq_true rfl) (c_X5_number (hx 0 (by decide) (by decide)) (hx 1 (by decide) (by decide)) (hx 2 (by decide) (by decide))) (np 33 rfl ?_)
  exact r_iret (dc dkX5_numberOf 19 rfl) rfl ⟨rfl, rfl⟩
set_option maxRecDepth 100000 in
set_option maxHeartbeats 4000000 in
theorem c_X5_fewest {σ : jS} (hD : okD σ 28) (hB : okB σ 30) (hw : 2 ≤ σ 28 0 ∧ σ 28 0 ≤ 10) (hh : 2 ≤ σ 28 1 ∧ σ 28 1 ≤ 10) {a b : Int} (ha : 0 ≤ a ∧ a < 8) (hb : 0 ≤ b ∧ b < 8) (na : σ 32 a = 3) (nb : σ 32 b = 3) (ta : tri3 (pkC σ 28) (bAt σ 30 a)) (tb : tri3 (pkC σ 28) (bAt σ 30 b)) : Jm 6 miX5_fewest [.ref 17, .ref 28, vI a, vI b] σ (fun r τ => same [17, 18, 19, 20, 21, 22] σ τ ∧ ∃ v, r = some (vI v) ∧ (¬ σ 28 0 * σ 28 1 ≤ 36 → v = -1) ∧ (σ 28 0 * σ 28 1 ≤ 36 → ans (fun k => (H3 (σ 28 0) (σ 28 1) (pkC σ 28) (ixW (σ 28 0) (bAt σ 30 a 0)) (ixW (σ 28 0) (bAt σ 30 a 1)) (ixW (σ 28 0) (bAt σ 30 a 2))) k (nm3 (ixW (σ 28 0) (bAt σ 30 b 0)) (ixW (σ 28 0) (bAt σ 30 b 1)) (ixW (σ 28 0) (bAt σ 30 b 2)))) v)) := by
  have wh0 : 0 < σ 28 0 * σ 28 1 := Int.mul_pos (by omega) (by omega)
  have rm := mulb (a := σ 28 0) (b := σ 28 1) (A := 10) (B := 10) (by omega) (by omega) (by omega) (by omega)
  have xA : ∀ i, 0 ≤ i → i ≤ 2 → pkC σ 28 (bAt σ 30 a i) = 1 := fun i i0 i1 => by rcases (show i = 0 ∨ i = 1 ∨ i = 2 by omega) with rfl | rfl | rfl; exact ta.1; exact ta.2.1; exact ta.2.2.1
  have xB : ∀ i, 0 ≤ i → i ≤ 2 → pkC σ 28 (bAt σ 30 b i) = 1 := fun i i0 i1 => by rcases (show i = 0 ∨ i = 1 ∨ i = 2 by omega) with rfl | rfl | rfl; exact tb.1; exact tb.2.1; exact tb.2.2.1
  have yA : ∀ i : Int, 0 ≤ i → i ≤ 2 → _ := fun i i0 i1 => ixW_b hw (pk_on (xA i i0 i1))
  have yB : ∀ i : Int, 0 ≤ i → i ≤ 2 → _ := fun i i0 i1 => ixW_b hw (pk_on (xB i i0 i1))
  refine jm_ofF (Po := (fun r τ => same [17, 18, 19, 20, 21, 22] σ τ ∧ ∃ v, r = some (vI v) ∧ (¬ σ 28 0 * σ 28 1 ≤ 36 → v = -1) ∧ (σ 28 0 * σ 28 1 ≤ 36 → ans (fun k => (H3 (σ 28 0) (σ 28 1) (pkC σ 28) (ixW (σ 28 0) (bAt σ 30 a 0)) (ixW (σ 28 0) (bAt σ 30 a 1)) (ixW (σ 28 0) (bAt σ 30 a 2))) k (nm3 (ixW (σ 28 0) (bAt σ 30 b 0)) (ixW (σ 28 0) (bAt σ 30 b 1)) (ixW (σ 28 0) (bAt σ 30 b 2)))) v))) (plainFor_of_name (by decide)) (Nat.le_of_ble_eq_true rfl) (lv := [(0, _), (1, _), (2, _), (3, _)]) rfl ?_
  refine r_aload_n (dc dkX5_fewest 0 rfl) rfl (np 1 rfl ?_)
  refine r_aload_n (dc dkX5_fewest 1 rfl) rfl (np 2 rfl ?_)
  refine r_gI 0 (dc dkX5_fewest 2 rfl) flX5_36 fd_28_0 rfl (np 5 rfl ?_)
  refine r_eqI (σ 28 0) rfl ?_
  refine r_pI 5 (dc dkX5_fewest 3 rfl) fpX5_29 fd_17_5 rfl (np 8 rfl ?_)
  refine r_abs (fun ρ => same [17] σ ρ ∧ ρ 17 5 = σ 28 0) ⟨(same.refl _ _).put (by decide), ju_at _ _ _ _⟩ ?_
  intro ρ1 hq1
  obtain ⟨P1, P2⟩ := hq1
  have p28 : ρ1 28 = σ 28 := P1 28 (by decide)
  refine r_aload_n (dc dkX5_fewest 4 rfl) rfl (np 9 rfl ?_)
  refine r_aload_n (dc dkX5_fewest 5 rfl) rfl (np 10 rfl ?_)
  refine r_gI 0 (dc dkX5_fewest 6 rfl) flX5_36 fd_28_0 rfl (np 13 rfl ?_)
  refine r_eqI (σ 28 0) (by rw [p28]) ?_
  refine r_aload_n (dc dkX5_fewest 7 rfl) rfl (np 14 rfl ?_)
  refine r_gI 1 (dc dkX5_fewest 8 rfl) flX5_39 fd_28_1 rfl (np 17 rfl ?_)
  refine r_eqI (σ 28 1) (by rw [p28]) ?_
  refine r_imul (dc dkX5_fewest 9 rfl) (np 18 rfl ?_)
  refine r_pI 6 (dc dkX5_fewest 10 rfl) fpX5_33 fd_17_6 rfl (np 21 rfl ?_)
  refine r_abs (fun ρ => same [17] σ ρ ∧ ρ 17 5 = σ 28 0 ∧ ρ 17 6 = σ 28 0 * σ 28 1) ⟨P1.put (by decide), by rw [ju_ne (by decide)]; exact P2, ju_at _ _ _ _⟩ ?_
  intro ρ2 hq2
  obtain ⟨Q1, Q2, Q3⟩ := hq2
  have sq : same [17, 18, 19, 20, 21, 22] σ ρ2 := fun c hc => Q1 c (by simp at hc ⊢; omega)
  refine r_aload_n (dc dkX5_fewest 11 rfl) rfl (np 22 rfl ?_)
  refine r_gI 5 (dc dkX5_fewest 12 rfl) flX5_29 fd_17_5 rfl (np 25 rfl ?_)
  refine r_eqI _ Q2 ?_
  refine r_if_le (tgt := 37) (dc dkX5_fewest 13 rfl) rfl (by first | assumption | decide | omega) (fun h25 => ?_) (fun h25 => (np 28 rfl ?_))
  · skip
    omega
  refine r_aload_n (dc dkX5_fewest 14 rfl) rfl (np 29 rfl ?_)
  refine r_gI 6 (dc dkX5_fewest 15 rfl) flX5_33 fd_17_6 rfl (np 32 rfl ?_)
  refine r_eqI _ Q3 ?_
  refine r_bipush (dc dkX5_fewest 16 rfl) bp_36 (np 34 rfl ?_)
  refine r_icmp_le (tgt := 39) (dc dkX5_fewest 17 rfl) rfl (by first | assumption | decide | omega) (by first | assumption | decide | omega) (fun h34 => ?_) (fun h34 => (np 37 rfl ?_))
  · skip
    refine r_iconst (dc dkX5_fewest 20 rfl) (np 40 rfl ?_)
    refine r_istore (lv' := [(4, _), (0, _), (1, _), (2, _), (3, _)]) (dc dkX5_fewest 21 rfl) (Nat.le_of_ble_eq_true rfl) rfl (np 42 rfl ?_)
    refine r_pick [1, 2, 3, 4, 0] (lv' := [(0, _), (1, _), (2, _), (3, _), (4, _)]) rfl ?_
    refine jlp2 (P := fun (i : Int) (τ : jS) => jR _ _ _ 42 [(0, .ref 17), (1, .ref 28), (2, vI a), (3, vI b), (4, vI i)] [] τ) (I := fun (i : Int) (τ : jS) => (0 ≤ i ∧ i ≤ σ 28 0 * σ 28 1) ∧ same [17, 21, 22] σ τ ∧ τ 17 5 = σ 28 0 ∧ τ 17 6 = σ 28 0 * σ 28 1 ∧ ∀ p, 0 ≤ p → p < i → τ 21 p = pgW (σ 28 0) p ∧ τ 22 p = bI (pkC σ 28 (pgW (σ 28 0) p) = 1)) (fun (i : Int) (τ : jS) => (σ 28 0 * σ 28 1 - i).toNat) ?_ _ _ ⟨by omega, fun c hc => Q1 c (by simp at hc ⊢; omega), Q2, Q3, fun p p0 p1 => by omega⟩
    intro i τ hI42 ih42
    obtain ⟨_, sL, u5, u6, uR⟩ := hI42
    refine r_iload (dc dkX5_fewest 22 rfl) rfl (np 44 rfl ?_)
    refine r_aload_n (dc dkX5_fewest 23 rfl) rfl (np 45 rfl ?_)
    refine r_gI 6 (dc dkX5_fewest 24 rfl) flX5_33 fd_17_6 rfl (np 48 rfl ?_)
    refine r_eqI _ u6 ?_
    refine r_icmp_ge (tgt := 109) (dc dkX5_fewest 25 rfl) rfl (by first | assumption | decide | omega) (by first | assumption | decide | omega) (fun h48 => ?_) (fun h48 => (np 51 rfl ?_))
    · skip
      have h36 : σ 28 0 * σ 28 1 ≤ 36 := by omega
      have sX : same [17, 18, 19, 20, 21, 22] σ τ := fun c hc => sL c (by simp at hc ⊢; omega)
      have hM : MV τ (σ 28 0) (σ 28 1) (pkC σ 28) := ⟨hw, hh, h36, u5, u6, fun p p0 p1 => uR p p0 (by omega)⟩
      have oB : okB τ 30 := okB_t hB (sL 30 (by decide)) (sL 31 (by decide)) (sL 32 (by decide)) (sL 33 (by decide))
      have eA : ∀ c, bAt τ 30 c = bAt σ 30 c := fun c => by funext y; exact bAt_t (sL 32 (by decide)) (sL 33 (by decide)) c y
      have e32 : τ 32 = σ 32 := sL 32 (by decide)
      have vA : val3 (σ 28 0) (σ 28 1) (ixW (σ 28 0) (bAt σ 30 a 0)) (ixW (σ 28 0) (bAt σ 30 a 1)) (ixW (σ 28 0) (bAt σ 30 a 2)) := ⟨(yA 0 (by decide) (by decide)).1, (yA 1 (by decide) (by decide)).1, (yA 2 (by decide) (by decide)).1, by rw [(yA 0 (by decide) (by decide)).2.1, (yA 1 (by decide) (by decide)).2.1, (yA 2 (by decide) (by decide)).2.1]; exact ta.2.2.2⟩
      have vB : val3 (σ 28 0) (σ 28 1) (ixW (σ 28 0) (bAt σ 30 b 0)) (ixW (σ 28 0) (bAt σ 30 b 1)) (ixW (σ 28 0) (bAt σ 30 b 2)) := ⟨(yB 0 (by decide) (by decide)).1, (yB 1 (by decide) (by decide)).1, (yB 2 (by decide) (by decide)).1, by rw [(yB 0 (by decide) (by decide)).2.1, (yB 1 (by decide) (by decide)).2.1, (yB 2 (by decide) (by decide)).2.1]; exact tb.2.2.2⟩
      have dA := val_d h36 vA
      have dB_ := val_d h36 vB
      have bA := nm3_b dA.1 dA.2.1 dA.2.2.1 dA.2.2.2
      have bB := nm3_b dB_.1 dB_.2.1 dB_.2.2.1 dB_.2.2.2
      refine r_aload_n (dc dkX5_fewest 58 rfl) rfl (np 110 rfl ?_)
      refine r_aload_n (dc dkX5_fewest 59 rfl) rfl (np 111 rfl ?_)
      refine r_getR (dc dkX5_fewest 60 rfl) flX5_46 fd_28_9 (np 114 rfl ?_)
      refine r_iload_n (dc dkX5_fewest 61 rfl) rfl (np 115 rfl ?_)
      refine r_pV2 (y' := miX5_numberOf) (dc dkX5_fewest 62 rfl) mlX5_50 ceX5_numberOf ob_17 (Nat.le_of_ble_eq_true rfl) (Nat.le_of_ble_eq_true rfl) (c_X5_numberOf hM oB hb.1 hb.2 (by rw [e32]; omega) (fun i i0 i1 => by rw [eA]; have := (yB i i0 i1).1; omega)) (np 118 rfl ?_)
      refine r_eqI (nm3 (ixW (σ 28 0) (bAt σ 30 b 0)) (ixW (σ 28 0) (bAt σ 30 b 1)) (ixW (σ 28 0) (bAt σ 30 b 2))) (by rw [eA]) ?_
      refine r_istore (lv' := [(4, _), (0, _), (1, _), (2, _), (3, _)]) (dc dkX5_fewest 63 rfl) (Nat.le_of_ble_eq_true rfl) rfl (np 120 rfl ?_)
      refine r_aload_n (dc dkX5_fewest 64 rfl) rfl (np 121 rfl ?_)
      refine r_aload_n (dc dkX5_fewest 65 rfl) rfl (np 122 rfl ?_)
      refine r_getR (dc dkX5_fewest 66 rfl) flX5_46 fd_28_9 (np 125 rfl ?_)
      refine r_iload_n (dc dkX5_fewest 67 rfl) rfl (np 126 rfl ?_)
      refine r_pV2 (y' := miX5_numberOf) (dc dkX5_fewest 68 rfl) mlX5_50 ceX5_numberOf ob_17 (Nat.le_of_ble_eq_true rfl) (Nat.le_of_ble_eq_true rfl) (c_X5_numberOf hM oB ha.1 ha.2 (by rw [e32]; omega) (fun i i0 i1 => by rw [eA]; have := (yA i i0 i1).1; omega)) (np 129 rfl ?_)
      refine r_eqI (nm3 (ixW (σ 28 0) (bAt σ 30 a 0)) (ixW (σ 28 0) (bAt σ 30 a 1)) (ixW (σ 28 0) (bAt σ 30 a 2))) (by rw [eA]) ?_
      refine r_istore (lv' := [(5, _), (4, _), (0, _), (1, _), (2, _), (3, _)]) (dc dkX5_fewest 69 rfl) (Nat.le_of_ble_eq_true rfl) rfl (np 131 rfl ?_)
      refine r_aload_n (dc dkX5_fewest 70 rfl) rfl (np 132 rfl ?_)
      refine r_getR (dc dkX5_fewest 71 rfl) flX5_11 fd_17_0 (np 135 rfl ?_)
      refine r_lconst (dc dkX5_fewest 72 rfl) lc_0 (np 136 rfl ?_)
      refine r_cS2 (y' := miJ7_fill_d0a16) (dc dkX5_fewest 73 rfl) mlX5_54 seJ7_fill_d0a16 (Nat.le_of_ble_eq_true rfl) (Nat.le_of_ble_eq_true rfl) (c_J7_fill_d0a16 ar_18) (fun rr τ1 hp1 => (np 139 rfl ?_))
      obtain ⟨rfl, M1o, Z1⟩ := hp1
      refine r_aload_n (dc dkX5_fewest 74 rfl) rfl (np 140 rfl ?_)
      refine r_getR (dc dkX5_fewest 75 rfl) flX5_15 fd_17_1 (np 143 rfl ?_)
      refine r_lconst (dc dkX5_fewest 76 rfl) lc_0 (np 144 rfl ?_)
      refine r_cS2 (y' := miJ7_fill_d0a16) (dc dkX5_fewest 77 rfl) mlX5_54 seJ7_fill_d0a16 (Nat.le_of_ble_eq_true rfl) (Nat.le_of_ble_eq_true rfl) (c_J7_fill_d0a16 ar_19) (fun rr τ2 hp2 => (np 147 rfl ?_))
      obtain ⟨rfl, M2o, Z2⟩ := hp2
      refine r_aload_n (dc dkX5_fewest 78 rfl) rfl (np 148 rfl ?_)
      refine r_getR (dc dkX5_fewest 79 rfl) flX5_11 fd_17_0 (np 151 rfl ?_)
      refine r_iload (dc dkX5_fewest 80 rfl) rfl (np 153 rfl ?_)
      refine r_cS2 (y' := miX5_mark) (dc dkX5_fewest 81 rfl) mlX5_60 seX5_mark (Nat.le_of_ble_eq_true rfl) (Nat.le_of_ble_eq_true rfl) (c_X5_mark ar_18 (by omega)) (fun rr τ3 hp3 => (np 156 rfl ?_))
      obtain ⟨rfl, M3o, M3⟩ := hp3
      refine r_aload_n (dc dkX5_fewest 82 rfl) rfl (np 157 rfl ?_)
      refine r_getR (dc dkX5_fewest 83 rfl) flX5_15 fd_17_1 (np 160 rfl ?_)
      refine r_iload (dc dkX5_fewest 84 rfl) rfl (np 162 rfl ?_)
      refine r_cS2 (y' := miX5_mark) (dc dkX5_fewest 85 rfl) mlX5_60 seX5_mark (Nat.le_of_ble_eq_true rfl) (Nat.le_of_ble_eq_true rfl) (c_X5_mark ar_19 (by omega)) (fun rr τ4 hp4 => (np 165 rfl ?_))
      obtain ⟨rfl, M4o, M4⟩ := hp4
      have F0 : FW (σ 28 0) (σ 28 1) (pkC σ 28) (ixW (σ 28 0) (bAt σ 30 a 0)) (ixW (σ 28 0) (bAt σ 30 a 1)) (ixW (σ 28 0) (bAt σ 30 a 2)) (fun n => bs (τ4 18) n) (fun n => bs (τ4 19) n) 0 := fun n n0 n1 => by
        have z1 : ∀ n, 0 ≤ n → n < 7168 → ¬ bs (τ1 18) n := fun n n0 n1 => by unfold bs; rw [Z1 (n / 64) (by omega) (by omega)]; exact bt_0
        have z2 : ∀ n, 0 ≤ n → n < 7168 → ¬ bs (τ2 19) n := fun n n0 n1 => by unfold bs; rw [Z2 (n / 64) (by omega) (by omega)]; exact bt_0
        have k1 : bs (τ4 18) n ↔ n = (nm3 (ixW (σ 28 0) (bAt σ 30 a 0)) (ixW (σ 28 0) (bAt σ 30 a 1)) (ixW (σ 28 0) (bAt σ 30 a 2))) := by
          rw [M4o 18 (by decide), M3 n n0 n1, M2o 18 (by decide)]
          exact ⟨fun u => u.resolve_left (z1 n n0 n1), Or.inr⟩
        have k2 : bs (τ4 19) n ↔ n = (nm3 (ixW (σ 28 0) (bAt σ 30 a 0)) (ixW (σ 28 0) (bAt σ 30 a 1)) (ixW (σ 28 0) (bAt σ 30 a 2))) := by
          rw [M4 n n0 n1, M3o 19 (by decide)]
          exact ⟨fun u => u.resolve_left (z2 n n0 n1), Or.inr⟩
        have k3 : (H3 (σ 28 0) (σ 28 1) (pkC σ 28) (ixW (σ 28 0) (bAt σ 30 a 0)) (ixW (σ 28 0) (bAt σ 30 a 1)) (ixW (σ 28 0) (bAt σ 30 a 2))) 0 n ↔ n = (nm3 (ixW (σ 28 0) (bAt σ 30 a 0)) (ixW (σ 28 0) (bAt σ 30 a 1)) (ixW (σ 28 0) (bAt σ 30 a 2))) := ⟨fun ⟨x, y, z, ⟨r1, r2, r3⟩, e⟩ => by rw [← e, r1, r2, r3], fun e => ⟨_, _, _, ⟨rfl, rfl, rfl⟩, e.symm⟩⟩
        constructor
        · refine Iff.trans k1 ?_
          exact ⟨fun u => ⟨0, Nat.le_refl _, k3.mpr u⟩, fun ⟨j, hj, u⟩ => by rw [Nat.le_zero.mp hj] at u; exact k3.mp u⟩
        · refine Iff.trans k2 ?_
          exact ⟨fun u => ⟨k3.mpr u, fun j hj => absurd hj (Nat.not_lt_zero _)⟩, fun u => k3.mp u.1⟩
      have cn0 : 1 ≤ cntK (H3 (σ 28 0) (σ 28 1) (pkC σ 28) (ixW (σ 28 0) (bAt σ 30 a 0)) (ixW (σ 28 0) (bAt σ 30 a 1)) (ixW (σ 28 0) (bAt σ 30 a 2))) 0 := cntK_0 bA ⟨_, _, _, ⟨rfl, rfl, rfl⟩, rfl⟩
      have s4 : same [17, 18, 19, 20, 21, 22] σ τ4 := fun c hc => by
        simp at hc
        rw [M4o c (by omega), M3o c (by omega), M2o c (by omega), M1o c (by omega)]
        exact sX c (by simp; omega)
      have hM4 : MV τ4 (σ 28 0) (σ 28 1) (pkC σ 28) := MV_c hM (by rw [M4o 17 (by decide), M3o 17 (by decide), M2o 17 (by decide), M1o 17 (by decide)]) (by rw [M4o 21 (by decide), M3o 21 (by decide), M2o 21 (by decide), M1o 21 (by decide)]) (by rw [M4o 22 (by decide), M3o 22 (by decide), M2o 22 (by decide), M1o 22 (by decide)])
      refine r_iconst (dc dkX5_fewest 86 rfl) (np 166 rfl ?_)
      refine r_istore (lv' := [(6, _), (5, _), (4, _), (0, _), (1, _), (2, _), (3, _)]) (dc dkX5_fewest 87 rfl) (Nat.le_of_ble_eq_true rfl) rfl (np 168 rfl ?_)
      refine r_pick [3, 4, 5, 6, 2, 1, 0] (lv' := [(0, _), (1, _), (2, _), (3, _), (4, _), (5, _), (6, _)]) rfl ?_
      refine jlp2 (P := fun (m : Int) (ρ : jS) => jR _ _ _ 168 [(0, .ref 17), (1, .ref 28), (2, vI a), (3, vI b), (4, vI (nm3 (ixW (σ 28 0) (bAt σ 30 b 0)) (ixW (σ 28 0) (bAt σ 30 b 1)) (ixW (σ 28 0) (bAt σ 30 b 2)))), (5, vI (nm3 (ixW (σ 28 0) (bAt σ 30 a 0)) (ixW (σ 28 0) (bAt σ 30 a 1)) (ixW (σ 28 0) (bAt σ 30 a 2)))), (6, vI m)] [] ρ) (I := fun (m : Int) (ρ : jS) => (0 ≤ m ∧ m ≤ 7141) ∧ same [17, 18, 19, 20, 21, 22] σ ρ ∧ MV ρ (σ 28 0) (σ 28 1) (pkC σ 28) ∧ FW (σ 28 0) (σ 28 1) (pkC σ 28) (ixW (σ 28 0) (bAt σ 30 a 0)) (ixW (σ 28 0) (bAt σ 30 a 1)) (ixW (σ 28 0) (bAt σ 30 a 2)) (fun n => bs (ρ 18) n) (fun n => bs (ρ 19) n) m.toNat ∧ (∀ j, j < m.toNat → ¬ (H3 (σ 28 0) (σ 28 1) (pkC σ 28) (ixW (σ 28 0) (bAt σ 30 a 0)) (ixW (σ 28 0) (bAt σ 30 a 1)) (ixW (σ 28 0) (bAt σ 30 a 2))) j (nm3 (ixW (σ 28 0) (bAt σ 30 b 0)) (ixW (σ 28 0) (bAt σ 30 b 1)) (ixW (σ 28 0) (bAt σ 30 b 2)))) ∧ m + 1 ≤ cntK (H3 (σ 28 0) (σ 28 1) (pkC σ 28) (ixW (σ 28 0) (bAt σ 30 a 0)) (ixW (σ 28 0) (bAt σ 30 a 1)) (ixW (σ 28 0) (bAt σ 30 a 2))) m.toNat) (fun (m : Int) (ρ : jS) => (7141 - m).toNat) ?_ _ _ ⟨by omega, s4, hM4, F0, fun j hj => absurd hj (Nat.not_lt_zero _), by rw [show Int.toNat 0 = 0 from rfl]; omega⟩
      intro m ρ hI168 ih168
      obtain ⟨mb, sR, hMr, hF, hN, hC⟩ := hI168
      refine r_iload (dc dkX5_fewest 88 rfl) rfl (np 170 rfl ?_)
      refine r_sipush (dc dkX5_fewest 89 rfl) sp_7140 (np 173 rfl ?_)
      refine r_icmp_gt (tgt := 206) (dc dkX5_fewest 90 rfl) rfl (by first | assumption | decide | omega) (by first | assumption | decide | omega) (fun h173 => ?_) (fun h173 => (np 176 rfl ?_))
      · skip
        refine r_iconst (dc dkX5_fewest 105 rfl) (np 207 rfl ?_)
        exact r_iret (dc dkX5_fewest 106 rfl) rfl (by have := cntK_b (P := (H3 (σ 28 0) (σ 28 1) (pkC σ 28) (ixW (σ 28 0) (bAt σ 30 a 0)) (ixW (σ 28 0) (bAt σ 30 a 1)) (ixW (σ 28 0) (bAt σ 30 a 2)))) (k := m.toNat); omega)
      refine r_aload_n (dc dkX5_fewest 91 rfl) rfl (np 177 rfl ?_)
      refine r_getR (dc dkX5_fewest 92 rfl) flX5_15 fd_17_1 (np 180 rfl ?_)
      refine r_iload (dc dkX5_fewest 93 rfl) rfl (np 182 rfl ?_)
      refine r_pS2 (y' := miX5_isMarked) (dc dkX5_fewest 94 rfl) mlX5_64 seX5_isMarked (Nat.le_of_ble_eq_true rfl) (Nat.le_of_ble_eq_true rfl) (c_X5_isMarked ar_19 (by omega)) (np 185 rfl ?_)
      refine r_eqI (bI (bs (ρ 19) (nm3 (ixW (σ 28 0) (bAt σ 30 b 0)) (ixW (σ 28 0) (bAt σ 30 b 1)) (ixW (σ 28 0) (bAt σ 30 b 2))))) (bI_iff ⟨fun u => u.2, fun u => ⟨by omega, u⟩⟩) ?_
      have fg := hF (nm3 (ixW (σ 28 0) (bAt σ 30 b 0)) (ixW (σ 28 0) (bAt σ 30 b 1)) (ixW (σ 28 0) (bAt σ 30 b 2))) bB.1 (by omega)
      refine r_bz (tgt := 191) (dc dkX5_fewest 95 rfl) rfl (fun h185 => ?_) (fun h185 => (np 188 rfl ?_))
      · skip
        refine r_aload_n (dc dkX5_fewest 98 rfl) rfl (np 192 rfl ?_)
        refine r_cV0 (y' := miX5_spread) (dc dkX5_fewest 99 rfl) mlX5_68 ceX5_spread ob_17 (Nat.le_of_ble_eq_true rfl) (Nat.le_of_ble_eq_true rfl) (c_X5_spread hMr (fun _ _ _ => Iff.rfl)) (fun rr τ5 hp5 => (np 195 rfl ?_))
        obtain ⟨A, hA, S5, hn5, rfl⟩ := hp5
        have F5 := FW_s h36 vA hF hA hn5
        refine r_bn (tgt := 200) (dc dkX5_fewest 100 rfl) rfl (fun h195 => ?_) (fun h195 => (np 198 rfl ?_))
        · skip
          refine r_iinc (lv' := [(6, _), (0, _), (1, _), (2, _), (3, _), (4, _), (5, _)]) (dc dkX5_fewest 103 rfl) (Nat.le_of_ble_eq_true rfl) rfl rfl (np 203 rfl ?_)
          refine r_goto (tgt := 168) (dc dkX5_fewest 104 rfl) rfl ?_
          refine r_pick [1, 2, 3, 4, 5, 6, 0] rfl ?_
          exact ih168 _ _ (by
                have e1 : (m + 1).toNat = m.toNat + 1 := by omega
                refine ⟨by omega, fun c hc => by simp at hc; rw [S5 c (by simp; omega)]; exact sR c (by simp; omega), MV_c hMr (S5 17 (by decide)) (S5 21 (by decide)) (S5 22 (by decide)), by rw [e1]; exact F5, fun j hj => ?_, ?_⟩
                · rw [e1] at hj
                  rcases Nat.lt_or_ge j m.toNat with c | c
                  · exact hN j c
                  · rw [show j = m.toNat by omega]
                    intro u
                    exact h185 (fg.2.mpr ⟨u, hN⟩)
                · obtain ⟨n, nb2, u⟩ := h195
                  have f5 := (F5 n nb2.1 nb2.2).2.mp ((hn5 n nb2.1 nb2.2).2.mpr u)
                  have := cntK_s (P := (H3 (σ 28 0) (σ 28 1) (pkC σ 28) (ixW (σ 28 0) (bAt σ 30 a 0)) (ixW (σ 28 0) (bAt σ 30 a 1)) (ixW (σ 28 0) (bAt σ 30 a 2)))) (k := m.toNat) (H3_b h36 vA f5.1) f5.1 (fun j hj => f5.2 j (by omega))
                  rw [e1]
                  omega) (by omega)
        refine r_iconst (dc dkX5_fewest 101 rfl) (np 199 rfl ?_)
        exact r_iret (dc dkX5_fewest 102 rfl) rfl (by
              refine ⟨fun c hc => by simp at hc; rw [S5 c (by simp; omega)]; exact sR c (by simp; omega), _, rfl, fun u => absurd h36 u, fun _ => Or.inr ⟨rfl, fun k u => ?_⟩⟩
              obtain ⟨j, hj, x⟩ := FW_end h36 vA F5 (fun n n0 n1 e => h195 ⟨n, ⟨n0, n1⟩, (hn5 n n0 n1).2.mp e⟩) k u
              rcases Nat.lt_or_ge j m.toNat with c | c
              · exact hN j c x
              · rw [show j = m.toNat by omega] at x
                exact h185 (fg.2.mpr ⟨x, hN⟩))
      refine r_iload (dc dkX5_fewest 96 rfl) rfl (np 190 rfl ?_)
      exact r_iret (dc dkX5_fewest 97 rfl) rfl ⟨sR, _, rfl, fun u => absurd h36 u, fun _ => Or.inl ⟨m.toNat, by omega, (fg.2.mp h185).1, hN⟩⟩
    refine r_aload_n (dc dkX5_fewest 26 rfl) rfl (np 52 rfl ?_)
    refine r_getR (dc dkX5_fewest 27 rfl) flX5_21 fd_17_3 (np 55 rfl ?_)
    refine r_iload (dc dkX5_fewest 28 rfl) rfl (np 57 rfl ?_)
    refine r_iload (dc dkX5_fewest 29 rfl) rfl (np 59 rfl ?_)
    refine r_aload_n (dc dkX5_fewest 30 rfl) rfl (np 60 rfl ?_)
    refine r_gI 5 (dc dkX5_fewest 31 rfl) flX5_29 fd_17_5 rfl (np 63 rfl ?_)
    refine r_eqI _ u5 ?_
    have pgb := pgW_b hw hh (p := i) (by omega)
    refine r_idivn (dc dkX5_fewest 32 rfl) (by first | assumption | decide | omega) (by first | assumption | decide | omega) (np 64 rfl ?_)
    refine r_bipush (dc dkX5_fewest 33 rfl) bp_10 (np 66 rfl ?_)
    refine r_imul (dc dkX5_fewest 34 rfl) (np 67 rfl ?_)
    refine r_iload (dc dkX5_fewest 35 rfl) rfl (np 69 rfl ?_)
    refine r_aload_n (dc dkX5_fewest 36 rfl) rfl (np 70 rfl ?_)
    refine r_gI 5 (dc dkX5_fewest 37 rfl) flX5_29 fd_17_5 rfl (np 73 rfl ?_)
    refine r_eqI _ u5 ?_
    refine r_iremn (dc dkX5_fewest 38 rfl) (by first | assumption | decide | omega) (by first | assumption | decide | omega) (np 74 rfl ?_)
    refine r_iadd (dc dkX5_fewest 39 rfl) (np 75 rfl ?_)
    refine r_eqI (pgW (σ 28 0) i) rfl ?_
    refine r_iast (dc dkX5_fewest 40 rfl) ar_21 (by omega) (np 76 rfl ?_)
    refine r_abs (fun ρ => ρ = ju τ 21 i (pgW (σ 28 0) i)) rfl ?_
    intro ρ3 e3
    have s3 : same [17, 21, 22] σ ρ3 := by rw [e3]; exact sL.put (by decide)
    have hD3 : okD ρ3 28 := by unfold okD; rw [s3 28 (by decide), s3 29 (by decide)]; exact hD
    have eK : pkC ρ3 28 (pgW (σ 28 0) i) = pkC σ 28 (pgW (σ 28 0) i) := by unfold pkC outB; rw [s3 28 (by decide)]
    have pkb := pkG_b (σ 28 0) (σ 28 1) (outB σ 28) (pgW (σ 28 0) i)
    replace pkb : -1 ≤ pkC σ 28 (pgW (σ 28 0) i) ∧ pkC σ 28 (pgW (σ 28 0) i) ≤ 1 := pkb
    refine r_aload_n (dc dkX5_fewest 41 rfl) rfl (np 77 rfl ?_)
    refine r_getR (dc dkX5_fewest 42 rfl) flX5_25 fd_17_4 (np 80 rfl ?_)
    refine r_iload (dc dkX5_fewest 43 rfl) rfl (np 82 rfl ?_)
    refine r_aload_n (dc dkX5_fewest 44 rfl) rfl (np 83 rfl ?_)
    refine r_aload_n (dc dkX5_fewest 45 rfl) rfl (np 84 rfl ?_)
    refine r_getR (dc dkX5_fewest 46 rfl) flX5_21 fd_17_3 (np 87 rfl ?_)
    refine r_iload (dc dkX5_fewest 47 rfl) rfl (np 89 rfl ?_)
    refine r_iald (dc dkX5_fewest 48 rfl) ar_21 (by omega) (np 90 rfl ?_)
    refine r_eqI (pgW (σ 28 0) i) (by rw [e3, ju_at]) ?_
    refine r_pV1 (y' := miX1_pegAt) (dc dkX5_fewest 49 rfl) mlX5_42 ceX1_pegAt ob_28 (Nat.le_of_ble_eq_true rfl) (Nat.le_of_ble_eq_true rfl) (c_X1_pegAt isBoard_at28 hD3 (by omega)) (np 93 rfl ?_)
    have jj102 : ∀ g : Int, (g = bI (pkC σ 28 (pgW (σ 28 0) i) = 1)) → jR 6 miX5_fewest (fun r τ => same [17, 18, 19, 20, 21, 22] σ τ ∧ ∃ v, r = some (vI v) ∧ (¬ σ 28 0 * σ 28 1 ≤ 36 → v = -1) ∧ (σ 28 0 * σ 28 1 ≤ 36 → ans (fun k => (H3 (σ 28 0) (σ 28 1) (pkC σ 28) (ixW (σ 28 0) (bAt σ 30 a 0)) (ixW (σ 28 0) (bAt σ 30 a 1)) (ixW (σ 28 0) (bAt σ 30 a 2))) k (nm3 (ixW (σ 28 0) (bAt σ 30 b 0)) (ixW (σ 28 0) (bAt σ 30 b 1)) (ixW (σ 28 0) (bAt σ 30 b 2)))) v)) 102 [(0, .ref 17), (1, .ref 28), (2, vI a), (3, vI b), (4, vI i)] [vI g, vI i, .ref 22] ρ3 := by
      intro g hg
      refine r_zast (dc dkX5_fewest 55 rfl) ar_22 (by rw [hg]; exact bI_01 _) (by omega) (np 103 rfl ?_)
      refine r_iinc (lv' := [(4, _), (0, _), (1, _), (2, _), (3, _)]) (dc dkX5_fewest 56 rfl) (Nat.le_of_ble_eq_true rfl) rfl rfl (np 106 rfl ?_)
      refine r_goto (tgt := 42) (dc dkX5_fewest 57 rfl) rfl ?_
      refine r_pick [1, 2, 3, 4, 0] rfl ?_
      exact ih42 _ _ ⟨by omega, s3.put (by decide), by rw [ju_off _ _ _ _ _ (by decide), e3, ju_off _ _ _ _ _ (by decide)]; exact u5, by rw [ju_off _ _ _ _ _ (by decide), e3, ju_off _ _ _ _ _ (by decide)]; exact u6, fun p p0 p1 => by rw [ju_off _ _ _ _ _ (by decide), e3]; by_cases q : p = i; rw [q, ju_at, ju_at, hg]; exact ⟨rfl, rfl⟩; rw [ju_ne (by omega), ju_ne (by omega), ju_off _ _ _ _ _ (by decide)]; exact uR p p0 (by omega)⟩ (by omega)
    refine r_eqI _ eK ?_
    refine r_iconst (dc dkX5_fewest 50 rfl) (np 94 rfl ?_)
    refine r_icmp_ne (tgt := 101) (dc dkX5_fewest 51 rfl) rfl (by first | assumption | decide | omega) (by first | assumption | decide | omega) (fun h94 => ?_) (fun h94 => (np 97 rfl ?_))
    · skip
      refine r_iconst (dc dkX5_fewest 54 rfl) (np 102 rfl ?_)
      refine r_pick [0, 1, 2, 3, 4] rfl ?_
      exact jj102 _ (by first | exact bT (by omega) | exact bF (by omega))
    refine r_iconst (dc dkX5_fewest 52 rfl) (np 98 rfl ?_)
    refine r_goto (tgt := 102) (dc dkX5_fewest 53 rfl) rfl ?_
    refine r_pick [0, 1, 2, 3, 4] rfl ?_
    exact jj102 _ (by first | exact bT (by omega) | exact bF (by omega))
  refine r_iconst (dc dkX5_fewest 18 rfl) (np 38 rfl ?_)
  exact r_iret (dc dkX5_fewest 19 rfl) rfl ⟨sq, _, rfl, fun _ => rfl, fun u => by omega⟩
set_option maxRecDepth 100000 in
set_option maxHeartbeats 4000000 in
theorem c_X12_moved {σ : jS} (hD : okD σ 28) (hB : okB σ 30) (hw : 0 < σ 30 0 → (2 ≤ σ 28 0 ∧ σ 28 0 ≤ 10) ∧ (2 ≤ σ 28 1 ∧ σ 28 1 ≤ 10)) (ht : ∀ b, 0 ≤ b → b < σ 30 0 → σ 32 b = 3 → tri3 (pkC σ 28) (bAt σ 30 b)) {a b : Int} (ha : iR a) (hb : iR b) : Jm 7 miX12_moved [.ref 0, vI a, vI b] σ (fun r τ => same [17, 18, 19, 20, 21, 22] σ τ ∧ ∃ v, r = some (vI v) ∧ (¬ (((0 ≤ a ∧ a < σ 30 0) ∧ (0 ≤ b ∧ b < σ 30 0) ∧ σ 32 a = 3 ∧ σ 32 b = 3) ∧ σ 28 0 * σ 28 1 ≤ 36) → v = -1) ∧ (((0 ≤ a ∧ a < σ 30 0) ∧ (0 ≤ b ∧ b < σ 30 0) ∧ σ 32 a = 3 ∧ σ 32 b = 3) ∧ σ 28 0 * σ 28 1 ≤ 36 → ans (fun k => (H3 (σ 28 0) (σ 28 1) (pkC σ 28) (ixW (σ 28 0) (bAt σ 30 a 0)) (ixW (σ 28 0) (bAt σ 30 a 1)) (ixW (σ 28 0) (bAt σ 30 a 2))) k (nm3 (ixW (σ 28 0) (bAt σ 30 b 0)) (ixW (σ 28 0) (bAt σ 30 b 1)) (ixW (σ 28 0) (bAt σ 30 b 2)))) v)) := by
  have m8 := hB.1
  refine jm_ofF (Po := (fun r τ => same [17, 18, 19, 20, 21, 22] σ τ ∧ ∃ v, r = some (vI v) ∧ (¬ (((0 ≤ a ∧ a < σ 30 0) ∧ (0 ≤ b ∧ b < σ 30 0) ∧ σ 32 a = 3 ∧ σ 32 b = 3) ∧ σ 28 0 * σ 28 1 ≤ 36) → v = -1) ∧ (((0 ≤ a ∧ a < σ 30 0) ∧ (0 ≤ b ∧ b < σ 30 0) ∧ σ 32 a = 3 ∧ σ 32 b = 3) ∧ σ 28 0 * σ 28 1 ≤ 36 → ans (fun k => (H3 (σ 28 0) (σ 28 1) (pkC σ 28) (ixW (σ 28 0) (bAt σ 30 a 0)) (ixW (σ 28 0) (bAt σ 30 a 1)) (ixW (σ 28 0) (bAt σ 30 a 2))) k (nm3 (ixW (σ 28 0) (bAt σ 30 b 0)) (ixW (σ 28 0) (bAt σ 30 b 1)) (ixW (σ 28 0) (bAt σ 30 b 2)))) v))) (plainFor_of_name (by decide)) (Nat.le_of_ble_eq_true rfl) (lv := [(0, _), (1, _), (2, _)]) rfl ?_
  refine r_aload_n (dc dkX12_moved 0 rfl) rfl (np 1 rfl ?_)
  refine r_getR (dc dkX12_moved 1 rfl) flX12_24 fd_0_2 (np 4 rfl ?_)
  refine r_getR (dc dkX12_moved 2 rfl) flX12_105 fd_27_1 (np 7 rfl ?_)
  refine r_getR (dc dkX12_moved 3 rfl) flX12_167 fd_28_9 (np 10 rfl ?_)
  refine r_astore_n (lv' := [(3, _), (0, _), (1, _), (2, _)]) (dc dkX12_moved 4 rfl) (Nat.le_of_ble_eq_true rfl) rfl (np 11 rfl ?_)
  refine r_aload_n (dc dkX12_moved 5 rfl) rfl (np 12 rfl ?_)
  refine r_iload_n (dc dkX12_moved 6 rfl) rfl (np 13 rfl ?_)
  refine r_pV1 (y' := miX0_has) (dc dkX12_moved 7 rfl) mlX12_171 ceX0_has ob_30 (Nat.le_of_ble_eq_true rfl) (Nat.le_of_ble_eq_true rfl) (c_X0_has isBands_at30 hB (by omega)) (np 16 rfl ?_)
  refine r_bz (tgt := 45) (dc dkX12_moved 8 rfl) rfl (fun h16 => ?_) (fun h16 => (np 19 rfl ?_))
  · skip
    refine r_iconst (dc dkX12_moved 23 rfl) (np 46 rfl ?_)
    exact r_iret (dc dkX12_moved 24 rfl) rfl ⟨same.refl _ _, _, rfl, fun _ => rfl, fun u => by first | exact absurd u.1.1 h16 | exact absurd u.1.2.1 h24 | exact absurd u.1.2.2.1 h33 | exact absurd u.1.2.2.2 h42⟩
  have sa := hB.2.1 a (by omega) (by omega)
  refine r_aload_n (dc dkX12_moved 9 rfl) rfl (np 20 rfl ?_)
  refine r_iload_n (dc dkX12_moved 10 rfl) rfl (np 21 rfl ?_)
  refine r_pV1 (y' := miX0_has) (dc dkX12_moved 11 rfl) mlX12_171 ceX0_has ob_30 (Nat.le_of_ble_eq_true rfl) (Nat.le_of_ble_eq_true rfl) (c_X0_has isBands_at30 hB (by omega)) (np 24 rfl ?_)
  refine r_bz (tgt := 45) (dc dkX12_moved 12 rfl) rfl (fun h24 => ?_) (fun h24 => (np 27 rfl ?_))
  · skip
    refine r_iconst (dc dkX12_moved 23 rfl) (np 46 rfl ?_)
    exact r_iret (dc dkX12_moved 24 rfl) rfl ⟨same.refl _ _, _, rfl, fun _ => rfl, fun u => by first | exact absurd u.1.1 h16 | exact absurd u.1.2.1 h24 | exact absurd u.1.2.2.1 h33 | exact absurd u.1.2.2.2 h42⟩
  have sb := hB.2.1 b (by omega) (by omega)
  refine r_aload_n (dc dkX12_moved 13 rfl) rfl (np 28 rfl ?_)
  refine r_iload_n (dc dkX12_moved 14 rfl) rfl (np 29 rfl ?_)
  refine r_pV1 (y' := miX0_sizeOf) (dc dkX12_moved 15 rfl) mlX12_177 ceX0_sizeOf ob_30 (Nat.le_of_ble_eq_true rfl) (Nat.le_of_ble_eq_true rfl) (c_X0_sizeOf isBands_at30 (by omega) (by omega)) (np 32 rfl ?_)
  refine r_iconst (dc dkX12_moved 16 rfl) (np 33 rfl ?_)
  refine r_icmp_ne (tgt := 45) (dc dkX12_moved 17 rfl) rfl (by first | assumption | decide | omega) (by first | assumption | decide | omega) (fun h33 => ?_) (fun h33 => (np 36 rfl ?_))
  · skip
    refine r_iconst (dc dkX12_moved 23 rfl) (np 46 rfl ?_)
    exact r_iret (dc dkX12_moved 24 rfl) rfl ⟨same.refl _ _, _, rfl, fun _ => rfl, fun u => by first | exact absurd u.1.1 h16 | exact absurd u.1.2.1 h24 | exact absurd u.1.2.2.1 h33 | exact absurd u.1.2.2.2 h42⟩
  refine r_aload_n (dc dkX12_moved 18 rfl) rfl (np 37 rfl ?_)
  refine r_iload_n (dc dkX12_moved 19 rfl) rfl (np 38 rfl ?_)
  refine r_pV1 (y' := miX0_sizeOf) (dc dkX12_moved 20 rfl) mlX12_177 ceX0_sizeOf ob_30 (Nat.le_of_ble_eq_true rfl) (Nat.le_of_ble_eq_true rfl) (c_X0_sizeOf isBands_at30 (by omega) (by omega)) (np 41 rfl ?_)
  refine r_iconst (dc dkX12_moved 21 rfl) (np 42 rfl ?_)
  refine r_icmp_eq (tgt := 47) (dc dkX12_moved 22 rfl) rfl (by first | assumption | decide | omega) (by first | assumption | decide | omega) (fun h42 => ?_) (fun h42 => (np 45 rfl ?_))
  · skip
    refine r_aload_n (dc dkX12_moved 25 rfl) rfl (np 48 rfl ?_)
    refine r_getR (dc dkX12_moved 26 rfl) flX12_74 fd_0_11 (np 51 rfl ?_)
    refine r_aload_n (dc dkX12_moved 27 rfl) rfl (np 52 rfl ?_)
    refine r_getR (dc dkX12_moved 28 rfl) flX12_24 fd_0_2 (np 55 rfl ?_)
    refine r_getR (dc dkX12_moved 29 rfl) flX12_105 fd_27_1 (np 58 rfl ?_)
    refine r_iload_n (dc dkX12_moved 30 rfl) rfl (np 59 rfl ?_)
    refine r_iload_n (dc dkX12_moved 31 rfl) rfl (np 60 rfl ?_)
    refine r_cV3 (y' := miX5_fewest) (dc dkX12_moved 32 rfl) mlX12_330 ceX5_fewest ob_17 (Nat.le_of_ble_eq_true rfl) (Nat.le_of_ble_eq_true rfl) (c_X5_fewest hD hB (hw (by omega)).1 (hw (by omega)).2 (by omega) (by omega) h33 h42 (ht a h16.1 h16.2 h33) (ht b h24.1 h24.2 h42)) (fun r τ hp => (np 63 rfl ?_))
    obtain ⟨S, v, rfl, e1, e2⟩ := hp
    exact r_iret (dc dkX12_moved 33 rfl) rfl ⟨S, _, rfl, fun u => e1 (fun v => u ⟨⟨h16, h24, h33, h42⟩, v⟩), fun u => e2 u.2⟩
  refine r_iconst (dc dkX12_moved 23 rfl) (np 46 rfl ?_)
  exact r_iret (dc dkX12_moved 24 rfl) rfl ⟨same.refl _ _, _, rfl, fun _ => rfl, fun u => by first | exact absurd u.1.1 h16 | exact absurd u.1.2.1 h24 | exact absurd u.1.2.2.1 h33 | exact absurd u.1.2.2.2 h42⟩
