/-! ===== a whole board's text ===== -/
section
variable {t : Int → Int} {L m : Int}
theorem okU_ln {R : Int × Int} {D N : Int → Int} (hU : okU D N) (hV : okV D) (hq : R.2 ≤ L) (h : (lnR t L m R D N).1 = 0) : okU (lnD t L m R D N) (lnN t L m R D N) := by
  unfold lnR at h
  have h2 := (xpR_f h).1.1
  unfold lnD lnN
  unfold ln0 at h2
  by_cases k1 : tK t L m R.2 = 101
  · rw [gte_t k1, gte_f (by omega)]
    intro b b0 b1
    exact hU b b0 (by unfold blD at b1; rw [up_ne (by decide)] at b1; exact b1)
  · rw [gte_f k1] at h2 ⊢
    by_cases k2 : tK t L m R.2 = 102
    · rw [gte_t k2] at h2
      rw [gte_t k2, gte_f (by omega)]
      have := ot_0 h2
      have hp : otP t L m R D = 10 * nQ t L m (ot1 t L m R D).2 + nQ t L m (ot0 t L m R D).2 := rfl
      intro b b0 b1
      exact hU b b0 (by unfold otD at b1; rw [up_ne (by decide), up_ne (by omega)] at b1; exact b1)
    · rw [gte_f k2] at h2 ⊢
      by_cases k3 : tK t L m R.2 = 103
      · rw [gte_t k3] at h2 ⊢
        have h3 := (bnR_0 h2).2.1
        have h4 := bn_chain h3
        have h5 := (bf_g2 (t := t) (L := L) (m := m) (P := 8 ≤ D 4) (f := 4) (R := R) (by decide) (by omega) (by omega)) h4.2.2.1.1
        exact okU_bn hU hV (h5.2 hq).2 h3
      · rw [gte_f k3] at h2; exact absurd h2 (flR_f (by decide))
end
noncomputable def bdF (t : Int → Int) (L : Int) (N : Int → Int) : (Int × Int) × (Int → Int) × (Int → Int) × Int × Int := lnF t L 600 641 (hdR t L 600 (0, 0)) (hdD t L 600 (0, 0) (fun _ => 0)) N 1
theorem lnF_e {t : Int → Int} {L m n : Int} {R : Int × Int} {D N : Int → Int} {k : Nat} (h : ¬ R.1 = 0 ∨ tK t L m R.2 = 0) : lnF t L m k R D N n = (R, D, N, n, 0) := by
  cases k with
  | zero => rfl
  | succ k => rw [lnF, gte_t h]
theorem lnF_y {t : Int → Int} {L m n : Int} {R : Int × Int} {D N : Int → Int} {k : Nat} (h : ¬ (¬ R.1 = 0 ∨ tK t L m R.2 = 0)) (g : (lnR t L m R D N).1 = 0) : lnF t L m (k + 1) R D N n = lnF t L m k (lnR t L m R D N) (lnD t L m R D N) (lnN t L m R D N) (n + 1) := by rw [lnF, gte_f h, gte_t g]
theorem lnF_n {t : Int → Int} {L m n : Int} {R : Int × Int} {D N : Int → Int} {k : Nat} (h : ¬ (¬ R.1 = 0 ∨ tK t L m R.2 = 0)) (g : ¬ (lnR t L m R D N).1 = 0) : lnF t L m (k + 1) R D N n = (lnR t L m R D N, D, N, n + 1, bnW t L m R D N) := by rw [lnF, gte_f h, gte_f g]
theorem RC_cp {σ τ : jS} {k o : Nat} {D : Int → Int} (h : RC σ o D) (hV : okV D) (c : cpD σ τ k o) : RC τ k D := by
  obtain ⟨r0, r1, r2, r3, r4, r5, r6⟩ := h
  obtain ⟨c1, c2, c3, c4, c5, c6⟩ := c
  have v4 := hV.2.2.2.1
  refine ⟨by rw [c1 0 (by decide) (by decide)]; exact r0, by rw [c1 1 (by decide) (by decide)]; exact r1, by rw [c1 2 (by decide) (by decide)]; exact r2, by rw [c1 3 (by decide) (by decide)]; exact r3, by rw [c3]; exact r4, fun p p0 p1 => ?_, fun b b0 b1 => ?_⟩
  · have : outB τ k p = outB σ o p := by unfold outB; rw [c1 4 (by decide) (by decide), c1 5 (by decide) (by decide)]
    rw [this]; exact r5 p p0 p1
  · have q := r6 b b0 b1
    have g := (hV.2.2.2.2.2.2 b b0 b1).1
    refine ⟨by rw [show k + 4 = k + 2 + 2 from rfl, c5 b b0 (by omega)]; exact q.1, fun i i0 i1 => ?_⟩
    rw [show k + 5 = k + 2 + 3 from rfl, c6 _ (by omega) (by omega)]
    exact q.2 i i0 i1
theorem nmD_cp {σ τ : jS} {k o : Nat} {D N : Int → Int} (h : nmD σ o D N) (hV : okV D) (c : cpD σ τ k o) : nmD τ k D N := by
  obtain ⟨c1, c2, c3, c4, c5, c6⟩ := c
  have v4 := hV.2.2.2.1
  refine ⟨by rw [c1 6 (by decide) (by decide)]; exact h.1, fun b b0 b1 => ?_⟩
  have q := h.2 b b0 b1
  exact ⟨by rw [show k + 3 = k + 2 + 1 from rfl, c4 b b0 (by omega)]; exact q.1, by rw [c2 b b0 (by omega)]; exact q.2⟩
theorem okA_cp {σ τ : jS} {k o : Nat} (h : okA σ o) (c : cpD σ τ k o) (h7 : cB 5 (τ k 7)) : okA τ k := by
  obtain ⟨c1, c2, c3⟩ := c
  refine ⟨cpB_ok c3 h.1, fun j j0 j1 => by rw [c2 j j0 j1]; exact h.2.1 j j0 j1, by rw [c1 6 (by decide) (by decide)]; exact h.2.2.1, h7⟩
theorem rd_pl {t : Int → Int} {L m : Int} {R : Int × Int} {σ : jS} (h : rd t L m R σ) (h0 : ¬ R.1 = 0) : σ 1 8 = R.2 := h.2.2.2.2.2.2.2.2.2 h0
theorem rd_q {t : Int → Int} {L m : Int} {R : Int × Int} {σ : jS} (h : rd t L m R σ) (h0 : R.1 = 0) : 0 ≤ R.2 ∧ R.2 ≤ L := ⟨h.2.2.2.2.2.2.1.1, (h.2.2.2.2.2.2.2.2.1 h0).1⟩
set_option maxRecDepth 100000 in
set_option maxHeartbeats 4000000 in
theorem c_X12_board {σ : jS} (hL : cB 640 (σ 2 1)) (hA : okA σ 41) (hA8 : cB 5 (σ 28 7)) {N : Int → Int} : Jm 13 miX12_board [.ref 0] σ (fun r τ => (same [0, 1, 2, 6, 27, 28, 29, 30, 31, 32, 33, 34, 38, 41, 42, 43, 44, 45, 46] σ τ ∧ okA τ 41 ∧ τ 2 1 = 0 ∧ (∀ j, ¬ j = 6 → ¬ j = 13 → ¬ j = 14 → τ 0 j = σ 0 j) ∧ τ 0 13 = (bdF (tpe σ) (σ 2 1) N).1.1 ∧ τ 0 14 = (if (bdF (tpe σ) (σ 2 1) N).1.1 = 5 then (bdF (tpe σ) (σ 2 1) N).2.2.2.2 else σ 0 14)) ∧ ((bdF (tpe σ) (σ 2 1) N).1.1 = 0 → r = some (vI (bdF (tpe σ) (σ 2 1) N).2.2.2.1) ∧ RC τ 28 (bdF (tpe σ) (σ 2 1) N).2.1 ∧ nmD τ 28 (bdF (tpe σ) (σ 2 1) N).2.1 (bdF (tpe σ) (σ 2 1) N).2.2.1 ∧ okA τ 28 ∧ (okV (bdF (tpe σ) (σ 2 1) N).2.1 ∧ okT2 (bdF (tpe σ) (σ 2 1) N).2.1 ∧ okU (bdF (tpe σ) (σ 2 1) N).2.1 (bdF (tpe σ) (σ 2 1) N).2.2.1) ∧ τ 34 0 = 0 ∧ τ 27 3 = 0 ∧ τ 38 0 = 0 ∧ τ 38 1 = 0 ∧ τ 0 6 = 0 ∧ τ 28 7 = σ 28 7) ∧ (¬ (bdF (tpe σ) (σ 2 1) N).1.1 = 0 → r = some (vI (-1 - (bdF (tpe σ) (σ 2 1) N).1.2)) ∧ τ 0 6 = σ 0 6 ∧ ∀ c, 27 ≤ c → c < 40 → τ c = σ c)) := by
  refine jm_ofF (Po := (fun r τ => (same [0, 1, 2, 6, 27, 28, 29, 30, 31, 32, 33, 34, 38, 41, 42, 43, 44, 45, 46] σ τ ∧ okA τ 41 ∧ τ 2 1 = 0 ∧ (∀ j, ¬ j = 6 → ¬ j = 13 → ¬ j = 14 → τ 0 j = σ 0 j) ∧ τ 0 13 = (bdF (tpe σ) (σ 2 1) N).1.1 ∧ τ 0 14 = (if (bdF (tpe σ) (σ 2 1) N).1.1 = 5 then (bdF (tpe σ) (σ 2 1) N).2.2.2.2 else σ 0 14)) ∧ ((bdF (tpe σ) (σ 2 1) N).1.1 = 0 → r = some (vI (bdF (tpe σ) (σ 2 1) N).2.2.2.1) ∧ RC τ 28 (bdF (tpe σ) (σ 2 1) N).2.1 ∧ nmD τ 28 (bdF (tpe σ) (σ 2 1) N).2.1 (bdF (tpe σ) (σ 2 1) N).2.2.1 ∧ okA τ 28 ∧ (okV (bdF (tpe σ) (σ 2 1) N).2.1 ∧ okT2 (bdF (tpe σ) (σ 2 1) N).2.1 ∧ okU (bdF (tpe σ) (σ 2 1) N).2.1 (bdF (tpe σ) (σ 2 1) N).2.2.1) ∧ τ 34 0 = 0 ∧ τ 27 3 = 0 ∧ τ 38 0 = 0 ∧ τ 38 1 = 0 ∧ τ 0 6 = 0 ∧ τ 28 7 = σ 28 7) ∧ (¬ (bdF (tpe σ) (σ 2 1) N).1.1 = 0 → r = some (vI (-1 - (bdF (tpe σ) (σ 2 1) N).1.2)) ∧ τ 0 6 = σ 0 6 ∧ ∀ c, 27 ≤ c → c < 40 → τ c = σ c))) (plainFor_of_name (by decide)) (Nat.le_of_ble_eq_true rfl) (lv := [(0, _)]) rfl ?_
  refine r_aload_n (dc dkX12_board 0 rfl) rfl (np 1 rfl ?_)
  refine r_getR (dc dkX12_board 1 rfl) flX12_10 fd_0_0 (np 4 rfl ?_)
  refine r_sipush (dc dkX12_board 2 rfl) sp_600 (np 7 rfl ?_)
  refine r_cV1 (y' := miX8_open) (dc dkX12_board 3 rfl) mlX12_102 ceX8_open ob_1 (Nat.le_of_ble_eq_true rfl) (Nat.le_of_ble_eq_true rfl) (c_X8_open (by decide) hL) (fun r τ1 hp1 => (np 10 rfl ?_))
  obtain ⟨rfl, hs1, hR1⟩ := hp1
  have hA1 : okA τ1 41 := okA_41 hA (hs1 42 (by decide)) (hs1 44 (by decide)) (hs1 45 (by decide)) (hs1 46 (by decide)) (by rw [hs1 43 (by decide)]; exact hA.1.1) (by rw [hs1 41 (by decide)]; exact hA.2.2.1) (by rw [hs1 41 (by decide)]; exact hA.2.2.2)
  refine r_aload_n (dc dkX12_board 4 rfl) rfl (np 11 rfl ?_)
  refine r_getR (dc dkX12_board 5 rfl) flX12_28 fd_0_3 (np 14 rfl ?_)
  refine r_getR (dc dkX12_board 6 rfl) flX12_105 fd_40_1 (np 17 rfl ?_)
  refine r_aload_n (dc dkX12_board 7 rfl) rfl (np 18 rfl ?_)
  refine r_getR (dc dkX12_board 8 rfl) flX12_10 fd_0_0 (np 21 rfl ?_)
  refine r_cV1 (y' := miX1_readSize) (dc dkX12_board 9 rfl) mlX12_109 ceX1_readSize ob_41 (Nat.le_of_ble_eq_true rfl) (Nat.le_of_ble_eq_true rfl) (c_X1_readSize hR1 hA1 (D := fun _ => 0) (N := N) (fun _ _ _ => rfl)) (fun r τ2 hp2 => (np 24 rfl ?_))
  obtain ⟨rfl, hs2, hA2, hR2, hC2⟩ := hp2
  have hS2 : same [1, 6, 41, 42, 43, 44, 45, 46] σ τ2 := (hs1.wide (by decide)).tr hs2
  have jj82 : ∀ (n i : Int) (τ : jS), same [1, 6, 41, 42, 43, 44, 45, 46] σ τ ∧ okA τ 41 ∧ rd (tpe σ) (σ 2 1) 600 (bdF (tpe σ) (σ 2 1) N).1 τ ∧ ((bdF (tpe σ) (σ 2 1) N).1.1 = 0 → n = (bdF (tpe σ) (σ 2 1) N).2.2.2.1 ∧ (RC τ 41 (bdF (tpe σ) (σ 2 1) N).2.1 ∧ nmD τ 41 (bdF (tpe σ) (σ 2 1) N).2.1 (bdF (tpe σ) (σ 2 1) N).2.2.1 ∧ okV (bdF (tpe σ) (σ 2 1) N).2.1 ∧ okT2 (bdF (tpe σ) (σ 2 1) N).2.1 ∧ okU (bdF (tpe σ) (σ 2 1) N).2.1 (bdF (tpe σ) (σ 2 1) N).2.2.1)) ∧ ((bdF (tpe σ) (σ 2 1) N).1.1 = 5 → τ 41 7 = (bdF (tpe σ) (σ 2 1) N).2.2.2.2) → jR 13 miX12_board (fun r τ => (same [0, 1, 2, 6, 27, 28, 29, 30, 31, 32, 33, 34, 38, 41, 42, 43, 44, 45, 46] σ τ ∧ okA τ 41 ∧ τ 2 1 = 0 ∧ (∀ j, ¬ j = 6 → ¬ j = 13 → ¬ j = 14 → τ 0 j = σ 0 j) ∧ τ 0 13 = (bdF (tpe σ) (σ 2 1) N).1.1 ∧ τ 0 14 = (if (bdF (tpe σ) (σ 2 1) N).1.1 = 5 then (bdF (tpe σ) (σ 2 1) N).2.2.2.2 else σ 0 14)) ∧ ((bdF (tpe σ) (σ 2 1) N).1.1 = 0 → r = some (vI (bdF (tpe σ) (σ 2 1) N).2.2.2.1) ∧ RC τ 28 (bdF (tpe σ) (σ 2 1) N).2.1 ∧ nmD τ 28 (bdF (tpe σ) (σ 2 1) N).2.1 (bdF (tpe σ) (σ 2 1) N).2.2.1 ∧ okA τ 28 ∧ (okV (bdF (tpe σ) (σ 2 1) N).2.1 ∧ okT2 (bdF (tpe σ) (σ 2 1) N).2.1 ∧ okU (bdF (tpe σ) (σ 2 1) N).2.1 (bdF (tpe σ) (σ 2 1) N).2.2.1) ∧ τ 34 0 = 0 ∧ τ 27 3 = 0 ∧ τ 38 0 = 0 ∧ τ 38 1 = 0 ∧ τ 0 6 = 0 ∧ τ 28 7 = σ 28 7) ∧ (¬ (bdF (tpe σ) (σ 2 1) N).1.1 = 0 → r = some (vI (-1 - (bdF (tpe σ) (σ 2 1) N).1.2)) ∧ τ 0 6 = σ 0 6 ∧ ∀ c, 27 ≤ c → c < 40 → τ c = σ c)) 82 [(0, .ref 0), (1, vI n), (2, vI i)] [] τ := by
    intro n i τ hq
    obtain ⟨hS, oA, hRc, hg0, hw5⟩ := hq
    have e7 := rd_e hRc
    have e0 : τ 0 = σ 0 := hS 0 (by decide)
    have jj107 : ∀ τ5 : jS, (∀ c, ¬ c = 0 → τ5 c = τ c) ∧ (∀ j, ¬ j = 14 → τ5 0 j = τ 0 j) ∧ τ5 0 14 = (if (bdF (tpe σ) (σ 2 1) N).1.1 = 5 then (bdF (tpe σ) (σ 2 1) N).2.2.2.2 else τ 0 14) → jR 13 miX12_board (fun r τ => (same [0, 1, 2, 6, 27, 28, 29, 30, 31, 32, 33, 34, 38, 41, 42, 43, 44, 45, 46] σ τ ∧ okA τ 41 ∧ τ 2 1 = 0 ∧ (∀ j, ¬ j = 6 → ¬ j = 13 → ¬ j = 14 → τ 0 j = σ 0 j) ∧ τ 0 13 = (bdF (tpe σ) (σ 2 1) N).1.1 ∧ τ 0 14 = (if (bdF (tpe σ) (σ 2 1) N).1.1 = 5 then (bdF (tpe σ) (σ 2 1) N).2.2.2.2 else σ 0 14)) ∧ ((bdF (tpe σ) (σ 2 1) N).1.1 = 0 → r = some (vI (bdF (tpe σ) (σ 2 1) N).2.2.2.1) ∧ RC τ 28 (bdF (tpe σ) (σ 2 1) N).2.1 ∧ nmD τ 28 (bdF (tpe σ) (σ 2 1) N).2.1 (bdF (tpe σ) (σ 2 1) N).2.2.1 ∧ okA τ 28 ∧ (okV (bdF (tpe σ) (σ 2 1) N).2.1 ∧ okT2 (bdF (tpe σ) (σ 2 1) N).2.1 ∧ okU (bdF (tpe σ) (σ 2 1) N).2.1 (bdF (tpe σ) (σ 2 1) N).2.2.1) ∧ τ 34 0 = 0 ∧ τ 27 3 = 0 ∧ τ 38 0 = 0 ∧ τ 38 1 = 0 ∧ τ 0 6 = 0 ∧ τ 28 7 = σ 28 7) ∧ (¬ (bdF (tpe σ) (σ 2 1) N).1.1 = 0 → r = some (vI (-1 - (bdF (tpe σ) (σ 2 1) N).1.2)) ∧ τ 0 6 = σ 0 6 ∧ ∀ c, 27 ≤ c → c < 40 → τ c = σ c)) 107 [(0, .ref 0), (1, vI n)] [] τ5 := by
      intro τ5 E1
      refine r_aload_n (dc dkX12_board 47 rfl) rfl (np 108 rfl ?_)
      refine r_cV0 (y' := miX12_hasFault) (dc dkX12_board 48 rfl) mlX12_132 ceX12_hasFault ob_0 (Nat.le_of_ble_eq_true rfl) (Nat.le_of_ble_eq_true rfl) (c_X12_hasFault (by rw [E1.1 1 (by decide), e7.1]; have := e7.2; omega)) (fun r τ6 hp6 => (np 111 rfl ?_))
      obtain ⟨rfl, hp6⟩ := hp6
      have t6 : ∀ c, ¬ c = 0 → ¬ c = 2 → τ6 c = τ c := fun c h1 h2 => by rw [hp6, ju_off _ _ _ _ _ h1, ju_off _ _ _ _ _ h2, E1.1 c h1]
      have f1 : τ5 1 7 = (bdF (tpe σ) (σ 2 1) N).1.1 := by rw [E1.1 1 (by decide)]; exact e7.1
      refine r_bz (tgt := 124) (dc dkX12_board 49 rfl) rfl (fun h111 => ?_) (fun h111 => (np 114 rfl ?_))
      · skip
        have hz : (bdF (tpe σ) (σ 2 1) N).1.1 = 0 := Classical.byContradiction (fun z => h111 (by rw [f1]; exact z))
        have hg := hg0 hz
        refine r_aload_n (dc dkX12_board 56 rfl) rfl (np 125 rfl ?_)
        refine r_getR (dc dkX12_board 57 rfl) flX12_24 fd_0_2 (np 128 rfl ?_)
        refine r_getR (dc dkX12_board 58 rfl) flX12_105 fd_27_1 (np 131 rfl ?_)
        refine r_aload_n (dc dkX12_board 59 rfl) rfl (np 132 rfl ?_)
        refine r_getR (dc dkX12_board 60 rfl) flX12_28 fd_0_3 (np 135 rfl ?_)
        refine r_getR (dc dkX12_board 61 rfl) flX12_105 fd_40_1 (np 138 rfl ?_)
        refine r_cV1 (y' := miX1_copyFrom) (dc dkX12_board 62 rfl) mlX12_138 ceX1_copyFrom ob_28 (Nat.le_of_ble_eq_true rfl) (Nat.le_of_ble_eq_true rfl) (c_X1_copyFrom isBoard_at28 isBoard_at41 (by decide) (by rw [t6 41 (by decide) (by decide), hg.2.1.2.2.1]; have := hg.2.2.2.1.2.1; omega)) (fun r τ7 hp7 => (np 141 rfl ?_))
        obtain ⟨rfl, hs7, hw7, hc7⟩ := hp7
        refine r_aload_n (dc dkX12_board 63 rfl) rfl (np 142 rfl ?_)
        refine r_getR (dc dkX12_board 64 rfl) flX12_24 fd_0_2 (np 145 rfl ?_)
        refine r_getR (dc dkX12_board 65 rfl) flX12_142 fd_27_2 (np 148 rfl ?_)
        refine r_iconst (dc dkX12_board 66 rfl) (np 149 rfl ?_)
        refine r_pI 0 (dc dkX12_board 67 rfl) fpX12_146 fd_34_0 rfl (np 152 rfl ?_)
        refine r_aload_n (dc dkX12_board 68 rfl) rfl (np 153 rfl ?_)
        refine r_getR (dc dkX12_board 69 rfl) flX12_24 fd_0_2 (np 156 rfl ?_)
        refine r_iconst (dc dkX12_board 70 rfl) (np 157 rfl ?_)
        refine r_pI 3 (dc dkX12_board 71 rfl) fpX12_151 fd_27_3 rfl (np 160 rfl ?_)
        refine r_aload_n (dc dkX12_board 72 rfl) rfl (np 161 rfl ?_)
        refine r_getR (dc dkX12_board 73 rfl) flX12_24 fd_0_2 (np 164 rfl ?_)
        refine r_getR (dc dkX12_board 74 rfl) flX12_154 fd_27_5 (np 167 rfl ?_)
        refine r_cV0 (y' := miX9_clear) (dc dkX12_board 75 rfl) mlX12_158 ceX9_clear ob_38 (Nat.le_of_ble_eq_true rfl) (Nat.le_of_ble_eq_true rfl) (c_X9_clear isSentence_at38) (fun r τ8 hp8 => (np 170 rfl ?_))
        obtain ⟨rfl, hp8⟩ := hp8
        refine r_aload_n (dc dkX12_board 76 rfl) rfl (np 171 rfl ?_)
        refine r_iconst (dc dkX12_board 77 rfl) (np 172 rfl ?_)
        refine r_pI 6 (dc dkX12_board 78 rfl) fpX12_41 fd_0_6 rfl (np 175 rfl ?_)
        refine r_iload_n (dc dkX12_board 79 rfl) rfl (np 176 rfl ?_)
        exact r_iret (dc dkX12_board 80 rfl) rfl (by
            obtain ⟨hn, g1, g2, g3, g4, g5⟩ := hg
            have c6 : ∀ c, 41 ≤ c → c < 47 → τ6 c = τ c := fun c h1 h2 => t6 c (by omega) (by omega)
            have oA6 : okA τ6 41 := okA_41 oA (c6 42 (by decide) (by decide)) (c6 44 (by decide) (by decide)) (c6 45 (by decide) (by decide)) (c6 46 (by decide) (by decide)) (by rw [c6 43 (by decide) (by decide)]; exact oA.1.1) (by rw [c6 41 (by decide) (by decide)]; exact oA.2.2.1) (by rw [c6 41 (by decide) (by decide)]; exact oA.2.2.2)
            have RC6 := RC_t g1 (c6 41 (by decide) (by decide)) (c6 43 (by decide) (by decide)) (c6 45 (by decide) (by decide)) (c6 46 (by decide) (by decide))
            have nm6 := nmD_t g2 (c6 41 (by decide) (by decide)) (c6 42 (by decide) (by decide)) (c6 44 (by decide) (by decide))
            have w8 : τ7 28 7 = σ 28 7 := by rw [hw7, t6 28 (by decide) (by decide), hS 28 (by decide)]
            generalize hρ : ju τ8 0 6 0 = ρ
            have k8 : ∀ c, ¬ c = 0 → ¬ c = 27 → ¬ c = 34 → ¬ c = 38 → ρ c = τ7 c := fun c h0 h1 h2 h3 => by rw [← hρ, ju_off _ _ _ _ _ h0, hp8, ju_off _ _ _ _ _ h3, ju_off _ _ _ _ _ h3, ju_off _ _ _ _ _ h1, ju_off _ _ _ _ _ h2]
            have a1 : ∀ c, 28 ≤ c → c < 34 → ρ c = τ7 c := fun c h1 h2 => k8 c (by omega) (by omega) (by omega) (by omega)
            have cp := cpD_tgt hc7 (ρ := ρ) (fun c h1 h2 => a1 c (by omega) (by omega))
            have z0 : ∀ j, ¬ j = 6 → ρ 0 j = τ6 0 j := fun j hj => by rw [← hρ, ju_ne (by omega), hp8, ju_off _ _ _ _ _ (by decide), ju_off _ _ _ _ _ (by decide), ju_off _ _ _ _ _ (by decide), ju_off _ _ _ _ _ (by decide), hs7 0 (by decide)]
            refine ⟨⟨fun c hc => ?_, ?_, ?_, fun j j6 j13 j14 => ?_, ?_, ?_⟩, fun _ => ⟨by rw [hn], RC_cp RC6 g3 cp, nmD_cp nm6 g3 cp, okA_cp oA6 cp (by rw [a1 28 (by decide) (by decide), w8]; exact hA8), ⟨g3, g4, g5⟩, ?_, ?_, ?_, ?_, ?_, ?_⟩, fun z => absurd hz z⟩
            · simp at hc
              rw [k8 c (by omega) (by omega) (by omega) (by omega), hs7 c (by omega), t6 c (by omega) (by omega), hS c (by simp; omega)]
            · have b1 : ∀ c, 41 ≤ c → c < 47 → ρ c = τ6 c := fun c h1 h2 => by rw [k8 c (by omega) (by omega) (by omega) (by omega), hs7 c (by omega)]
              exact okA_41 oA6 (b1 42 (by decide) (by decide)) (b1 44 (by decide) (by decide)) (b1 45 (by decide) (by decide)) (b1 46 (by decide) (by decide)) (by rw [b1 43 (by decide) (by decide)]; exact oA6.1.1) (by rw [b1 41 (by decide) (by decide)]; exact oA6.2.2.1) (by rw [b1 41 (by decide) (by decide)]; exact oA6.2.2.2)
            · rw [k8 2 (by decide) (by decide) (by decide) (by decide), hs7 2 (by decide), hp6, ju_ne (by decide), ju_at]
            · rw [z0 j j6, hp6, ju_ne (by omega), ju_ne (by omega), E1.2.1 j j14, e0]
            · rw [z0 13 (by decide), hp6, ju_at, f1]
            · rw [z0 14 (by decide), hp6, ju_ne (by decide), ju_ne (by decide), E1.2.2, e0]
            · rw [← hρ, ju_ne (by decide), hp8, ju_ne (by decide), ju_ne (by decide), ju_ne (by decide), ju_at]
            · rw [← hρ, ju_ne (by decide), hp8, ju_ne (by decide), ju_ne (by decide), ju_at]
            · rw [← hρ, ju_ne (by decide), hp8, ju_ne (by decide), ju_at]
            · rw [← hρ, ju_ne (by decide), hp8, ju_at]
            · rw [← hρ, ju_at]
            · rw [a1 28 (by decide) (by decide), w8])
      have hz : ¬ (bdF (tpe σ) (σ 2 1) N).1.1 = 0 := by rw [f1] at h111; exact h111
      refine r_iconst (dc dkX12_board 50 rfl) (np 115 rfl ?_)
      refine r_aload_n (dc dkX12_board 51 rfl) rfl (np 116 rfl ?_)
      refine r_getR (dc dkX12_board 52 rfl) flX12_10 fd_0_0 (np 119 rfl ?_)
      refine r_gI 8 (dc dkX12_board 53 rfl) flX12_135 fd_1_8 rfl (np 122 rfl ?_)
      refine r_isub (dc dkX12_board 54 rfl) (np 123 rfl ?_)
      exact r_iret (dc dkX12_board 55 rfl) rfl (by
          refine ⟨⟨fun c hc => ?_, ?_, ?_, fun j j6 j13 j14 => ?_, ?_, ?_⟩, fun z => absurd z hz, fun _ => ⟨?_, ?_, fun c h1 h2 => ?_⟩⟩
          · simp at hc
            rw [t6 c (by omega) (by omega), hS c (by simp; omega)]
          · exact okA_41 oA (t6 42 (by decide) (by decide)) (t6 44 (by decide) (by decide)) (t6 45 (by decide) (by decide)) (t6 46 (by decide) (by decide)) (by rw [t6 43 (by decide) (by decide)]; exact oA.1.1) (by rw [t6 41 (by decide) (by decide)]; exact oA.2.2.1) (by rw [t6 41 (by decide) (by decide)]; exact oA.2.2.2)
          · rw [hp6, ju_ne (by decide), ju_at]
          · rw [hp6, ju_ne (by omega), ju_ne (by omega), E1.2.1 j j14, e0]
          · rw [hp6, ju_at, f1]
          · rw [hp6, ju_ne (by decide), ju_ne (by decide), E1.2.2, e0]
          · rw [t6 1 (by decide) (by decide), rd_pl hRc hz]
          · rw [hp6, ju_ne (by decide), ju_ne (by decide), E1.2.1 6 (by decide), e0]
          · rw [t6 c (by omega) (by omega), hS c (by simp; omega)])
    refine r_aload_n (dc dkX12_board 36 rfl) rfl (np 83 rfl ?_)
    refine r_getR (dc dkX12_board 37 rfl) flX12_10 fd_0_0 (np 86 rfl ?_)
    refine r_gI 7 (dc dkX12_board 38 rfl) flX12_126 fd_1_7 rfl (np 89 rfl ?_)
    refine r_iconst (dc dkX12_board 39 rfl) (np 90 rfl ?_)
    refine r_icmp_ne (tgt := 107) (dc dkX12_board 40 rfl) rfl (by rw [e7.1]; have := e7.2; omega) (by first | assumption | decide | omega) (fun h90 => ?_) (fun h90 => (np 93 rfl ?_))
    · skip
      refine r_pick [0, 1] rfl ?_
      exact jj107 _ (by
             first
             | (refine ⟨fun c hc => ju_off _ _ _ _ _ hc, fun j hj => ju_ne (by omega), ?_⟩
                rw [ju_at, if_pos (by omega)]
                exact hw5 (by omega))
             | (refine ⟨fun c hc => rfl, fun j hj => rfl, ?_⟩
                rw [if_neg (by omega)]))
    refine r_aload_n (dc dkX12_board 41 rfl) rfl (np 94 rfl ?_)
    refine r_aload_n (dc dkX12_board 42 rfl) rfl (np 95 rfl ?_)
    refine r_getR (dc dkX12_board 43 rfl) flX12_28 fd_0_3 (np 98 rfl ?_)
    refine r_getR (dc dkX12_board 44 rfl) flX12_105 fd_40_1 (np 101 rfl ?_)
    refine r_gI 7 (dc dkX12_board 45 rfl) flX12_129 fd_41_7 rfl (np 104 rfl ?_)
    refine r_pI 14 (dc dkX12_board 46 rfl) fpX12_88 fd_0_14 rfl (np 107 rfl ?_)
    refine r_pick [0, 1] rfl ?_
    exact jj107 _ (by
           first
           | (refine ⟨fun c hc => ju_off _ _ _ _ _ hc, fun j hj => ju_ne (by omega), ?_⟩
              rw [ju_at, if_pos (by omega)]
              exact hw5 (by omega))
           | (refine ⟨fun c hc => rfl, fun j hj => rfl, ?_⟩
              rw [if_neg (by omega)]))
  refine r_iconst (dc dkX12_board 10 rfl) (np 25 rfl ?_)
  refine r_istore_n (lv' := [(1, _), (0, _)]) (dc dkX12_board 11 rfl) (Nat.le_of_ble_eq_true rfl) rfl (np 26 rfl ?_)
  refine r_iconst (dc dkX12_board 12 rfl) (np 27 rfl ?_)
  refine r_istore_n (lv' := [(2, _), (1, _), (0, _)]) (dc dkX12_board 13 rfl) (Nat.le_of_ble_eq_true rfl) rfl (np 28 rfl ?_)
  refine r_pick [2, 1, 0] (lv' := [(0, _), (1, _), (2, _)]) rfl ?_
  refine jlp3 (P := fun (n : Int) (i : Int) (τ : jS) => jR _ _ _ 28 [(0, .ref 0), (1, vI n), (2, vI i)] [] τ) (I := fun (n : Int) (i : Int) (τ : jS) => (0 ≤ i ∧ i ≤ 321 ∧ n = i + 1) ∧ same [1, 6, 41, 42, 43, 44, 45, 46] σ τ ∧ okA τ 41 ∧ ∃ (Rc : Int × Int) (Dc Nc : Int → Int), rd (tpe σ) (σ 2 1) 600 Rc τ ∧ (Rc.1 = 0 → (RC τ 41 Dc ∧ nmD τ 41 Dc Nc ∧ okV Dc ∧ okT2 Dc ∧ okU Dc Nc) ∧ 2 * i ≤ Rc.2 ∧ Rc.2 ≤ σ 2 1 ∧ bdF (tpe σ) (σ 2 1) N = lnF (tpe σ) (σ 2 1) 600 (641 - i).toNat Rc Dc Nc n) ∧ (¬ Rc.1 = 0 → (bdF (tpe σ) (σ 2 1) N).1 = Rc ∧ (Rc.1 = 5 → τ 41 7 = (bdF (tpe σ) (σ 2 1) N).2.2.2.2))) (fun (n : Int) (i : Int) (τ : jS) => (641 - i).toNat) ?_ _ _ _ (by
        refine ⟨by omega, hS2, hA2, _, hdD (tpe σ) (σ 2 1) 600 (0, 0) (fun _ => 0), N, hR2, fun z => ?_, fun z => ?_⟩
        · have v := okV_hd (fun _ _ _ => rfl) z
          have q := hC2 z
          have p := rd_q hR2 z
          refine ⟨⟨q.1, q.2, v.1, v.2.1, fun b b0 b1 => ?_⟩, by omega, p.2, rfl⟩
          rw [v.2.2] at b1
          omega
        · exact ⟨by unfold bdF; rw [lnF_e (Or.inl z)], fun y => absurd y (hd_5 rfl)⟩)
  intro n i τ hI28 ih28
  obtain ⟨hb, hS, oA, Rc, Dc, Nc, hRc, hG, hX⟩ := hI28
  have e0 : τ 0 = σ 0 := hS 0 (by decide)
  refine r_iload_n (dc dkX12_board 14 rfl) rfl (np 29 rfl ?_)
  refine r_sipush (dc dkX12_board 15 rfl) sp_640 (np 32 rfl ?_)
  refine r_icmp_ge (tgt := 82) (dc dkX12_board 16 rfl) rfl (by first | assumption | decide | omega) (by first | assumption | decide | omega) (fun h32 => ?_) (fun h32 => (np 35 rfl ?_))
  · skip
    exact absurd h32 (by omega)
  refine r_aload_n (dc dkX12_board 17 rfl) rfl (np 36 rfl ?_)
  refine r_getR (dc dkX12_board 18 rfl) flX12_10 fd_0_0 (np 39 rfl ?_)
  refine r_pV0 (y' := miX8_isFine) (dc dkX12_board 19 rfl) mlX12_115 ceX8_isFine ob_1 (Nat.le_of_ble_eq_true rfl) (Nat.le_of_ble_eq_true rfl) (c_X8_isFine hRc) (np 42 rfl ?_)
  refine r_bz (tgt := 82) (dc dkX12_board 20 rfl) rfl (fun h42 => ?_) (fun h42 => (np 45 rfl ?_))
  · skip
    refine r_pick [0, 1, 2] rfl ?_
    exact jj82 _ _ _ (by
           first
           | (obtain ⟨x1, x2⟩ := hX (by assumption)
              refine ⟨hS, oA, by rw [x1]; exact hRc, fun z => absurd z (by rw [x1]; assumption), fun z => x2 (by rw [← x1]; exact z)⟩)
           | (obtain ⟨⟨g1, g2, g3, g4, g5⟩, g6, g7, g8⟩ := hG hf
              rw [hk] at h52
              rw [lnF_e (Or.inr h52)] at g8
              rw [g8]
              exact ⟨hS, oA, hRc, fun _ => ⟨rfl, g1, g2, g3, g4, g5⟩, fun z => absurd (show Rc.1 = 5 from z) (by omega)⟩))
  have hf : Rc.1 = 0 := by assumption
  have hk := rd_k hRc hf
  have hkb := tK_b (t := tpe σ) (L := σ 2 1) (m := 600) (p := Rc.2)
  refine r_aload_n (dc dkX12_board 21 rfl) rfl (np 46 rfl ?_)
  refine r_getR (dc dkX12_board 22 rfl) flX12_10 fd_0_0 (np 49 rfl ?_)
  refine r_gI 4 (dc dkX12_board 23 rfl) flX12_119 fd_1_4 rfl (np 52 rfl ?_)
  refine r_if_eq (tgt := 82) (dc dkX12_board 24 rfl) rfl (by rw [hk]; omega) (fun h52 => ?_) (fun h52 => (np 55 rfl ?_))
  · skip
    refine r_pick [0, 1, 2] rfl ?_
    exact jj82 _ _ _ (by
           first
           | (obtain ⟨x1, x2⟩ := hX (by assumption)
              refine ⟨hS, oA, by rw [x1]; exact hRc, fun z => absurd z (by rw [x1]; assumption), fun z => x2 (by rw [← x1]; exact z)⟩)
           | (obtain ⟨⟨g1, g2, g3, g4, g5⟩, g6, g7, g8⟩ := hG hf
              rw [hk] at h52
              rw [lnF_e (Or.inr h52)] at g8
              rw [g8]
              exact ⟨hS, oA, hRc, fun _ => ⟨rfl, g1, g2, g3, g4, g5⟩, fun z => absurd (show Rc.1 = 5 from z) (by omega)⟩))
  rw [hk] at h52
  refine r_aload_n (dc dkX12_board 25 rfl) rfl (np 56 rfl ?_)
  refine r_getR (dc dkX12_board 26 rfl) flX12_28 fd_0_3 (np 59 rfl ?_)
  refine r_getR (dc dkX12_board 27 rfl) flX12_105 fd_40_1 (np 62 rfl ?_)
  refine r_aload_n (dc dkX12_board 28 rfl) rfl (np 63 rfl ?_)
  refine r_getR (dc dkX12_board 29 rfl) flX12_10 fd_0_0 (np 66 rfl ?_)
  refine r_aload_n (dc dkX12_board 30 rfl) rfl (np 67 rfl ?_)
  refine r_getR (dc dkX12_board 31 rfl) flX12_45 fd_0_7 (np 70 rfl ?_)
  refine r_cV2 (y' := miX1_readLine) (dc dkX12_board 32 rfl) mlX12_122 ceX1_readLine ob_41 (Nat.le_of_ble_eq_true rfl) (Nat.le_of_ble_eq_true rfl) (c_X1_readLine hRc ⟨oA, (hG hf).1.1, (hG hf).1.2.1⟩ (hG hf).1.2.2.1 (hG hf).1.2.2.2.1 hf) (fun r τ3 hp3 => (np 73 rfl ?_))
  obtain ⟨rfl, hs3, oA3, hR3, hC3, hw3⟩ := hp3
  refine r_iinc (lv' := [(1, _), (0, _), (2, _)]) (dc dkX12_board 33 rfl) (Nat.le_of_ble_eq_true rfl) rfl rfl (np 76 rfl ?_)
  refine r_iinc (lv' := [(2, _), (1, _), (0, _)]) (dc dkX12_board 34 rfl) (Nat.le_of_ble_eq_true rfl) rfl rfl (np 79 rfl ?_)
  refine r_goto (tgt := 28) (dc dkX12_board 35 rfl) rfl ?_
  refine r_pick [2, 1, 0] rfl ?_
  exact ih28 _ _ _ (by
        obtain ⟨⟨g1, g2, g3, g4, g5⟩, g6, g7, g8⟩ := hG hf
        have hno : ¬ (¬ Rc.1 = 0 ∨ tK (tpe σ) (σ 2 1) 600 Rc.2 = 0) := fun z => z.elim (fun z => z hf) h52
        have hK : (641 - i).toNat = (641 - (i + 1)).toNat + 1 := by omega
        refine ⟨by omega, hS.tr hs3, oA3, _, lnD (tpe σ) (σ 2 1) 600 Rc Dc Nc, lnN (tpe σ) (σ 2 1) 600 Rc Dc Nc, hR3, fun z => ?_, fun z => ?_⟩
        · have v := okV_ln g3 g4 hf z
          have p := ln_2 g7 z
          refine ⟨⟨(hC3 z).1, (hC3 z).2, v.1, v.2.1, okU_ln g5 g3 g7 z⟩, by omega, p.2, ?_⟩
          rw [g8, hK, lnF_y hno z]
        · rw [g8, hK, lnF_n hno z]
          exact ⟨rfl, hw3⟩) (by omega)
