theorem chL_c {σ : jS} {O O' : Int → Prop} {n : Int} (h : ∀ i, 0 ≤ i → i < n → (O i ↔ O' i)) : chL σ O n = chL σ O' n := fl_c (fun i i0 i1 => lif_iff (h i i0 i1) _)
/-- the game stands in the class' rows -/
def GB (σ ρ : jS) : Prop := same [23, 24, 25, 26] σ ρ ∧ (pgN (pkC σ 28) ≤ 9 → GM ρ (LN (pkC σ 28)) ∧ GH ρ)
def gOk (σ : jS) : Prop := pgN (pkC σ 28) ≤ 9 ∧ 0 < σ 28 0
noncomputable def wpV (ρ : jS) : Int := wpF (ρ 23 3) (fun i j => bt (ρ 26 i) j) 5 (opB ρ)
set_option maxRecDepth 100000 in
set_option maxHeartbeats 4000000 in
theorem c_X12_lines {σ : jS} (hD : okD σ 28) (hl : cB 4 (σ 27 3)) (hc : ∀ i, 0 ≤ i → i < σ 27 3 → cB 9999 (σ 37 i)) {k : Int} (hk : iR k) : Jm 6 miX12_lines [.ref 0, vI k] σ (fun r ρ => GB σ ρ ∧ r = some (vI (gte (gOk σ) (nthL (chL ρ (opB ρ) (ρ 23 3)) k) (-1)))) := by
  refine jm_ofF (Po := (fun r ρ => GB σ ρ ∧ r = some (vI (gte (gOk σ) (nthL (chL ρ (opB ρ) (ρ 23 3)) k) (-1))))) (plainFor_of_name (by decide)) (Nat.le_of_ble_eq_true rfl) (lv := [(0, _), (1, _)]) rfl ?_
  refine r_aload_n (dc dkX12_lines 0 rfl) rfl (np 1 rfl ?_)
  refine r_getR (dc dkX12_lines 1 rfl) flX12_81 fd_0_12 (np 4 rfl ?_)
  refine r_aload_n (dc dkX12_lines 2 rfl) rfl (np 5 rfl ?_)
  refine r_getR (dc dkX12_lines 3 rfl) flX12_24 fd_0_2 (np 8 rfl ?_)
  refine r_getR (dc dkX12_lines 4 rfl) flX12_105 fd_27_1 (np 11 rfl ?_)
  refine r_cV1 (y' := miX4_begin) (dc dkX12_lines 5 rfl) mlX12_334 ceX4_begin ob_23 (Nat.le_of_ble_eq_true rfl) (Nat.le_of_ble_eq_true rfl) (c_X4_begin hD) (fun r ρ hp => (np 14 rfl ?_))
  obtain ⟨rfl, S, G⟩ := hp
  have e27 : ρ 27 3 = σ 27 3 := by rw [S 27 (by decide)]
  have e37 : ρ 37 = σ 37 := S 37 (by decide)
  have hl2 : cB 4 (ρ 27 3) := by rw [e27]; exact hl
  have hc2 : ∀ i, 0 ≤ i → i < ρ 27 3 → cB 9999 (ρ 37 i) := by rw [e27, e37]; exact hc
  have gb : GB σ ρ := ⟨S, G⟩
  refine r_bn (tgt := 19) (dc dkX12_lines 6 rfl) rfl (fun h14 => ?_) (fun h14 => (np 17 rfl ?_))
  · skip
    obtain ⟨hG, hH⟩ := G h14.1
    have n36 := hG.2.1
    refine r_aload_n (dc dkX12_lines 9 rfl) rfl (np 20 rfl ?_)
    refine r_getR (dc dkX12_lines 10 rfl) flX12_81 fd_0_12 (np 23 rfl ?_)
    refine r_aload_n (dc dkX12_lines 11 rfl) rfl (np 24 rfl ?_)
    refine r_getR (dc dkX12_lines 12 rfl) flX12_81 fd_0_12 (np 27 rfl ?_)
    refine r_aload_n (dc dkX12_lines 13 rfl) rfl (np 28 rfl ?_)
    refine r_getR (dc dkX12_lines 14 rfl) flX12_24 fd_0_2 (np 31 rfl ?_)
    refine r_cV1 (y' := miX4_openOn) (dc dkX12_lines 15 rfl) mlX12_349 ceX4_openOn ob_23 (Nat.le_of_ble_eq_true rfl) (Nat.le_of_ble_eq_true rfl) (c_X4_openOn hG hl2 hc2) (fun r ρ2 hp2 => (np 34 rfl ?_))
    obtain ⟨e2, z, rfl, hz⟩ := hp2
    refine r_eqS ρ e2 ?_
    refine r_iload_n (dc dkX12_lines 16 rfl) rfl (np 35 rfl ?_)
    refine r_pV2 (y' := miX4_choice) (dc dkX12_lines 17 rfl) mlX12_359 ceX4_choice ob_23 (Nat.le_of_ble_eq_true rfl) (Nat.le_of_ble_eq_true rfl) (c_X4_choice hG hk) (np 38 rfl ?_)
    exact r_iret (dc dkX12_lines 18 rfl) rfl ⟨gb, congrArg (fun z => some (vI z)) (by rw [show gte (gOk σ) (nthL (chL ρ (opB ρ) (ρ 23 3)) k) (-1) = nthL (chL ρ (opB ρ) (ρ 23 3)) k from gte_t h14, chL_c (O := fun i => bt z i) (O' := opB ρ) (fun i i0 i1 => hz i i0 (by omega))])⟩
  refine r_iconst (dc dkX12_lines 7 rfl) (np 18 rfl ?_)
  exact r_iret (dc dkX12_lines 8 rfl) rfl ⟨gb, congrArg (fun z => some (vI z)) (gte_f h14).symm⟩
set_option maxRecDepth 100000 in
set_option maxHeartbeats 4000000 in
theorem c_X12_wins {σ : jS} (hD : okD σ 28) (hl : cB 4 (σ 27 3)) (hc : ∀ i, 0 ≤ i → i < σ 27 3 → cB 9999 (σ 37 i)) : Jm 9 miX12_wins [.ref 0] σ (fun r ρ => GB σ ρ ∧ r = some (vI (gte (gOk σ) (if wpV ρ = -1 then -1 else ρ 25 (wpV ρ)) (-2)))) := by
  refine jm_ofF (Po := (fun r ρ => GB σ ρ ∧ r = some (vI (gte (gOk σ) (if wpV ρ = -1 then -1 else ρ 25 (wpV ρ)) (-2))))) (plainFor_of_name (by decide)) (Nat.le_of_ble_eq_true rfl) (lv := [(0, _)]) rfl ?_
  refine r_aload_n (dc dkX12_wins 0 rfl) rfl (np 1 rfl ?_)
  refine r_getR (dc dkX12_wins 1 rfl) flX12_81 fd_0_12 (np 4 rfl ?_)
  refine r_aload_n (dc dkX12_wins 2 rfl) rfl (np 5 rfl ?_)
  refine r_getR (dc dkX12_wins 3 rfl) flX12_24 fd_0_2 (np 8 rfl ?_)
  refine r_getR (dc dkX12_wins 4 rfl) flX12_105 fd_27_1 (np 11 rfl ?_)
  refine r_cV1 (y' := miX4_begin) (dc dkX12_wins 5 rfl) mlX12_334 ceX4_begin ob_23 (Nat.le_of_ble_eq_true rfl) (Nat.le_of_ble_eq_true rfl) (c_X4_begin hD) (fun r ρ hp => (np 14 rfl ?_))
  obtain ⟨rfl, S, G⟩ := hp
  have e27 : ρ 27 3 = σ 27 3 := by rw [S 27 (by decide)]
  have e37 : ρ 37 = σ 37 := S 37 (by decide)
  have hl2 : cB 4 (ρ 27 3) := by rw [e27]; exact hl
  have hc2 : ∀ i, 0 ≤ i → i < ρ 27 3 → cB 9999 (ρ 37 i) := by rw [e27, e37]; exact hc
  have gb : GB σ ρ := ⟨S, G⟩
  refine r_bn (tgt := 20) (dc dkX12_wins 6 rfl) rfl (fun h14 => ?_) (fun h14 => (np 17 rfl ?_))
  · skip
    obtain ⟨hG, hH⟩ := G h14.1
    have n36 := hG.2.1
    refine r_aload_n (dc dkX12_wins 9 rfl) rfl (np 21 rfl ?_)
    refine r_getR (dc dkX12_wins 10 rfl) flX12_81 fd_0_12 (np 24 rfl ?_)
    refine r_aload_n (dc dkX12_wins 11 rfl) rfl (np 25 rfl ?_)
    refine r_getR (dc dkX12_wins 12 rfl) flX12_81 fd_0_12 (np 28 rfl ?_)
    refine r_aload_n (dc dkX12_wins 13 rfl) rfl (np 29 rfl ?_)
    refine r_getR (dc dkX12_wins 14 rfl) flX12_24 fd_0_2 (np 32 rfl ?_)
    refine r_cV1 (y' := miX4_openOn) (dc dkX12_wins 15 rfl) mlX12_349 ceX4_openOn ob_23 (Nat.le_of_ble_eq_true rfl) (Nat.le_of_ble_eq_true rfl) (c_X4_openOn hG hl2 hc2) (fun r ρ2 hp2 => (np 35 rfl ?_))
    obtain ⟨e2, z, rfl, hz⟩ := hp2
    refine r_eqS ρ e2 ?_
    refine r_pV1 (y' := miX4_winning) (dc dkX12_wins 16 rfl) mlX12_363 ceX4_winning ob_23 (Nat.le_of_ble_eq_true rfl) (Nat.le_of_ble_eq_true rfl) (c_X4_winning hG) (np 38 rfl ?_)
    exact r_iret (dc dkX12_wins 17 rfl) rfl ⟨gb, congrArg (fun z => some (vI z)) (by rw [show gte (gOk σ) (if wpV ρ = -1 then -1 else ρ 25 (wpV ρ)) (-2) = (if wpV ρ = -1 then -1 else ρ 25 (wpV ρ)) from gte_t h14, show wpF (ρ 23 3) (fun i j => bt (ρ 26 i) j) 5 (fun j => bt z j) = wpV ρ from wpF_c (fun _ _ _ _ _ _ => Iff.rfl) 5 _ _ (fun j j0 j1 => hz j j0 (by omega))])⟩
  refine r_bipush (dc dkX12_wins 7 rfl) bp_m2 (np 19 rfl ?_)
  exact r_iret (dc dkX12_wins 8 rfl) rfl ⟨gb, congrArg (fun z => some (vI z)) (gte_f h14).symm⟩
set_option maxRecDepth 100000 in
set_option maxHeartbeats 4000000 in
theorem c_X12_line {σ : jS} (hD : okD σ 28) (hl : cB 4 (σ 27 3)) (hc : ∀ i, 0 ≤ i → i < σ 27 3 → cB 9999 (σ 37 i)) {a b : Int} (ha : iR a) (hb : iR b) : Jm 6 miX12_line [.ref 0, vI a, vI b] σ (fun r τ => ∃ ρ, GB σ ρ ∧ ((gOk σ ∧ ¬ (fi (lnI ρ (min a b) (max a b)) (ρ 23 3)) = -1 ∧ opB ρ (fi (lnI ρ (min a b) (max a b)) (ρ 23 3)) ∧ σ 27 3 < 4) → r = some (vI 1) ∧ τ = ju (ju ρ 37 (σ 27 3) (ρ 25 (fi (lnI ρ (min a b) (max a b)) (ρ 23 3)))) 27 3 (σ 27 3 + 1)) ∧ (¬ (gOk σ ∧ ¬ (fi (lnI ρ (min a b) (max a b)) (ρ 23 3)) = -1 ∧ opB ρ (fi (lnI ρ (min a b) (max a b)) (ρ 23 3)) ∧ σ 27 3 < 4) → r = some (vI 0) ∧ τ = ρ)) := by
  refine jm_ofF (Po := (fun r τ => ∃ ρ, GB σ ρ ∧ ((gOk σ ∧ ¬ (fi (lnI ρ (min a b) (max a b)) (ρ 23 3)) = -1 ∧ opB ρ (fi (lnI ρ (min a b) (max a b)) (ρ 23 3)) ∧ σ 27 3 < 4) → r = some (vI 1) ∧ τ = ju (ju ρ 37 (σ 27 3) (ρ 25 (fi (lnI ρ (min a b) (max a b)) (ρ 23 3)))) 27 3 (σ 27 3 + 1)) ∧ (¬ (gOk σ ∧ ¬ (fi (lnI ρ (min a b) (max a b)) (ρ 23 3)) = -1 ∧ opB ρ (fi (lnI ρ (min a b) (max a b)) (ρ 23 3)) ∧ σ 27 3 < 4) → r = some (vI 0) ∧ τ = ρ))) (plainFor_of_name (by decide)) (Nat.le_of_ble_eq_true rfl) (lv := [(0, _), (1, _), (2, _)]) rfl ?_
  refine r_aload_n (dc dkX12_line 0 rfl) rfl (np 1 rfl ?_)
  refine r_getR (dc dkX12_line 1 rfl) flX12_81 fd_0_12 (np 4 rfl ?_)
  refine r_aload_n (dc dkX12_line 2 rfl) rfl (np 5 rfl ?_)
  refine r_getR (dc dkX12_line 3 rfl) flX12_24 fd_0_2 (np 8 rfl ?_)
  refine r_getR (dc dkX12_line 4 rfl) flX12_105 fd_27_1 (np 11 rfl ?_)
  refine r_cV1 (y' := miX4_begin) (dc dkX12_line 5 rfl) mlX12_334 ceX4_begin ob_23 (Nat.le_of_ble_eq_true rfl) (Nat.le_of_ble_eq_true rfl) (c_X4_begin hD) (fun r ρ hp => (np 14 rfl ?_))
  obtain ⟨rfl, S, G⟩ := hp
  have e27 : ρ 27 3 = σ 27 3 := by rw [S 27 (by decide)]
  have e37 : ρ 37 = σ 37 := S 37 (by decide)
  have hl2 : cB 4 (ρ 27 3) := by rw [e27]; exact hl
  have hc2 : ∀ i, 0 ≤ i → i < ρ 27 3 → cB 9999 (ρ 37 i) := by rw [e27, e37]; exact hc
  have gb : GB σ ρ := ⟨S, G⟩
  refine r_bn (tgt := 19) (dc dkX12_line 6 rfl) rfl (fun h14 => ?_) (fun h14 => (np 17 rfl ?_))
  · skip
    obtain ⟨hG, hH⟩ := G h14.1
    have n36 := hG.2.1
    have fb := fi_b (P := lnI ρ (min a b) (max a b)) n36
    refine r_aload_n (dc dkX12_line 9 rfl) rfl (np 20 rfl ?_)
    refine r_getR (dc dkX12_line 10 rfl) flX12_81 fd_0_12 (np 23 rfl ?_)
    refine r_iload_n (dc dkX12_line 11 rfl) rfl (np 24 rfl ?_)
    refine r_iload_n (dc dkX12_line 12 rfl) rfl (np 25 rfl ?_)
    refine r_pS2 (y' := miJ9_min_7cf53) (dc dkX12_line 13 rfl) mlX12_338 seJ9_min_7cf53 (Nat.le_of_ble_eq_true rfl) (Nat.le_of_ble_eq_true rfl) (c_J9_min_7cf53 ha hb) (np 28 rfl ?_)
    refine r_iload_n (dc dkX12_line 14 rfl) rfl (np 29 rfl ?_)
    refine r_iload_n (dc dkX12_line 15 rfl) rfl (np 30 rfl ?_)
    refine r_pS2 (y' := miJ9_max_7cf53) (dc dkX12_line 16 rfl) mlX12_343 seJ9_max_7cf53 (Nat.le_of_ble_eq_true rfl) (Nat.le_of_ble_eq_true rfl) (c_J9_max_7cf53 ha hb) (np 33 rfl ?_)
    refine r_pV2 (y' := miX4_pairOf) (dc dkX12_line 17 rfl) mlX12_346 ceX4_pairOf ob_23 (Nat.le_of_ble_eq_true rfl) (Nat.le_of_ble_eq_true rfl) (c_X4_pairOf hG (by omega) (by omega)) (np 36 rfl ?_)
    obtain ⟨pi, hpi⟩ : ∃ x, x = (fi (lnI ρ (min a b) (max a b)) (ρ 23 3)) := ⟨_, rfl⟩
    rw [← hpi] at fb
    refine r_eqI pi hpi.symm ?_
    refine r_istore_n (lv' := [(3, _), (0, _), (1, _), (2, _)]) (dc dkX12_line 18 rfl) (Nat.le_of_ble_eq_true rfl) rfl (np 37 rfl ?_)
    refine r_iload_n (dc dkX12_line 19 rfl) rfl (np 38 rfl ?_)
    refine r_iconst (dc dkX12_line 20 rfl) (np 39 rfl ?_)
    refine r_icmp_eq (tgt := 62) (dc dkX12_line 21 rfl) rfl (by omega) (by decide) (fun h39 => ?_) (fun h39 => (np 42 rfl ?_))
    · skip
      refine r_iconst (dc dkX12_line 34 rfl) (np 63 rfl ?_)
      exact r_zret (dc dkX12_line 35 rfl) rfl (by first | exact Or.inl rfl | exact Or.inr rfl) ⟨ρ, gb, fun w => by first | exact absurd (hpi.symm.trans h39) w.2.1 | exact absurd (hzi.mpr (hpi ▸ w.2.2.1)) (jcmp_b.mp h59), fun _ => ⟨rfl, rfl⟩⟩
    refine r_aload_n (dc dkX12_line 22 rfl) rfl (np 43 rfl ?_)
    refine r_getR (dc dkX12_line 23 rfl) flX12_81 fd_0_12 (np 46 rfl ?_)
    refine r_aload_n (dc dkX12_line 24 rfl) rfl (np 47 rfl ?_)
    refine r_getR (dc dkX12_line 25 rfl) flX12_24 fd_0_2 (np 50 rfl ?_)
    refine r_cV1 (y' := miX4_openOn) (dc dkX12_line 26 rfl) mlX12_349 ceX4_openOn ob_23 (Nat.le_of_ble_eq_true rfl) (Nat.le_of_ble_eq_true rfl) (c_X4_openOn hG hl2 hc2) (fun r ρ2 hp2 => (np 53 rfl ?_))
    obtain ⟨e2, z, rfl, hz⟩ := hp2
    refine r_eqS ρ e2 ?_
    have hzi := hz pi (by omega) (by omega)
    refine r_iload_n (dc dkX12_line 27 rfl) rfl (np 54 rfl ?_)
    refine r_lshr (dc dkX12_line 28 rfl) (np 55 rfl ?_)
    refine r_lconst (dc dkX12_line 29 rfl) lc_1 (np 56 rfl ?_)
    refine r_land (dc dkX12_line 30 rfl) (np 57 rfl ?_)
    refine r_eqL (bI (bt z pi)) (lbit (by omega)) ?_
    refine r_lconst (dc dkX12_line 31 rfl) lc_0 (np 58 rfl ?_)
    refine r_lcmp (dc dkX12_line 32 rfl) (by have := bI_01 (bt z pi); omega) (by decide) (np 59 rfl ?_)
    refine r_if_ne (tgt := 64) (dc dkX12_line 33 rfl) rfl (by unfold jcmp; split <;> (try split) <;> decide) (fun h59 => ?_) (fun h59 => (np 62 rfl ?_))
    · skip
      refine r_aload_n (dc dkX12_line 36 rfl) rfl (np 65 rfl ?_)
      refine r_getR (dc dkX12_line 37 rfl) flX12_24 fd_0_2 (np 68 rfl ?_)
      refine r_aload_n (dc dkX12_line 38 rfl) rfl (np 69 rfl ?_)
      refine r_getR (dc dkX12_line 39 rfl) flX12_81 fd_0_12 (np 72 rfl ?_)
      refine r_iload_n (dc dkX12_line 40 rfl) rfl (np 73 rfl ?_)
      refine r_pV1 (y' := miX4_codeOf) (dc dkX12_line 41 rfl) mlX12_353 ceX4_codeOf ob_23 (Nat.le_of_ble_eq_true rfl) (Nat.le_of_ble_eq_true rfl) (c_X4_codeOf hG (by omega)) (np 76 rfl ?_)
      refine r_cV1 (y' := miX11_addLine) (dc dkX12_line 42 rfl) mlX12_356 ceX11_addLine ob_27 (Nat.le_of_ble_eq_true rfl) (Nat.le_of_ble_eq_true rfl) (c_X11_addLine hl2) (fun r τ hp3 => (np 79 rfl ?_))
      obtain ⟨rfl, q1, q2⟩ := hp3
      exact r_zret (dc dkX12_line 43 rfl) rfl (bI_01 _) (by
          have op := hzi.mp (Classical.byContradiction (fun w => h59 (jcmp_b.mpr w)))
          rw [hpi] at op h39 q2
          refine ⟨ρ, gb, fun w => ?_, fun w => ?_⟩
          · have w4 := w.2.2.2
            rw [← e27] at w4
            refine ⟨by rw [bI_t w4], ?_⟩
            rw [q2 w4, e27]
          · have c : ¬ ρ 27 3 < 4 := fun u => w ⟨h14, h39, op, by rw [← e27]; exact u⟩
            exact ⟨by rw [bI_f c], q1 c⟩)
    refine r_iconst (dc dkX12_line 34 rfl) (np 63 rfl ?_)
    exact r_zret (dc dkX12_line 35 rfl) rfl (by first | exact Or.inl rfl | exact Or.inr rfl) ⟨ρ, gb, fun w => by first | exact absurd (hpi.symm.trans h39) w.2.1 | exact absurd (hzi.mpr (hpi ▸ w.2.2.1)) (jcmp_b.mp h59), fun _ => ⟨rfl, rfl⟩⟩
  refine r_iconst (dc dkX12_line 7 rfl) (np 18 rfl ?_)
  exact r_zret (dc dkX12_line 8 rfl) rfl (by first | exact Or.inl rfl | exact Or.inr rfl) ⟨ρ, gb, fun w => absurd w.1 h14, fun _ => ⟨rfl, rfl⟩⟩
