/-- the class' wrong() of a band that is read is the rows' -/
theorem wr_41 {σ : jS} {D E : Int → Int} {n : Int} (hC : RC σ 41 D) (hV : okV D) (fr : ∀ j, (j < 105 + 17 * D 4 ∨ 105 + 17 * D 4 + 17 ≤ j) → E j = D j) (hn : 3 ≤ n ∧ n ≤ 8) (ea : E (105 + 17 * D 4) = n) (hin : ∀ i, 0 ≤ i → i < n → (0 ≤ E (105 + 17 * D 4 + 1 + 2 * i) ∧ E (105 + 17 * D 4 + 1 + 2 * i) < D 0) ∧ (0 ≤ E (105 + 17 * D 4 + 2 + 2 * i) ∧ E (105 + 17 * D 4 + 2 + 2 * i) < D 1)) (hr : ∀ i, 0 ≤ i → i < n → σ 6 i = 10 * E (105 + 17 * D 4 + 2 + 2 * i) + E (105 + 17 * D 4 + 1 + 2 * i)) : wrF n (rwP σ n) (pkC σ 41) (σ 41 2) (σ 43 0) (-1) (σ 45) (bAt σ 43) = wrD E (D 4) (D 4) := by
  have v := hV
  obtain ⟨v0, v2, v3, v4, v5, v6, v7⟩ := hV
  have f0 := fr 0 (by omega)
  have f1 := fr 1 (by omega)
  have f2 := fr 2 (by omega)
  have hcn : cn (dS E) 0 (D 4) = n := ea
  have hP : rwP σ n = cP (dS E) 0 (D 4) := by
    rw [cP_in (by omega) (fun i i0 i1 => by rw [f0, f1]; exact hin i i0 (by omega))]
    funext i
    have e1 := Int.emod_nonneg i (show n ≠ 0 by omega)
    have e2 := Int.emod_lt_of_pos i (show 0 < n by omega)
    show σ 6 (i % n) = 10 * E (105 + 17 * D 4 + 2 + 2 * (i % E (105 + 17 * D 4))) + E (105 + 17 * D 4 + 1 + 2 * (i % E (105 + 17 * D 4)))
    rw [ea, hr _ e1 e2]
  have hk : pkC σ 41 = pkR (dS E) 0 := by
    rw [pkR_c f0 f1 (by omega) (by omega) (fun p p0 p1 => fr _ (by omega))]
    funext p
    exact RC_pk hC v p
  have h4 : σ 43 0 = D 4 := hC.2.2.2.2.1
  have h2 : σ 41 2 = E 2 := by rw [f2]; exact hC.2.2.1
  unfold wrD
  rw [hP, hk, h4, h2, hcn]
  apply wrF_c
  apply E5_c
  · intro o o0 o1; exact ⟨fun _ => by omega, fun _ => by omega⟩
  · intro o o0 o1 _
    show E (105 + 17 * o) = σ 45 o
    rw [fr _ (by omega)]
    exact ((hC.2.2.2.2.2.2 o o0 o1).1).symm
  · intro o o0 o1 _
    have g := (v7 o o0 o1).1
    rw [rP_c (by omega) (fun j j0 j1 => fr j (by omega))]
    funext i
    exact (RC_P hC o0 o1 (by omega) i).symm
set_option maxRecDepth 100000 in
set_option maxHeartbeats 4000000 in
theorem c_X1_readBand {σ : jS} {t : Int → Int} {L m : Int} {R : Int × Int} (hR : rd t L m R σ) {D N : Int → Int} (hB : dB σ D N) (hV : okV D) (hw : okT2 D) (h0 : R.1 = 0) : Jm 11 miX1_readBand [.ref 41, .ref 1, .ref 6] σ (fun r τ => r = none ∧ same [1, 6, 41, 42, 43, 44, 45, 46] σ τ ∧ okA τ 41 ∧ rd t L m (bnR t L m R D N) τ ∧ ((bnR t L m R D N).1 = 0 → RC τ 41 (bnD t L m R D N) ∧ nmD τ 41 (bnD t L m R D N) (bnN t L m R D N)) ∧ ((bnR t L m R D N).1 = 5 → τ 41 7 = bnW t L m R D N)) := by
  have c4 : σ 43 0 = D 4 := hB.2.1.2.2.2.2.1
  have v4 := hV.2.2.2.1
  have hw2 := hw
  unfold okT2 at hw2
  have hG := bnC_G (t := t) (L := L) (m := m) (R := R) (D := D) (N := N) v4.1
  have fr := bnC_f (t := t) (L := L) (m := m) (R := R) (D := D) (N := N) v4.1
  have n51 : ¬ (bn1 t L m R D N).1 = 5 := n5_bn1 (show ¬ R.1 = 5 by omega)
  refine jm_ofF (Po := (fun r τ => r = none ∧ same [1, 6, 41, 42, 43, 44, 45, 46] σ τ ∧ okA τ 41 ∧ rd t L m (bnR t L m R D N) τ ∧ ((bnR t L m R D N).1 = 0 → RC τ 41 (bnD t L m R D N) ∧ nmD τ 41 (bnD t L m R D N) (bnN t L m R D N)) ∧ ((bnR t L m R D N).1 = 5 → τ 41 7 = bnW t L m R D N))) (plainFor_of_name (by decide)) (Nat.le_of_ble_eq_true rfl) (lv := [(0, _), (1, _), (2, _)]) rfl ?_
  have jj17 : ∀ τ2 : jS, same [1] σ τ2 ∧ rd t L m (gte (8 ≤ D 4) (flR t L m 4 R) R) τ2 → jR 11 miX1_readBand (fun r τ => r = none ∧ same [1, 6, 41, 42, 43, 44, 45, 46] σ τ ∧ okA τ 41 ∧ rd t L m (bnR t L m R D N) τ ∧ ((bnR t L m R D N).1 = 0 → RC τ 41 (bnD t L m R D N) ∧ nmD τ 41 (bnD t L m R D N) (bnN t L m R D N)) ∧ ((bnR t L m R D N).1 = 5 → τ 41 7 = bnW t L m R D N)) 17 [(0, .ref 41), (1, .ref 1), (2, .ref 6)] [] τ2 := by
    intro τ2 hq
    obtain ⟨hs2, hR2⟩ := hq
    have hB2 := dB_1 hB hs2
    refine r_aload_n (dc dkX1_readBand 8 rfl) rfl (np 18 rfl ?_)
    refine r_cV0 (y' := miX8_step) (dc dkX1_readBand 9 rfl) mlX1_116 ceX8_step ob_1 (Nat.le_of_ble_eq_true rfl) (Nat.le_of_ble_eq_true rfl) (c_X8_step hR2) (fun r τ3 hp3 => (np 21 rfl ?_))
    obtain ⟨rfl, hs3, hR3⟩ := hp3
    have hB3 := dB_1 hB2 hs3
    change rd t L m (bn0 t L m R D) τ3 at hR3
    refine r_aload_n (dc dkX1_readBand 10 rfl) rfl (np 22 rfl ?_)
    refine r_aload_n (dc dkX1_readBand 11 rfl) rfl (np 23 rfl ?_)
    refine r_cV1 (y' := miX1_readName) (dc dkX1_readBand 12 rfl) mlX1_145 ceX1_readName ob_41 (Nat.le_of_ble_eq_true rfl) (Nat.le_of_ble_eq_true rfl) (c_X1_readName hR3 hB3 hV hw (fun z => (bn0_0 z).1)) (fun r τ4 hp4 => (np 26 rfl ?_))
    obtain ⟨rfl, hs4, n41, oA4, hR4, hN4⟩ := hp4
    have f40 : τ4 41 0 = D 0 := by rw [n41 0 (by decide)]; exact hB3.2.1.1
    have f41 : τ4 41 1 = D 1 := by rw [n41 1 (by decide)]; exact hB3.2.1.2.1
    have hd3 := dB_D hB3 hV
    have hd4 : okD τ4 41 := by
      obtain ⟨k0, k1, k2, k3, k4, k5, k6⟩ := hd3
      refine ⟨by rw [n41 0 (by decide)]; exact k0, by rw [n41 1 (by decide)]; exact k1, by rw [n41 2 (by decide)]; exact k2, by rw [n41 3 (by decide)]; exact k3, oA4.2.2.1, by have := oA4.2.2.2; omega, fun j j0 j1 => ?_⟩
      have := oA4.2.1 j j0 j1
      exact ⟨by omega, by omega⟩
    refine r_aload_n (dc dkX1_readBand 13 rfl) rfl (np 27 rfl ?_)
    refine r_aload_n (dc dkX1_readBand 14 rfl) rfl (np 28 rfl ?_)
    refine r_aload_n (dc dkX1_readBand 15 rfl) rfl (np 29 rfl ?_)
    refine r_cV2 (y' := miX1_readCorners) (dc dkX1_readBand 16 rfl) mlX1_148 ceX1_readCorners ob_41 (Nat.le_of_ble_eq_true rfl) (Nat.le_of_ble_eq_true rfl) (c_X1_readCorners hR4 hd4 (D := up D (105 + 17 * D 4) 0) (by rw [f40, up_ne (by omega)]) (by rw [f41, up_ne (by omega)]) (by unfold okT2; rw [up_ne (by omega), up_ne (by omega)]; exact hw) (a := 105 + 17 * D 4) (by omega) (up_at _ _ _)) (fun r τ5 hp5 => (np 32 rfl ?_))
    obtain ⟨z5, rfl, hs5, hR5, hC5⟩ := hp5
    change rd t L m (bnC t L m R D N).1 τ5 at hR5
    change (bnC t L m R D N).1.1 = 0 → z5 = (bnC t L m R D N).2.2 ∧ ∀ i, 0 ≤ i → i < z5 → τ5 6 i = 10 * (bnC t L m R D N).2.1 (105 + 17 * D 4 + 2 + 2 * i) + (bnC t L m R D N).2.1 (105 + 17 * D 4 + 1 + 2 * i) at hC5
    refine r_istore_n (lv' := [(3, _), (0, _), (1, _), (2, _)]) (dc dkX1_readBand 17 rfl) (Nat.le_of_ble_eq_true rfl) rfl (np 33 rfl ?_)
    have jj47 : ∀ τ6 : jS, same [1] τ5 τ6 ∧ rd t L m (bn1 t L m R D N) τ6 → jR 11 miX1_readBand (fun r τ => r = none ∧ same [1, 6, 41, 42, 43, 44, 45, 46] σ τ ∧ okA τ 41 ∧ rd t L m (bnR t L m R D N) τ ∧ ((bnR t L m R D N).1 = 0 → RC τ 41 (bnD t L m R D N) ∧ nmD τ 41 (bnD t L m R D N) (bnN t L m R D N)) ∧ ((bnR t L m R D N).1 = 5 → τ 41 7 = bnW t L m R D N)) 47 [(0, .ref 41), (1, .ref 1), (2, .ref 6), (3, vI z5)] [] τ6 := by
      intro τ6 hq
      obtain ⟨hs6, hR6⟩ := hq
      refine r_aload_n (dc dkX1_readBand 25 rfl) rfl (np 48 rfl ?_)
      refine r_pV0 (y' := miX8_isFine) (dc dkX1_readBand 26 rfl) mlX1_131 ceX8_isFine ob_1 (Nat.le_of_ble_eq_true rfl) (Nat.le_of_ble_eq_true rfl) (c_X8_isFine hR6) (np 51 rfl ?_)
      refine r_bz (tgt := 95) (dc dkX1_readBand 27 rfl) rfl (fun h51 => ?_) (fun h51 => (np 54 rfl ?_))
      · skip
        exact r_vret (dc dkX1_readBand 51 rfl) rfl (by
            first
            | (have e : bnR t L m R D N = bn1 t L m R D N := by rw [bnR, gte_flR h51]
               have sc : ∀ c, c ∉ [1, 6, 41, 42] → τ6 c = σ c := fun c hc => by
                 have hc1 : ¬ c = 1 ∧ ¬ c = 6 ∧ ¬ c = 41 ∧ ¬ c = 42 := by simpa using hc
                 rw [hs6 c (by simp; omega), hs5 c (by simp; omega), hs4 c (by simp; omega), hs3 c (by simp; omega), hs2 c (by simp; omega)]
               have s41 : τ6 41 = τ4 41 := by rw [hs6 41 (by decide), hs5 41 (by decide)]
               have s42 : τ6 42 = τ4 42 := by rw [hs6 42 (by decide), hs5 42 (by decide)]
               have s43 : τ6 43 = τ4 43 := by rw [hs6 43 (by decide), hs5 43 (by decide)]
               have s44 : τ6 44 = τ4 44 := by rw [hs6 44 (by decide), hs5 44 (by decide)]
               have s45 : τ6 45 = τ4 45 := by rw [hs6 45 (by decide), hs5 45 (by decide)]
               have s46 : τ6 46 = τ4 46 := by rw [hs6 46 (by decide), hs5 46 (by decide)]
               refine ⟨rfl, same.wide sc (by decide), okA_41 oA4 s42 s44 s45 s46 (by rw [s43]; exact oA4.1.1) (by rw [s41]; exact oA4.2.2.1) (by rw [s41]; exact oA4.2.2.2), by rw [e]; exact hR6, fun z => ?_, fun z => ?_⟩
               · rw [e] at z; exact absurd z h51
               · rw [e] at z; exact absurd z n51)
            | (rw [ju_at] at h69
               have e : bnR t L m R D N = flR t L m 5 (bn1 t L m R D N) := by rw [bnR, gte_f h69]
               have sc7 : ∀ c, c ∉ [1, 6, 41, 42] → τ7 c = σ c := fun c hc => by
                 have hc1 : ¬ c = 1 ∧ ¬ c = 6 ∧ ¬ c = 41 ∧ ¬ c = 42 := by simpa using hc
                 rw [hs7 c (by simp; omega), ju_off _ _ _ _ _ hc1.2.2.1, sc c hc]
               have w7 : τ7 41 7 = bnW t L m R D N := by rw [hs7 41 (by decide), ju_at]
               have w6 : τ7 41 6 = τ4 41 6 := by rw [hs7 41 (by decide), ju_ne (by decide), s41]
               have w42 : τ7 42 = τ4 42 := by rw [hs7 42 (by decide), ju_off _ _ _ _ _ (by decide), s42]
               have k4 : ∀ c, c ∉ [1, 41, 42] → τ4 c = σ c := fun c hc => by
                 have hc1 : ¬ c = 1 ∧ ¬ c = 41 ∧ ¬ c = 42 := by simpa using hc
                 rw [hs4 c hc, hs3 c (by simp; omega), hs2 c (by simp; omega)]
               refine ⟨rfl, same.wide sc7 (by decide), okA_41 oA4 w42 (by rw [sc7 44 (by decide), k4 44 (by decide)]) (by rw [sc7 45 (by decide), k4 45 (by decide)]) (by rw [sc7 46 (by decide), k4 46 (by decide)]) (by rw [sc7 43 (by decide)]; exact hB.1.1.1) (by rw [w6]; exact oA4.2.2.1) (by rw [w7]; exact hWb), by rw [e]; exact hR7, fun z => ?_, fun _ => w7⟩
               rw [e] at z
               exact absurd z (flR_f (by decide)))
            | (rw [ju_at] at h69
               have e : bnR t L m R D N = bn1 t L m R D N := by rw [bnR, gte_t h69]
               have o0 : ju τ6 41 7 (bnW t L m R D N) 43 0 = D 4 := by rw [ju_ne (by decide)]; rw [sc 43 (by decide)]; exact c4
               have y8 : ju τ6 41 7 (bnW t L m R D N) 41 6 = D 4 + 1 := by rw [ju_ne (by decide), s41]; exact y2
               rw [o0] at a2 a4 a5 a6 a7 a8 a9
               rw [y8] at a4
               have p41 : τ7 41 = ju τ6 41 7 (bnW t L m R D N) 41 := a1 41 (by decide) (by decide) (by decide) (by decide)
               have p42 : τ7 42 = τ4 42 := by rw [a1 42 (by decide) (by decide) (by decide) (by decide), ju_off _ _ _ _ _ (by decide), s42]
               have p7 : τ7 41 7 = bnW t L m R D N := by rw [p41, ju_at]
               have pj : ∀ j, ¬ j = 6 → ¬ j = 7 → τ7 41 j = σ 41 j := fun j j6 j7 => by rw [p41, ju_ne (by omega), q41 j j6]
               have p6 : τ7 41 6 = D 4 + 1 := by rw [p41]; exact y8
               have r1 := hs3
               have u0 : ∀ c, c ∉ [1, 6, 41, 42, 43, 44, 45, 46] → τ7 c = σ c := fun c hc => by
                 have hc1 : ¬ c = 1 ∧ ¬ c = 6 ∧ ¬ c = 41 ∧ ¬ c = 42 ∧ ¬ c = 43 ∧ ¬ c = 44 ∧ ¬ c = 45 ∧ ¬ c = 46 := by simpa using hc
                 rw [a1 c (by omega) (by omega) (by omega) (by omega), ju_off _ _ _ _ _ (by omega), sc c (by simp; omega)]
               have m44 : ∀ j, ¬ j = D 4 → τ7 44 j = σ 44 j := fun j hj => by rw [a5 j hj, ju_ne (by omega), sc 44 (by decide)]
               have m45 : ∀ j, ¬ j = D 4 → τ7 45 j = σ 45 j := fun j hj => by rw [a7 j hj, ju_ne (by omega), sc 45 (by decide)]
               have m46 : ∀ j, (j < D 4 * 8 ∨ D 4 * 8 + n ≤ j) → τ7 46 j = σ 46 j := fun j hj => by rw [a9 j hj, ju_ne (by omega), sc 46 (by decide)]
               have n46 : ∀ i, 0 ≤ i → i < n → τ7 46 (D 4 * 8 + i) = 10 * E (105 + 17 * D 4 + 2 + 2 * i) + E (105 + 17 * D 4 + 1 + 2 * i) := fun i i0 i1 => by rw [a8 i i0 i1, ju_ne (by omega), hr6 i i0 i1]
               have oB0 := hB.1.1
               have b46 : ∀ j, 0 ≤ j → j < 64 → isPg (τ7 46 j) := fun j j0 j1 => by
                 by_cases hj : j < D 4 * 8 ∨ D 4 * 8 + n ≤ j
                 · rw [m46 j hj]; exact oB0.2.2.1 j j0 j1
                 · have q := n46 (j - D 4 * 8) (by omega) (by omega)
                   have q2 := hin (j - D 4 * 8) (by omega) (by omega)
                   rw [show D 4 * 8 + (j - D 4 * 8) = j by omega] at q
                   rw [q]; omega
               have e4 : bnD t L m R D N 4 = D 4 + 1 := up_at _ _ _
               have eE : ∀ j, ¬ j = 4 → bnD t L m R D N j = E j := fun j hj => by rw [← hE]; exact up_ne hj
               have eD : ∀ j, ¬ j = 4 → (j < 105 + 17 * D 4 ∨ 105 + 17 * D 4 + 17 ≤ j) → bnD t L m R D N j = D j := fun j hj h2 => by rw [eE j hj]; exact fr j h2
               have a2' : τ7 43 0 = D 4 + 1 := a2
               refine ⟨rfl, u0, ⟨⟨by rw [a2']; omega, fun b b0 b1 => ?_, b46, fun b b0 b1 => ?_⟩, fun j j0 j1 => ?_, by rw [p6]; omega, by rw [p7]; exact hWb⟩, ?_, fun _ => ⟨?_, ?_⟩, fun _ => p7⟩
               · show 0 ≤ τ7 45 b ∧ τ7 45 b ≤ 8
                 by_cases hb : b = D 4
                 · rw [hb]
                   have : τ7 45 (D 4) = n := a6
                   omega
                 · rw [m45 b hb]; exact oB0.2.1 b b0 b1
               · show -1 ≤ τ7 44 b ∧ τ7 44 b ≤ 7
                 by_cases hb : b = D 4
                 · rw [hb]
                   have : τ7 44 (D 4) = D 4 + 1 - 1 := a4
                   omega
                 · rw [m44 b hb]; exact oB0.2.2.2 b b0 b1
               · show 0 ≤ τ7 42 j ∧ τ7 42 j < 10460353203
                 rw [p42]; exact oA4.2.1 j j0 j1
               · rw [e]
                 exact rd_t hR6 (by rw [a1 1 (by decide) (by decide) (by decide) (by decide), ju_off _ _ _ _ _ (by decide)]) (by rw [a1 2 (by decide) (by decide) (by decide) (by decide), ju_off _ _ _ _ _ (by decide)]) (by rw [a1 3 (by decide) (by decide) (by decide) (by decide), ju_off _ _ _ _ _ (by decide)])
               · obtain ⟨r0, r1, r2, r3, r4, r5, r6⟩ := C0
                 refine ⟨by rw [pj 0 (by decide) (by decide), eD 0 (by decide) (by omega)]; exact r0, by rw [pj 1 (by decide) (by decide), eD 1 (by decide) (by omega)]; exact r1, by rw [pj 2 (by decide) (by decide), eD 2 (by decide) (by omega)]; exact r2, by rw [pj 3 (by decide) (by decide), eD 3 (by decide) (by omega)]; exact r3, by rw [e4]; exact a2', fun p p0 p1 => ?_, fun b b0 b1 => ?_⟩
                 · have : outB τ7 41 p = outB σ 41 p := by unfold outB; rw [pj 4 (by decide) (by decide), pj 5 (by decide) (by decide)]
                   rw [this, eD (5 + p) (by omega) (by omega)]; exact r5 p p0 p1
                 · rw [e4] at b1
                   show τ7 45 b = _ ∧ ∀ i, 0 ≤ i → i < _ → τ7 46 (b * 8 + i) = _
                   by_cases hb : b = D 4
                   · rw [hb, eE (105 + 17 * D 4) (by omega), g2]
                     refine ⟨a6, fun i i0 i1 => ?_⟩
                     rw [n46 i i0 i1, eE _ (by omega), eE _ (by omega)]
                   · have q := r6 b b0 (by omega)
                     have gb := (hV.2.2.2.2.2.2 b b0 (by omega)).1
                     rw [m45 b hb, eD _ (by omega) (by omega)]
                     refine ⟨q.1, fun i i0 i1 => ?_⟩
                     rw [m46 _ (by omega), eD _ (by omega) (by omega), eD _ (by omega) (by omega)]
                     exact q.2 i i0 i1
               · refine ⟨by rw [e4]; exact p6, fun b b0 b1 => ?_⟩
                 rw [e4] at b1
                 show τ7 44 b = b ∧ τ7 42 b = _
                 unfold bnN
                 by_cases hb : b = D 4
                 · rw [hb, up_at]
                   exact ⟨by have : τ7 44 (D 4) = D 4 + 1 - 1 := a4; omega, by rw [p42]; exact y3⟩
                 · rw [up_ne hb, m44 b hb, p42, y4 b hb]
                   have q := hB.2.2.2 b b0 (by omega)
                   exact ⟨q.1, by rw [hs3 42 (by decide), hs2 42 (by decide)]; exact q.2⟩))
      obtain ⟨b1, b2⟩ := bn1_0 h51
      obtain ⟨b3, b4, b5, b6, b7, b8⟩ := bn_chain h51
      obtain ⟨rfl, hr5⟩ := hC5 b1.1
      obtain ⟨y1, y2, y3, y4⟩ := hN4 b4
      have h38 := hG.2 b1.1
      obtain ⟨⟨g1, g2, g3⟩, -⟩ := hG
      rw [up_ne (by omega), up_ne (by omega)] at g1
      generalize hE : (bnC t L m R D N).2.1 = E at *
      generalize hn5 : (bnC t L m R D N).2.2 = n at *
      have sc : ∀ c, c ∉ [1, 6, 41, 42] → τ6 c = σ c := fun c hc => by
        have hc1 : ¬ c = 1 ∧ ¬ c = 6 ∧ ¬ c = 41 ∧ ¬ c = 42 := by simpa using hc
        rw [hs6 c (by simp; omega), hs5 c (by simp; omega), hs4 c (by simp; omega), hs3 c (by simp; omega), hs2 c (by simp; omega)]
      have s41 : τ6 41 = τ4 41 := by rw [hs6 41 (by decide), hs5 41 (by decide)]
      have s42 : τ6 42 = τ4 42 := by rw [hs6 42 (by decide), hs5 42 (by decide)]
      have q41 : ∀ j, ¬ j = 6 → τ6 41 j = σ 41 j := fun j hj => by rw [s41, n41 j hj, hs3 41 (by decide), hs2 41 (by decide)]
      have hr6 : ∀ i, 0 ≤ i → i < n → τ6 6 i = 10 * E (105 + 17 * D 4 + 2 + 2 * i) + E (105 + 17 * D 4 + 1 + 2 * i) := fun i i0 i1 => by rw [hs6 6 (by decide)]; exact hr5 i i0 i1
      have hin := g1
      have C0 := hB.2.1
      have RC6 : RC τ6 41 D := by
        obtain ⟨r0, r1, r2, r3, r4, r5, r6⟩ := C0
        refine ⟨by rw [q41 0 (by decide)]; exact r0, by rw [q41 1 (by decide)]; exact r1, by rw [q41 2 (by decide)]; exact r2, by rw [q41 3 (by decide)]; exact r3, ?_, fun p p0 p1 => ?_, fun b b0 b1 => ?_⟩
        · show τ6 43 0 = D 4
          rw [sc 43 (by decide)]; exact c4
        · have : outB τ6 41 p = outB σ 41 p := by unfold outB; rw [q41 4 (by decide), q41 5 (by decide)]
          rw [this]; exact r5 p p0 p1
        · show τ6 45 b = _ ∧ ∀ i, 0 ≤ i → i < _ → τ6 46 (b * 8 + i) = _
          rw [sc 45 (by decide), sc 46 (by decide)]
          exact r6 b b0 b1
      have oB6 : okB τ6 43 := okB_t hB.1.1 (sc 43 (by decide)) (sc 44 (by decide)) (sc 45 (by decide)) (sc 46 (by decide))
      have hd6 : okD τ6 41 := by
        unfold okD at hd4 ⊢
        show cB 10 (τ6 41 0) ∧ cB 10 (τ6 41 1) ∧ cB 1 (τ6 41 2) ∧ cB 12 (τ6 41 3) ∧ cB 8 (τ6 41 6) ∧ iR (τ6 41 7) ∧ ∀ j, 0 ≤ j → j < 8 → lR (τ6 42 j)
        rw [s41, s42]; exact hd4
      have hW : wrF n (rwP τ6 n) (pkC τ6 41) (τ6 41 2) (τ6 43 0) (-1) (τ6 45) (bAt τ6 43) = bnW t L m R D N := by
        rw [wr_41 RC6 hV fr (by omega) g2 hin hr6, bnW, hE]
      have hWb : cB 5 (bnW t L m R D N) := by
        rw [← hW]
        have := wrA_b n (rwP τ6 n) (pkC τ6 41)
        unfold wrF bite
        split
        · omega
        · split <;> omega
      refine r_aload_n (dc dkX1_readBand 28 rfl) rfl (np 55 rfl ?_)
      refine r_aload_n (dc dkX1_readBand 29 rfl) rfl (np 56 rfl ?_)
      refine r_aload_n (dc dkX1_readBand 30 rfl) rfl (np 57 rfl ?_)
      refine r_iload_n (dc dkX1_readBand 31 rfl) rfl (np 58 rfl ?_)
      refine r_iconst (dc dkX1_readBand 32 rfl) (np 59 rfl ?_)
      refine r_pV3 (y' := miX1_wrongOf) (dc dkX1_readBand 33 rfl) mlX1_155 ceX1_wrongOf ob_41 (Nat.le_of_ble_eq_true rfl) (Nat.le_of_ble_eq_true rfl) (c_X1_wrongOf isBoard_at41 hd6 oB6 (by omega) (by decide) (fun i i0 i1 => by rw [hr6 i i0 i1]; have := hin i i0 i1; omega)) (np 62 rfl ?_)
      refine r_eqI (bnW t L m R D N) hW ?_
      refine r_pI 7 (dc dkX1_readBand 34 rfl) fpX1_35 fd_41_7 rfl (np 65 rfl ?_)
      refine r_aload_n (dc dkX1_readBand 35 rfl) rfl (np 66 rfl ?_)
      refine r_gI 7 (dc dkX1_readBand 36 rfl) flX1_35 fd_41_7 rfl (np 69 rfl ?_)
      refine r_if_eq (tgt := 80) (dc dkX1_readBand 37 rfl) rfl (by rw [ju_at]; omega) (fun h69 => ?_) (fun h69 => (np 72 rfl ?_))
      · skip
        refine r_aload_n (dc dkX1_readBand 42 rfl) rfl (np 81 rfl ?_)
        refine r_getR (dc dkX1_readBand 43 rfl) flX1_45 fd_41_9 (np 84 rfl ?_)
        refine r_aload_n (dc dkX1_readBand 44 rfl) rfl (np 85 rfl ?_)
        refine r_gI 6 (dc dkX1_readBand 45 rfl) flX1_32 fd_41_6 rfl (np 88 rfl ?_)
        refine r_iconst (dc dkX1_readBand 46 rfl) (np 89 rfl ?_)
        refine r_isub (dc dkX1_readBand 47 rfl) (np 90 rfl ?_)
        refine r_aload_n (dc dkX1_readBand 48 rfl) rfl (np 91 rfl ?_)
        refine r_iload_n (dc dkX1_readBand 49 rfl) rfl (np 92 rfl ?_)
        refine r_cV3 (y' := miX0_add) (dc dkX1_readBand 50 rfl) mlX1_159 ceX0_add ob_43 (Nat.le_of_ble_eq_true rfl) (Nat.le_of_ble_eq_true rfl) (c_X0_add isBands_at43 (by rw [ju_ne (by decide), sc 43 (by decide)]; omega) (by omega)) (fun r τ7 hp7 => (np 95 rfl ?_))
        obtain ⟨rfl, a1, a2, a3, a4, a5, a6, a7, a8, a9⟩ := hp7
        exact r_vret (dc dkX1_readBand 51 rfl) rfl (by
            first
            | (have e : bnR t L m R D N = bn1 t L m R D N := by rw [bnR, gte_flR h51]
               have sc : ∀ c, c ∉ [1, 6, 41, 42] → τ6 c = σ c := fun c hc => by
                 have hc1 : ¬ c = 1 ∧ ¬ c = 6 ∧ ¬ c = 41 ∧ ¬ c = 42 := by simpa using hc
                 rw [hs6 c (by simp; omega), hs5 c (by simp; omega), hs4 c (by simp; omega), hs3 c (by simp; omega), hs2 c (by simp; omega)]
               have s41 : τ6 41 = τ4 41 := by rw [hs6 41 (by decide), hs5 41 (by decide)]
               have s42 : τ6 42 = τ4 42 := by rw [hs6 42 (by decide), hs5 42 (by decide)]
               have s43 : τ6 43 = τ4 43 := by rw [hs6 43 (by decide), hs5 43 (by decide)]
               have s44 : τ6 44 = τ4 44 := by rw [hs6 44 (by decide), hs5 44 (by decide)]
               have s45 : τ6 45 = τ4 45 := by rw [hs6 45 (by decide), hs5 45 (by decide)]
               have s46 : τ6 46 = τ4 46 := by rw [hs6 46 (by decide), hs5 46 (by decide)]
               refine ⟨rfl, same.wide sc (by decide), okA_41 oA4 s42 s44 s45 s46 (by rw [s43]; exact oA4.1.1) (by rw [s41]; exact oA4.2.2.1) (by rw [s41]; exact oA4.2.2.2), by rw [e]; exact hR6, fun z => ?_, fun z => ?_⟩
               · rw [e] at z; exact absurd z h51
               · rw [e] at z; exact absurd z n51)
            | (rw [ju_at] at h69
               have e : bnR t L m R D N = flR t L m 5 (bn1 t L m R D N) := by rw [bnR, gte_f h69]
               have sc7 : ∀ c, c ∉ [1, 6, 41, 42] → τ7 c = σ c := fun c hc => by
                 have hc1 : ¬ c = 1 ∧ ¬ c = 6 ∧ ¬ c = 41 ∧ ¬ c = 42 := by simpa using hc
                 rw [hs7 c (by simp; omega), ju_off _ _ _ _ _ hc1.2.2.1, sc c hc]
               have w7 : τ7 41 7 = bnW t L m R D N := by rw [hs7 41 (by decide), ju_at]
               have w6 : τ7 41 6 = τ4 41 6 := by rw [hs7 41 (by decide), ju_ne (by decide), s41]
               have w42 : τ7 42 = τ4 42 := by rw [hs7 42 (by decide), ju_off _ _ _ _ _ (by decide), s42]
               have k4 : ∀ c, c ∉ [1, 41, 42] → τ4 c = σ c := fun c hc => by
                 have hc1 : ¬ c = 1 ∧ ¬ c = 41 ∧ ¬ c = 42 := by simpa using hc
                 rw [hs4 c hc, hs3 c (by simp; omega), hs2 c (by simp; omega)]
               refine ⟨rfl, same.wide sc7 (by decide), okA_41 oA4 w42 (by rw [sc7 44 (by decide), k4 44 (by decide)]) (by rw [sc7 45 (by decide), k4 45 (by decide)]) (by rw [sc7 46 (by decide), k4 46 (by decide)]) (by rw [sc7 43 (by decide)]; exact hB.1.1.1) (by rw [w6]; exact oA4.2.2.1) (by rw [w7]; exact hWb), by rw [e]; exact hR7, fun z => ?_, fun _ => w7⟩
               rw [e] at z
               exact absurd z (flR_f (by decide)))
            | (rw [ju_at] at h69
               have e : bnR t L m R D N = bn1 t L m R D N := by rw [bnR, gte_t h69]
               have o0 : ju τ6 41 7 (bnW t L m R D N) 43 0 = D 4 := by rw [ju_ne (by decide)]; rw [sc 43 (by decide)]; exact c4
               have y8 : ju τ6 41 7 (bnW t L m R D N) 41 6 = D 4 + 1 := by rw [ju_ne (by decide), s41]; exact y2
               rw [o0] at a2 a4 a5 a6 a7 a8 a9
               rw [y8] at a4
               have p41 : τ7 41 = ju τ6 41 7 (bnW t L m R D N) 41 := a1 41 (by decide) (by decide) (by decide) (by decide)
               have p42 : τ7 42 = τ4 42 := by rw [a1 42 (by decide) (by decide) (by decide) (by decide), ju_off _ _ _ _ _ (by decide), s42]
               have p7 : τ7 41 7 = bnW t L m R D N := by rw [p41, ju_at]
               have pj : ∀ j, ¬ j = 6 → ¬ j = 7 → τ7 41 j = σ 41 j := fun j j6 j7 => by rw [p41, ju_ne (by omega), q41 j j6]
               have p6 : τ7 41 6 = D 4 + 1 := by rw [p41]; exact y8
               have r1 := hs3
               have u0 : ∀ c, c ∉ [1, 6, 41, 42, 43, 44, 45, 46] → τ7 c = σ c := fun c hc => by
                 have hc1 : ¬ c = 1 ∧ ¬ c = 6 ∧ ¬ c = 41 ∧ ¬ c = 42 ∧ ¬ c = 43 ∧ ¬ c = 44 ∧ ¬ c = 45 ∧ ¬ c = 46 := by simpa using hc
                 rw [a1 c (by omega) (by omega) (by omega) (by omega), ju_off _ _ _ _ _ (by omega), sc c (by simp; omega)]
               have m44 : ∀ j, ¬ j = D 4 → τ7 44 j = σ 44 j := fun j hj => by rw [a5 j hj, ju_ne (by omega), sc 44 (by decide)]
               have m45 : ∀ j, ¬ j = D 4 → τ7 45 j = σ 45 j := fun j hj => by rw [a7 j hj, ju_ne (by omega), sc 45 (by decide)]
               have m46 : ∀ j, (j < D 4 * 8 ∨ D 4 * 8 + n ≤ j) → τ7 46 j = σ 46 j := fun j hj => by rw [a9 j hj, ju_ne (by omega), sc 46 (by decide)]
               have n46 : ∀ i, 0 ≤ i → i < n → τ7 46 (D 4 * 8 + i) = 10 * E (105 + 17 * D 4 + 2 + 2 * i) + E (105 + 17 * D 4 + 1 + 2 * i) := fun i i0 i1 => by rw [a8 i i0 i1, ju_ne (by omega), hr6 i i0 i1]
               have oB0 := hB.1.1
               have b46 : ∀ j, 0 ≤ j → j < 64 → isPg (τ7 46 j) := fun j j0 j1 => by
                 by_cases hj : j < D 4 * 8 ∨ D 4 * 8 + n ≤ j
                 · rw [m46 j hj]; exact oB0.2.2.1 j j0 j1
                 · have q := n46 (j - D 4 * 8) (by omega) (by omega)
                   have q2 := hin (j - D 4 * 8) (by omega) (by omega)
                   rw [show D 4 * 8 + (j - D 4 * 8) = j by omega] at q
                   rw [q]; omega
               have e4 : bnD t L m R D N 4 = D 4 + 1 := up_at _ _ _
               have eE : ∀ j, ¬ j = 4 → bnD t L m R D N j = E j := fun j hj => by rw [← hE]; exact up_ne hj
               have eD : ∀ j, ¬ j = 4 → (j < 105 + 17 * D 4 ∨ 105 + 17 * D 4 + 17 ≤ j) → bnD t L m R D N j = D j := fun j hj h2 => by rw [eE j hj]; exact fr j h2
               have a2' : τ7 43 0 = D 4 + 1 := a2
               refine ⟨rfl, u0, ⟨⟨by rw [a2']; omega, fun b b0 b1 => ?_, b46, fun b b0 b1 => ?_⟩, fun j j0 j1 => ?_, by rw [p6]; omega, by rw [p7]; exact hWb⟩, ?_, fun _ => ⟨?_, ?_⟩, fun _ => p7⟩
               · show 0 ≤ τ7 45 b ∧ τ7 45 b ≤ 8
                 by_cases hb : b = D 4
                 · rw [hb]
                   have : τ7 45 (D 4) = n := a6
                   omega
                 · rw [m45 b hb]; exact oB0.2.1 b b0 b1
               · show -1 ≤ τ7 44 b ∧ τ7 44 b ≤ 7
                 by_cases hb : b = D 4
                 · rw [hb]
                   have : τ7 44 (D 4) = D 4 + 1 - 1 := a4
                   omega
                 · rw [m44 b hb]; exact oB0.2.2.2 b b0 b1
               · show 0 ≤ τ7 42 j ∧ τ7 42 j < 10460353203
                 rw [p42]; exact oA4.2.1 j j0 j1
               · rw [e]
                 exact rd_t hR6 (by rw [a1 1 (by decide) (by decide) (by decide) (by decide), ju_off _ _ _ _ _ (by decide)]) (by rw [a1 2 (by decide) (by decide) (by decide) (by decide), ju_off _ _ _ _ _ (by decide)]) (by rw [a1 3 (by decide) (by decide) (by decide) (by decide), ju_off _ _ _ _ _ (by decide)])
               · obtain ⟨r0, r1, r2, r3, r4, r5, r6⟩ := C0
                 refine ⟨by rw [pj 0 (by decide) (by decide), eD 0 (by decide) (by omega)]; exact r0, by rw [pj 1 (by decide) (by decide), eD 1 (by decide) (by omega)]; exact r1, by rw [pj 2 (by decide) (by decide), eD 2 (by decide) (by omega)]; exact r2, by rw [pj 3 (by decide) (by decide), eD 3 (by decide) (by omega)]; exact r3, by rw [e4]; exact a2', fun p p0 p1 => ?_, fun b b0 b1 => ?_⟩
                 · have : outB τ7 41 p = outB σ 41 p := by unfold outB; rw [pj 4 (by decide) (by decide), pj 5 (by decide) (by decide)]
                   rw [this, eD (5 + p) (by omega) (by omega)]; exact r5 p p0 p1
                 · rw [e4] at b1
                   show τ7 45 b = _ ∧ ∀ i, 0 ≤ i → i < _ → τ7 46 (b * 8 + i) = _
                   by_cases hb : b = D 4
                   · rw [hb, eE (105 + 17 * D 4) (by omega), g2]
                     refine ⟨a6, fun i i0 i1 => ?_⟩
                     rw [n46 i i0 i1, eE _ (by omega), eE _ (by omega)]
                   · have q := r6 b b0 (by omega)
                     have gb := (hV.2.2.2.2.2.2 b b0 (by omega)).1
                     rw [m45 b hb, eD _ (by omega) (by omega)]
                     refine ⟨q.1, fun i i0 i1 => ?_⟩
                     rw [m46 _ (by omega), eD _ (by omega) (by omega), eD _ (by omega) (by omega)]
                     exact q.2 i i0 i1
               · refine ⟨by rw [e4]; exact p6, fun b b0 b1 => ?_⟩
                 rw [e4] at b1
                 show τ7 44 b = b ∧ τ7 42 b = _
                 unfold bnN
                 by_cases hb : b = D 4
                 · rw [hb, up_at]
                   exact ⟨by have : τ7 44 (D 4) = D 4 + 1 - 1 := a4; omega, by rw [p42]; exact y3⟩
                 · rw [up_ne hb, m44 b hb, p42, y4 b hb]
                   have q := hB.2.2.2 b b0 (by omega)
                   exact ⟨q.1, by rw [hs3 42 (by decide), hs2 42 (by decide)]; exact q.2⟩))
      refine r_aload_n (dc dkX1_readBand 38 rfl) rfl (np 73 rfl ?_)
      refine r_iconst (dc dkX1_readBand 39 rfl) (np 74 rfl ?_)
      refine r_cV1 (y' := miX8_fail) (dc dkX1_readBand 40 rfl) mlX1_113 ceX8_fail ob_1 (Nat.le_of_ble_eq_true rfl) (Nat.le_of_ble_eq_true rfl) (c_X8_fail (rd_ju hR6 (by decide)) (by decide)) (fun r τ7 hp7 => (np 77 rfl ?_))
      obtain ⟨rfl, hs7, hR7⟩ := hp7
      refine r_goto (tgt := 95) (dc dkX1_readBand 41 rfl) rfl ?_
      exact r_vret (dc dkX1_readBand 51 rfl) rfl (by
          first
          | (have e : bnR t L m R D N = bn1 t L m R D N := by rw [bnR, gte_flR h51]
             have sc : ∀ c, c ∉ [1, 6, 41, 42] → τ6 c = σ c := fun c hc => by
               have hc1 : ¬ c = 1 ∧ ¬ c = 6 ∧ ¬ c = 41 ∧ ¬ c = 42 := by simpa using hc
               rw [hs6 c (by simp; omega), hs5 c (by simp; omega), hs4 c (by simp; omega), hs3 c (by simp; omega), hs2 c (by simp; omega)]
             have s41 : τ6 41 = τ4 41 := by rw [hs6 41 (by decide), hs5 41 (by decide)]
             have s42 : τ6 42 = τ4 42 := by rw [hs6 42 (by decide), hs5 42 (by decide)]
             have s43 : τ6 43 = τ4 43 := by rw [hs6 43 (by decide), hs5 43 (by decide)]
             have s44 : τ6 44 = τ4 44 := by rw [hs6 44 (by decide), hs5 44 (by decide)]
             have s45 : τ6 45 = τ4 45 := by rw [hs6 45 (by decide), hs5 45 (by decide)]
             have s46 : τ6 46 = τ4 46 := by rw [hs6 46 (by decide), hs5 46 (by decide)]
             refine ⟨rfl, same.wide sc (by decide), okA_41 oA4 s42 s44 s45 s46 (by rw [s43]; exact oA4.1.1) (by rw [s41]; exact oA4.2.2.1) (by rw [s41]; exact oA4.2.2.2), by rw [e]; exact hR6, fun z => ?_, fun z => ?_⟩
             · rw [e] at z; exact absurd z h51
             · rw [e] at z; exact absurd z n51)
          | (rw [ju_at] at h69
             have e : bnR t L m R D N = flR t L m 5 (bn1 t L m R D N) := by rw [bnR, gte_f h69]
             have sc7 : ∀ c, c ∉ [1, 6, 41, 42] → τ7 c = σ c := fun c hc => by
               have hc1 : ¬ c = 1 ∧ ¬ c = 6 ∧ ¬ c = 41 ∧ ¬ c = 42 := by simpa using hc
               rw [hs7 c (by simp; omega), ju_off _ _ _ _ _ hc1.2.2.1, sc c hc]
             have w7 : τ7 41 7 = bnW t L m R D N := by rw [hs7 41 (by decide), ju_at]
             have w6 : τ7 41 6 = τ4 41 6 := by rw [hs7 41 (by decide), ju_ne (by decide), s41]
             have w42 : τ7 42 = τ4 42 := by rw [hs7 42 (by decide), ju_off _ _ _ _ _ (by decide), s42]
             have k4 : ∀ c, c ∉ [1, 41, 42] → τ4 c = σ c := fun c hc => by
               have hc1 : ¬ c = 1 ∧ ¬ c = 41 ∧ ¬ c = 42 := by simpa using hc
               rw [hs4 c hc, hs3 c (by simp; omega), hs2 c (by simp; omega)]
             refine ⟨rfl, same.wide sc7 (by decide), okA_41 oA4 w42 (by rw [sc7 44 (by decide), k4 44 (by decide)]) (by rw [sc7 45 (by decide), k4 45 (by decide)]) (by rw [sc7 46 (by decide), k4 46 (by decide)]) (by rw [sc7 43 (by decide)]; exact hB.1.1.1) (by rw [w6]; exact oA4.2.2.1) (by rw [w7]; exact hWb), by rw [e]; exact hR7, fun z => ?_, fun _ => w7⟩
             rw [e] at z
             exact absurd z (flR_f (by decide)))
          | (rw [ju_at] at h69
             have e : bnR t L m R D N = bn1 t L m R D N := by rw [bnR, gte_t h69]
             have o0 : ju τ6 41 7 (bnW t L m R D N) 43 0 = D 4 := by rw [ju_ne (by decide)]; rw [sc 43 (by decide)]; exact c4
             have y8 : ju τ6 41 7 (bnW t L m R D N) 41 6 = D 4 + 1 := by rw [ju_ne (by decide), s41]; exact y2
             rw [o0] at a2 a4 a5 a6 a7 a8 a9
             rw [y8] at a4
             have p41 : τ7 41 = ju τ6 41 7 (bnW t L m R D N) 41 := a1 41 (by decide) (by decide) (by decide) (by decide)
             have p42 : τ7 42 = τ4 42 := by rw [a1 42 (by decide) (by decide) (by decide) (by decide), ju_off _ _ _ _ _ (by decide), s42]
             have p7 : τ7 41 7 = bnW t L m R D N := by rw [p41, ju_at]
             have pj : ∀ j, ¬ j = 6 → ¬ j = 7 → τ7 41 j = σ 41 j := fun j j6 j7 => by rw [p41, ju_ne (by omega), q41 j j6]
             have p6 : τ7 41 6 = D 4 + 1 := by rw [p41]; exact y8
             have r1 := hs3
             have u0 : ∀ c, c ∉ [1, 6, 41, 42, 43, 44, 45, 46] → τ7 c = σ c := fun c hc => by
               have hc1 : ¬ c = 1 ∧ ¬ c = 6 ∧ ¬ c = 41 ∧ ¬ c = 42 ∧ ¬ c = 43 ∧ ¬ c = 44 ∧ ¬ c = 45 ∧ ¬ c = 46 := by simpa using hc
               rw [a1 c (by omega) (by omega) (by omega) (by omega), ju_off _ _ _ _ _ (by omega), sc c (by simp; omega)]
             have m44 : ∀ j, ¬ j = D 4 → τ7 44 j = σ 44 j := fun j hj => by rw [a5 j hj, ju_ne (by omega), sc 44 (by decide)]
             have m45 : ∀ j, ¬ j = D 4 → τ7 45 j = σ 45 j := fun j hj => by rw [a7 j hj, ju_ne (by omega), sc 45 (by decide)]
             have m46 : ∀ j, (j < D 4 * 8 ∨ D 4 * 8 + n ≤ j) → τ7 46 j = σ 46 j := fun j hj => by rw [a9 j hj, ju_ne (by omega), sc 46 (by decide)]
             have n46 : ∀ i, 0 ≤ i → i < n → τ7 46 (D 4 * 8 + i) = 10 * E (105 + 17 * D 4 + 2 + 2 * i) + E (105 + 17 * D 4 + 1 + 2 * i) := fun i i0 i1 => by rw [a8 i i0 i1, ju_ne (by omega), hr6 i i0 i1]
             have oB0 := hB.1.1
             have b46 : ∀ j, 0 ≤ j → j < 64 → isPg (τ7 46 j) := fun j j0 j1 => by
               by_cases hj : j < D 4 * 8 ∨ D 4 * 8 + n ≤ j
               · rw [m46 j hj]; exact oB0.2.2.1 j j0 j1
               · have q := n46 (j - D 4 * 8) (by omega) (by omega)
                 have q2 := hin (j - D 4 * 8) (by omega) (by omega)
                 rw [show D 4 * 8 + (j - D 4 * 8) = j by omega] at q
                 rw [q]; omega
             have e4 : bnD t L m R D N 4 = D 4 + 1 := up_at _ _ _
             have eE : ∀ j, ¬ j = 4 → bnD t L m R D N j = E j := fun j hj => by rw [← hE]; exact up_ne hj
             have eD : ∀ j, ¬ j = 4 → (j < 105 + 17 * D 4 ∨ 105 + 17 * D 4 + 17 ≤ j) → bnD t L m R D N j = D j := fun j hj h2 => by rw [eE j hj]; exact fr j h2
             have a2' : τ7 43 0 = D 4 + 1 := a2
             refine ⟨rfl, u0, ⟨⟨by rw [a2']; omega, fun b b0 b1 => ?_, b46, fun b b0 b1 => ?_⟩, fun j j0 j1 => ?_, by rw [p6]; omega, by rw [p7]; exact hWb⟩, ?_, fun _ => ⟨?_, ?_⟩, fun _ => p7⟩
             · show 0 ≤ τ7 45 b ∧ τ7 45 b ≤ 8
               by_cases hb : b = D 4
               · rw [hb]
                 have : τ7 45 (D 4) = n := a6
                 omega
               · rw [m45 b hb]; exact oB0.2.1 b b0 b1
             · show -1 ≤ τ7 44 b ∧ τ7 44 b ≤ 7
               by_cases hb : b = D 4
               · rw [hb]
                 have : τ7 44 (D 4) = D 4 + 1 - 1 := a4
                 omega
               · rw [m44 b hb]; exact oB0.2.2.2 b b0 b1
             · show 0 ≤ τ7 42 j ∧ τ7 42 j < 10460353203
               rw [p42]; exact oA4.2.1 j j0 j1
             · rw [e]
               exact rd_t hR6 (by rw [a1 1 (by decide) (by decide) (by decide) (by decide), ju_off _ _ _ _ _ (by decide)]) (by rw [a1 2 (by decide) (by decide) (by decide) (by decide), ju_off _ _ _ _ _ (by decide)]) (by rw [a1 3 (by decide) (by decide) (by decide) (by decide), ju_off _ _ _ _ _ (by decide)])
             · obtain ⟨r0, r1, r2, r3, r4, r5, r6⟩ := C0
               refine ⟨by rw [pj 0 (by decide) (by decide), eD 0 (by decide) (by omega)]; exact r0, by rw [pj 1 (by decide) (by decide), eD 1 (by decide) (by omega)]; exact r1, by rw [pj 2 (by decide) (by decide), eD 2 (by decide) (by omega)]; exact r2, by rw [pj 3 (by decide) (by decide), eD 3 (by decide) (by omega)]; exact r3, by rw [e4]; exact a2', fun p p0 p1 => ?_, fun b b0 b1 => ?_⟩
               · have : outB τ7 41 p = outB σ 41 p := by unfold outB; rw [pj 4 (by decide) (by decide), pj 5 (by decide) (by decide)]
                 rw [this, eD (5 + p) (by omega) (by omega)]; exact r5 p p0 p1
               · rw [e4] at b1
                 show τ7 45 b = _ ∧ ∀ i, 0 ≤ i → i < _ → τ7 46 (b * 8 + i) = _
                 by_cases hb : b = D 4
                 · rw [hb, eE (105 + 17 * D 4) (by omega), g2]
                   refine ⟨a6, fun i i0 i1 => ?_⟩
                   rw [n46 i i0 i1, eE _ (by omega), eE _ (by omega)]
                 · have q := r6 b b0 (by omega)
                   have gb := (hV.2.2.2.2.2.2 b b0 (by omega)).1
                   rw [m45 b hb, eD _ (by omega) (by omega)]
                   refine ⟨q.1, fun i i0 i1 => ?_⟩
                   rw [m46 _ (by omega), eD _ (by omega) (by omega), eD _ (by omega) (by omega)]
                   exact q.2 i i0 i1
             · refine ⟨by rw [e4]; exact p6, fun b b0 b1 => ?_⟩
               rw [e4] at b1
               show τ7 44 b = b ∧ τ7 42 b = _
               unfold bnN
               by_cases hb : b = D 4
               · rw [hb, up_at]
                 exact ⟨by have : τ7 44 (D 4) = D 4 + 1 - 1 := a4; omega, by rw [p42]; exact y3⟩
               · rw [up_ne hb, m44 b hb, p42, y4 b hb]
                 have q := hB.2.2.2 b b0 (by omega)
                 exact ⟨q.1, by rw [hs3 42 (by decide), hs2 42 (by decide)]; exact q.2⟩))
    refine r_aload_n (dc dkX1_readBand 18 rfl) rfl (np 34 rfl ?_)
    refine r_bipush (dc dkX1_readBand 19 rfl) bp_59 (np 36 rfl ?_)
    refine r_pV1 (y' := miX8_sees) (dc dkX1_readBand 20 rfl) mlX1_152 ceX8_sees ob_1 (Nat.le_of_ble_eq_true rfl) (Nat.le_of_ble_eq_true rfl) (c_X8_sees hR5 (by decide)) (np 39 rfl ?_)
    refine r_bn (tgt := 47) (dc dkX1_readBand 21 rfl) rfl (fun h39 => ?_) (fun h39 => (np 42 rfl ?_))
    · skip
      refine r_pick [1, 2, 3, 0] rfl ?_
      exact jj47 _ (by first | exact ⟨hs6, by rw [bn1, gte_f h39]; exact hR6⟩ | exact ⟨same.refl _ _, by rw [bn1, gte_t h39]; exact hR5⟩)
    refine r_aload_n (dc dkX1_readBand 22 rfl) rfl (np 43 rfl ?_)
    refine r_iconst (dc dkX1_readBand 23 rfl) (np 44 rfl ?_)
    refine r_cV1 (y' := miX8_fail) (dc dkX1_readBand 24 rfl) mlX1_113 ceX8_fail ob_1 (Nat.le_of_ble_eq_true rfl) (Nat.le_of_ble_eq_true rfl) (c_X8_fail hR5 (by decide)) (fun r τ6 hp6 => (np 47 rfl ?_))
    obtain ⟨rfl, hs6, hR6⟩ := hp6
    refine r_pick [1, 2, 3, 0] rfl ?_
    exact jj47 _ (by first | exact ⟨hs6, by rw [bn1, gte_f h39]; exact hR6⟩ | exact ⟨same.refl _ _, by rw [bn1, gte_t h39]; exact hR5⟩)
  refine r_aload_n (dc dkX1_readBand 0 rfl) rfl (np 1 rfl ?_)
  refine r_getR (dc dkX1_readBand 1 rfl) flX1_45 fd_41_9 (np 4 rfl ?_)
  refine r_gI 0 (dc dkX1_readBand 2 rfl) flX1_91 fd_43_0 rfl (np 7 rfl ?_)
  refine r_bipush (dc dkX1_readBand 3 rfl) bp_8 (np 9 rfl ?_)
  refine r_icmp_lt (tgt := 17) (dc dkX1_readBand 4 rfl) rfl (by first | assumption | decide | omega) (by first | assumption | decide | omega) (fun h9 => ?_) (fun h9 => (np 12 rfl ?_))
  · skip
    refine r_pick [0, 1, 2] rfl ?_
    exact jj17 _ (by first | exact ⟨hs2, by rw [gte_t (by omega)]; exact hR2⟩ | exact ⟨same.refl _ _, by rw [gte_f (by omega)]; exact hR⟩)
  refine r_aload_n (dc dkX1_readBand 5 rfl) rfl (np 13 rfl ?_)
  refine r_iconst (dc dkX1_readBand 6 rfl) (np 14 rfl ?_)
  refine r_cV1 (y' := miX8_fail) (dc dkX1_readBand 7 rfl) mlX1_113 ceX8_fail ob_1 (Nat.le_of_ble_eq_true rfl) (Nat.le_of_ble_eq_true rfl) (c_X8_fail hR (by decide)) (fun r τ2 hp2 => (np 17 rfl ?_))
  obtain ⟨rfl, hs2, hR2⟩ := hp2
  refine r_pick [0, 1, 2] rfl ?_
  exact jj17 _ (by first | exact ⟨hs2, by rw [gte_t (by omega)]; exact hR2⟩ | exact ⟨same.refl _ _, by rw [gte_f (by omega)]; exact hR⟩)
