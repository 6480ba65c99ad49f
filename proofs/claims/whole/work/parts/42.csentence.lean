theorem vI_nrm (z : Int) : vI z = vI ((Int32.ofInt z).toInt) := by unfold vI; rw [Int32.ofInt_toInt]
theorem r_nrm {d : Nat} {y : jMI} {Po : Option Value → jS → Prop} {pc : Nat} {lv : List (Nat × Value)} {st : List Value} {σ : jS} {a : Int} (K : jR d y Po pc lv (vI ((Int32.ofInt a).toInt) :: st) σ) : jR d y Po pc lv (vI a :: st) σ := by rw [vI_nrm]; exact K
noncomputable def seY (t : Int → Int) (L : Int) (ex : Int → Prop) (idn : Int → Int) : X3 := pAn t L 200 (pO t L 200 ex idn 9 1) (0, 0) 0
noncomputable def seF (t : Int → Int) (L : Int) (ex : Int → Prop) (idn : Int → Int) : X3 := (gte (tK t L 200 (seY t L ex idn).1.2 = 0) (seY t L ex idn).1 (flR t L 200 1 (seY t L ex idn).1), (seY t L ex idn).2.1, (seY t L ex idn).2.2)
theorem seF_0 {t : Int → Int} {L : Int} {ex : Int → Prop} {idn : Int → Int} (h : (seF t L ex idn).1.1 = 0) : (seY t L ex idn).1.1 = 0 ∧ tK t L 200 (seY t L ex idn).1.2 = 0 := by
  unfold seF at h
  by_cases g : tK t L 200 (seY t L ex idn).1.2 = 0
  · rw [gte_t g] at h; exact ⟨h, g⟩
  · rw [gte_f g] at h; exact absurd h (flR_f (by decide))
set_option maxRecDepth 100000 in
set_option maxHeartbeats 4000000 in
theorem c_X12_sentence {σ : jS} (hL : cB 640 (σ 2 1)) {ex : Int → Prop} {idn : Int → Int} (hS : SPn σ ex idn) : Jm 42 miX12_sentence [.ref 0] σ (fun r τ => (same [0, 1, 2, 38, 39, 51, 52] σ τ ∧ τ 2 1 = 0 ∧ (∀ j, ¬ j = 13 → τ 0 j = σ 0 j) ∧ τ 0 13 = (seF (tpe σ) (σ 2 1) ex idn).1.1) ∧ ((seF (tpe σ) (σ 2 1) ex idn).1.1 = 0 → r = some (vI (seF (tpe σ) (σ 2 1) ex idn).2.1) ∧ τ 38 1 = (seF (tpe σ) (σ 2 1) ex idn).2.1 ∧ (0 < (seF (tpe σ) (σ 2 1) ex idn).2.1 ∧ (seF (tpe σ) (σ 2 1) ex idn).2.1 ≤ 20) ∧ (0 < τ 38 0 ∧ τ 38 0 ≤ 39) ∧ rpC (τ 39) 0 (τ 38 0) (seF (tpe σ) (σ 2 1) ex idn).2.2 20) ∧ (¬ (seF (tpe σ) (σ 2 1) ex idn).1.1 = 0 → r = some (vI (-1 - (seF (tpe σ) (σ 2 1) ex idn).1.2)) ∧ τ 38 = σ 38 ∧ τ 39 = σ 39)) := by
  refine jm_ofF (Po := (fun r τ => (same [0, 1, 2, 38, 39, 51, 52] σ τ ∧ τ 2 1 = 0 ∧ (∀ j, ¬ j = 13 → τ 0 j = σ 0 j) ∧ τ 0 13 = (seF (tpe σ) (σ 2 1) ex idn).1.1) ∧ ((seF (tpe σ) (σ 2 1) ex idn).1.1 = 0 → r = some (vI (seF (tpe σ) (σ 2 1) ex idn).2.1) ∧ τ 38 1 = (seF (tpe σ) (σ 2 1) ex idn).2.1 ∧ (0 < (seF (tpe σ) (σ 2 1) ex idn).2.1 ∧ (seF (tpe σ) (σ 2 1) ex idn).2.1 ≤ 20) ∧ (0 < τ 38 0 ∧ τ 38 0 ≤ 39) ∧ rpC (τ 39) 0 (τ 38 0) (seF (tpe σ) (σ 2 1) ex idn).2.2 20) ∧ (¬ (seF (tpe σ) (σ 2 1) ex idn).1.1 = 0 → r = some (vI (-1 - (seF (tpe σ) (σ 2 1) ex idn).1.2)) ∧ τ 38 = σ 38 ∧ τ 39 = σ 39))) (plainFor_of_name (by decide)) (Nat.le_of_ble_eq_true rfl) (lv := [(0, _)]) rfl ?_
  refine r_aload_n (dc dkX12_sentence 0 rfl) rfl (np 1 rfl ?_)
  refine r_getR (dc dkX12_sentence 1 rfl) flX12_10 fd_0_0 (np 4 rfl ?_)
  refine r_sipush (dc dkX12_sentence 2 rfl) sp_200 (np 7 rfl ?_)
  refine r_cV1 (y' := miX8_open) (dc dkX12_sentence 3 rfl) mlX12_102 ceX8_open ob_1 (Nat.le_of_ble_eq_true rfl) (Nat.le_of_ble_eq_true rfl) (c_X8_open (by decide) hL) (fun r τ1 hp1 => (np 10 rfl ?_))
  obtain ⟨rfl, hs1, hR1⟩ := hp1
  refine r_aload_n (dc dkX12_sentence 4 rfl) rfl (np 11 rfl ?_)
  refine r_getR (dc dkX12_sentence 5 rfl) flX12_28 fd_0_3 (np 14 rfl ?_)
  refine r_getR (dc dkX12_sentence 6 rfl) flX12_154 fd_40_5 (np 17 rfl ?_)
  refine r_cV0 (y' := miX9_clear) (dc dkX12_sentence 7 rfl) mlX12_158 ceX9_clear ob_51 (Nat.le_of_ble_eq_true rfl) (Nat.le_of_ble_eq_true rfl) (c_X9_clear isSentence_at51) (fun r τ2 hp2 => (np 20 rfl ?_))
  obtain ⟨rfl, hp2⟩ := hp2
  have s2 : same [1, 51] σ τ2 := fun c hc => by
    have c1 : ¬ c = 1 ∧ ¬ c = 51 := by simpa using hc
    rw [hp2, ju_off _ _ _ _ _ c1.2, ju_off _ _ _ _ _ c1.2, hs1 c (by simpa using c1.1)]
  have z20 : τ2 51 0 = 0 := by rw [hp2, ju_ne (by decide), ju_at]
  have z21 : τ2 51 1 = 0 := by rw [hp2, ju_at]
  have hP : SPp τ2 (tpe σ) (σ 2 1) 200 ex idn (0, 0) 0 := ⟨by rw [hp2]; exact rd_ju (rd_ju hR1 (by decide)) (by decide), rfl, z21, by decide, by omega, by omega, SPn_s hS s2 (by decide) (by decide) (by decide) (by decide) (by decide) (by decide)⟩
  refine r_aload_n (dc dkX12_sentence 8 rfl) rfl (np 21 rfl ?_)
  refine r_getR (dc dkX12_sentence 9 rfl) flX12_28 fd_0_3 (np 24 rfl ?_)
  refine r_getR (dc dkX12_sentence 10 rfl) flX12_154 fd_40_5 (np 27 rfl ?_)
  refine r_aload_n (dc dkX12_sentence 11 rfl) rfl (np 28 rfl ?_)
  refine r_getR (dc dkX12_sentence 12 rfl) flX12_10 fd_0_0 (np 31 rfl ?_)
  refine r_aload_n (dc dkX12_sentence 13 rfl) rfl (np 32 rfl ?_)
  refine r_getR (dc dkX12_sentence 14 rfl) flX12_24 fd_0_2 (np 35 rfl ?_)
  refine r_getR (dc dkX12_sentence 15 rfl) flX12_105 fd_27_1 (np 38 rfl ?_)
  refine r_iconst (dc dkX12_sentence 16 rfl) (np 39 rfl ?_)
  refine r_cV3 (y' := miX9_readAny) (dc dkX12_sentence 17 rfl) mlX12_367 ceX9_readAny ob_51 (Nat.le_of_ble_eq_true rfl) (Nat.le_of_ble_eq_true rfl) ((c_sent 8 1 (by decide) (by decide)).2.2 hP) (fun r τ3 hp3 => (np 42 rfl ?_))
  obtain ⟨rfl, hy⟩ := hp3
  change SPo τ2 (tpe σ) (σ 2 1) 200 (seY (tpe σ) (σ 2 1) ex idn) τ3 at hy
  have s3 : same [1, 51, 52] σ τ3 := (s2.wide (by decide)).tr hy.1
  have e7 := rd_e hy.2.1
  refine r_aload_n (dc dkX12_sentence 18 rfl) rfl (np 43 rfl ?_)
  refine r_getR (dc dkX12_sentence 19 rfl) flX12_10 fd_0_0 (np 46 rfl ?_)
  have jj60 : ∀ τ4 : jS, same [1] τ3 τ4 ∧ rd (tpe σ) (σ 2 1) 200 (seF (tpe σ) (σ 2 1) ex idn).1 τ4 → jR 42 miX12_sentence (fun r τ => (same [0, 1, 2, 38, 39, 51, 52] σ τ ∧ τ 2 1 = 0 ∧ (∀ j, ¬ j = 13 → τ 0 j = σ 0 j) ∧ τ 0 13 = (seF (tpe σ) (σ 2 1) ex idn).1.1) ∧ ((seF (tpe σ) (σ 2 1) ex idn).1.1 = 0 → r = some (vI (seF (tpe σ) (σ 2 1) ex idn).2.1) ∧ τ 38 1 = (seF (tpe σ) (σ 2 1) ex idn).2.1 ∧ (0 < (seF (tpe σ) (σ 2 1) ex idn).2.1 ∧ (seF (tpe σ) (σ 2 1) ex idn).2.1 ≤ 20) ∧ (0 < τ 38 0 ∧ τ 38 0 ≤ 39) ∧ rpC (τ 39) 0 (τ 38 0) (seF (tpe σ) (σ 2 1) ex idn).2.2 20) ∧ (¬ (seF (tpe σ) (σ 2 1) ex idn).1.1 = 0 → r = some (vI (-1 - (seF (tpe σ) (σ 2 1) ex idn).1.2)) ∧ τ 38 = σ 38 ∧ τ 39 = σ 39)) 60 [(0, .ref 0)] [] τ4 := by
    intro τ4 hq
    obtain ⟨hs4, hR4⟩ := hq
    have e74 := rd_e hR4
    have S4 : same [1, 51, 52] σ τ4 := s3.tr (hs4.wide (by decide))
    refine r_aload_n (dc dkX12_sentence 26 rfl) rfl (np 61 rfl ?_)
    refine r_cV0 (y' := miX12_hasFault) (dc dkX12_sentence 27 rfl) mlX12_132 ceX12_hasFault ob_0 (Nat.le_of_ble_eq_true rfl) (Nat.le_of_ble_eq_true rfl) (c_X12_hasFault (by rw [e74.1]; have := e74.2; omega)) (fun r τ6 hp6 => (np 64 rfl ?_))
    obtain ⟨rfl, hp6⟩ := hp6
    have t6 : ∀ c, ¬ c = 0 → ¬ c = 2 → τ6 c = τ4 c := fun c h1 h2 => by rw [hp6, ju_off _ _ _ _ _ h1, ju_off _ _ _ _ _ h2]
    have f1 := e74.1
    rw [f1]
    rw [f1] at hp6
    refine r_bz (tgt := 77) (dc dkX12_sentence 28 rfl) rfl (fun h64 => ?_) (fun h64 => (np 67 rfl ?_))
    · skip
      have hz : (seF (tpe σ) (σ 2 1) ex idn).1.1 = 0 := Classical.byContradiction h64
      have hy0 := (seF_0 hz).1
      obtain ⟨y1, y2, y3, y4, y5, y6⟩ := hy.2.2.2.2 hy0
      have e51 : τ6 51 = τ3 51 := by rw [t6 51 (by decide) (by decide), hs4 51 (by decide)]
      have e52 : τ6 52 = τ3 52 := by rw [t6 52 (by decide) (by decide), hs4 52 (by decide)]
      rw [z20] at y3 y4 y6
      rw [z21] at y2 y4 y6
      refine r_aload_n (dc dkX12_sentence 35 rfl) rfl (np 78 rfl ?_)
      refine r_getR (dc dkX12_sentence 36 rfl) flX12_24 fd_0_2 (np 81 rfl ?_)
      refine r_getR (dc dkX12_sentence 37 rfl) flX12_154 fd_27_5 (np 84 rfl ?_)
      refine r_aload_n (dc dkX12_sentence 38 rfl) rfl (np 85 rfl ?_)
      refine r_getR (dc dkX12_sentence 39 rfl) flX12_28 fd_0_3 (np 88 rfl ?_)
      refine r_getR (dc dkX12_sentence 40 rfl) flX12_154 fd_40_5 (np 91 rfl ?_)
      refine r_cV1 (y' := miX9_copyFrom) (dc dkX12_sentence 41 rfl) mlX12_374 ceX9_copyFrom ob_38 (Nat.le_of_ble_eq_true rfl) (Nat.le_of_ble_eq_true rfl) (c_X9_copyFrom isSentence_at38 isSentence_at51 (by decide)) (fun r τ7 hp7 => (np 94 rfl ?_))
      obtain ⟨rfl, hs7, hc7⟩ := hp7
      refine r_aload_n (dc dkX12_sentence 42 rfl) rfl (np 95 rfl ?_)
      refine r_getR (dc dkX12_sentence 43 rfl) flX12_24 fd_0_2 (np 98 rfl ?_)
      refine r_getR (dc dkX12_sentence 44 rfl) flX12_154 fd_27_5 (np 101 rfl ?_)
      refine r_gI 1 (dc dkX12_sentence 45 rfl) flX12_377 fd_38_1 rfl (np 104 rfl ?_)
      exact r_iret (dc dkX12_sentence 46 rfl) rfl (by
          obtain ⟨c1, c2, c3⟩ := hc7
          rw [e51] at c1 c2
          rw [e52] at c3
          have y12 := hy.2.2.2.1
          have eN : (seF (tpe σ) (σ 2 1) ex idn).2.1 = (seY (tpe σ) (σ 2 1) ex idn).2.1 := rfl
          have eE : (seF (tpe σ) (σ 2 1) ex idn).2.2 = (seY (tpe σ) (σ 2 1) ex idn).2.2 := rfl
          refine ⟨⟨fun c hc => ?_, ?_, fun j j13 => ?_, ?_⟩, fun _ => ⟨by rw [c2, y1, eN], by rw [c2, y1, eN], by rw [eN]; omega, by rw [c1]; have := y6.1; omega, ?_⟩, fun z => absurd hz z⟩
          · simp at hc
            rw [hs7 c (by omega), t6 c (by omega) (by omega), S4 c (by simp; omega)]
          · rw [hs7 2 (by decide), hp6, ju_ne (by decide), ju_at]
          · rw [hs7 0 (by decide), hp6, ju_ne (by omega), ju_ne (by omega), S4 0 (by decide)]
          · rw [hs7 0 (by decide), hp6, ju_at]
          · rw [c1, eE]
            exact rpC_m (rpC_c y6 (fun j j0 j1 => c3 j j0 (by omega))) (by omega))
    refine r_iconst (dc dkX12_sentence 29 rfl) (np 68 rfl ?_)
    refine r_aload_n (dc dkX12_sentence 30 rfl) rfl (np 69 rfl ?_)
    refine r_getR (dc dkX12_sentence 31 rfl) flX12_10 fd_0_0 (np 72 rfl ?_)
    refine r_gI 8 (dc dkX12_sentence 32 rfl) flX12_135 fd_1_8 rfl (np 75 rfl ?_)
    refine r_isub (dc dkX12_sentence 33 rfl) (np 76 rfl ?_)
    exact r_iret (dc dkX12_sentence 34 rfl) rfl (by
        refine ⟨⟨fun c hc => ?_, ?_, fun j j13 => ?_, ?_⟩, fun z => absurd z h64, fun _ => ⟨?_, ?_, ?_⟩⟩
        · simp at hc
          rw [t6 c (by omega) (by omega), S4 c (by simp; omega)]
        · rw [hp6, ju_ne (by decide), ju_at]
        · rw [hp6, ju_ne (by omega), ju_ne (by omega), S4 0 (by decide)]
        · rw [hp6, ju_at]
        · rw [t6 1 (by decide) (by decide), rd_pl hR4 h64]
        · rw [t6 38 (by decide) (by decide), S4 38 (by decide)]
        · rw [t6 39 (by decide) (by decide), S4 39 (by decide)])
  refine r_gI 4 (dc dkX12_sentence 20 rfl) flX12_119 fd_1_4 rfl (np 49 rfl ?_)
  refine r_nrm ?_
  refine r_if_eq (tgt := 60) (dc dkX12_sentence 21 rfl) rfl (iR_of _) (fun h49 => ?_) (fun h49 => (np 52 rfl ?_))
  · skip
    refine r_pick [0] rfl ?_
    exact jj60 _ (by
          by_cases hf : (seY (tpe σ) (σ 2 1) ex idn).1.1 = 0
          · have hk := rd_k hy.2.1 hf
            have hkb := tK_b (t := tpe σ) (L := σ 2 1) (m := 200) (p := (seY (tpe σ) (σ 2 1) ex idn).1.2)
            rw [hk, i_of (by omega)] at h49
            first
            | exact ⟨hs4, by show rd _ _ _ (gte _ _ _) _; rw [gte_f h49]; exact hR4⟩
            | exact ⟨same.refl _ _, by show rd _ _ _ (gte _ _ _) _; rw [gte_t h49]; exact hy.2.1⟩
          · have e : (seF (tpe σ) (σ 2 1) ex idn).1 = (seY (tpe σ) (σ 2 1) ex idn).1 := gte_flR hf
            rw [e]
            first
            | (rw [flR_n hf] at hR4; exact ⟨hs4, hR4⟩)
            | exact ⟨same.refl _ _, hy.2.1⟩)
  refine r_aload_n (dc dkX12_sentence 22 rfl) rfl (np 53 rfl ?_)
  refine r_getR (dc dkX12_sentence 23 rfl) flX12_10 fd_0_0 (np 56 rfl ?_)
  refine r_iconst (dc dkX12_sentence 24 rfl) (np 57 rfl ?_)
  refine r_cV1 (y' := miX8_fail) (dc dkX12_sentence 25 rfl) mlX12_371 ceX8_fail ob_1 (Nat.le_of_ble_eq_true rfl) (Nat.le_of_ble_eq_true rfl) (c_X8_fail hy.2.1 (by decide)) (fun r τ4 hp4 => (np 60 rfl ?_))
  obtain ⟨rfl, hs4, hR4⟩ := hp4
  refine r_pick [0] rfl ?_
  exact jj60 _ (by
        by_cases hf : (seY (tpe σ) (σ 2 1) ex idn).1.1 = 0
        · have hk := rd_k hy.2.1 hf
          have hkb := tK_b (t := tpe σ) (L := σ 2 1) (m := 200) (p := (seY (tpe σ) (σ 2 1) ex idn).1.2)
          rw [hk, i_of (by omega)] at h49
          first
          | exact ⟨hs4, by show rd _ _ _ (gte _ _ _) _; rw [gte_f h49]; exact hR4⟩
          | exact ⟨same.refl _ _, by show rd _ _ _ (gte _ _ _) _; rw [gte_t h49]; exact hy.2.1⟩
        · have e : (seF (tpe σ) (σ 2 1) ex idn).1 = (seY (tpe σ) (σ 2 1) ex idn).1 := gte_flR hf
          rw [e]
          first
          | (rw [flR_n hf] at hR4; exact ⟨hs4, hR4⟩)
          | exact ⟨same.refl _ _, hy.2.1⟩)
