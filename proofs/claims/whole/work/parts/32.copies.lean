/-! ===== copies ===== -/
def sameR (a n : Nat) (σ τ : jS) : Prop := ∀ c, (c < a ∨ a + n ≤ c) → τ c = σ c
theorem sameR.tr {a n : Nat} {σ τ ρ : jS} (h : sameR a n σ τ) (g : sameR a n τ ρ) : sameR a n σ ρ := fun c hc => (g c hc).trans (h c hc)
theorem sameR.wide {a n b l : Nat} {σ τ : jS} (h : sameR a n σ τ) (h1 : b ≤ a) (h2 : a + n ≤ b + l) : sameR b l σ τ := fun c hc => h c (by omega)
theorem isD_apart {k o : Nat} (h : isBoard k) (g : isBoard o) (n : ¬ k = o) : k + 13 ≤ o ∨ o + 13 ≤ k := by
  unfold isBoard at h g
  have key : ∀ k ∈ [28, 41, 54, 67], ∀ o ∈ [28, 41, 54, 67], ¬ k = o → k + 13 ≤ o ∨ o + 13 ≤ k := by decide +kernel
  exact key k h o g n
theorem isC_apart {k o : Nat} (h : isCalls k) (g : isCalls o) (n : ¬ k = o) : k + 13 ≤ o ∨ o + 13 ≤ k := by
  unfold isCalls at h g
  have key : ∀ k ∈ [34, 47, 60, 73], ∀ o ∈ [34, 47, 60, 73], ¬ k = o → k + 13 ≤ o ∨ o + 13 ≤ k := by decide +kernel
  exact key k h o g n
theorem isS_apart {k o : Nat} (h : isSentence k) (g : isSentence o) (n : ¬ k = o) : k + 13 ≤ o ∨ o + 13 ≤ k := by
  unfold isSentence at h g
  have key : ∀ k ∈ [38, 51, 64, 77], ∀ o ∈ [38, 51, 64, 77], ¬ k = o → k + 13 ≤ o ∨ o + 13 ≤ k := by decide +kernel
  exact key k h o g n
theorem isT_apart {k o : Nat} (h : isTable k) (g : isTable o) (n : ¬ k = o) : k + 13 ≤ o ∨ o + 13 ≤ k := by
  unfold isTable at h g
  have key : ∀ k ∈ [27, 40, 53, 66], ∀ o ∈ [27, 40, 53, 66], ¬ k = o → k + 13 ≤ o ∨ o + 13 ≤ k := by decide +kernel
  exact key k h o g n
theorem cpB_src {σ ρ τ : jS} {k o : Nat} (h : cpB ρ τ k o) (e0 : ρ o = σ o) (e1 : ρ (o + 1) = σ (o + 1)) (e2 : ρ (o + 2) = σ (o + 2)) (e3 : ρ (o + 3) = σ (o + 3)) : cpB σ τ k o := by
  unfold cpB at h ⊢
  rw [e0, e1, e2, e3] at h
  exact h
theorem cpB_tgt {σ ρ τ : jS} {k o : Nat} (h : cpB σ τ k o) (e0 : ρ k = τ k) (e1 : ρ (k + 1) = τ (k + 1)) (e2 : ρ (k + 2) = τ (k + 2)) (e3 : ρ (k + 3) = τ (k + 3)) : cpB σ ρ k o := by
  unfold cpB at h ⊢
  rw [e0, e1, e2, e3]
  exact h
/-- a board is another one's copy -/
def cpD (σ τ : jS) (k o : Nat) : Prop := (∀ j, 0 ≤ j → j < 7 → τ k j = σ o j) ∧ (∀ j, 0 ≤ j → j < 8 → τ (k + 1) j = σ (o + 1) j) ∧ cpB σ τ (k + 2) (o + 2)
def cpK (σ τ : jS) (k o : Nat) : Prop := (∀ j, 0 ≤ j → j < 3 → τ k j = σ o j) ∧ (∀ j, 0 ≤ j → j < 8 → τ (k + 1) j = σ (o + 1) j) ∧ (∀ j, 0 ≤ j → j < 8 → τ (k + 2) j = σ (o + 2) j)
def cpS (σ τ : jS) (k o : Nat) : Prop := τ k 0 = σ o 0 ∧ τ k 1 = σ o 1 ∧ (∀ j, 0 ≤ j → j < 40 → τ (k + 1) j = σ (o + 1) j)
/-- a table is another one's copy -/
def cpT (σ τ : jS) (k o : Nat) : Prop := cpD σ τ (k + 1) (o + 1) ∧ cpK σ τ (k + 7) (o + 7) ∧ τ k 3 = σ o 3 ∧ (∀ j, 0 ≤ j → j < 4 → τ (k + 10) j = σ (o + 10) j) ∧ cpS σ τ (k + 11) (o + 11)
theorem cpD_src {σ ρ τ : jS} {k o : Nat} (h : cpD ρ τ k o) (e : ∀ c, o ≤ c → c < o + 6 → ρ c = σ c) : cpD σ τ k o := by
  obtain ⟨h1, h2, h3⟩ := h
  rw [e o (by omega) (by omega)] at h1
  rw [e (o + 1) (by omega) (by omega)] at h2
  exact ⟨h1, h2, cpB_src h3 (e _ (by omega) (by omega)) (e _ (by omega) (by omega)) (e _ (by omega) (by omega)) (e _ (by omega) (by omega))⟩
theorem cpD_tgt {σ ρ τ : jS} {k o : Nat} (h : cpD σ τ k o) (e : ∀ c, k ≤ c → c < k + 6 → ρ c = τ c) : cpD σ ρ k o := by
  obtain ⟨h1, h2, h3⟩ := h
  rw [← e k (by omega) (by omega)] at h1
  rw [← e (k + 1) (by omega) (by omega)] at h2
  exact ⟨h1, h2, cpB_tgt h3 (e _ (by omega) (by omega)) (e _ (by omega) (by omega)) (e _ (by omega) (by omega)) (e _ (by omega) (by omega))⟩
theorem cpK_src {σ ρ τ : jS} {k o : Nat} (h : cpK ρ τ k o) (e : ∀ c, o ≤ c → c < o + 3 → ρ c = σ c) : cpK σ τ k o := by
  unfold cpK at h ⊢
  rw [e o (by omega) (by omega), e (o + 1) (by omega) (by omega), e (o + 2) (by omega) (by omega)] at h
  exact h
theorem cpK_tgt {σ ρ τ : jS} {k o : Nat} (h : cpK σ τ k o) (e : ∀ c, k ≤ c → c < k + 3 → ρ c = τ c) : cpK σ ρ k o := by
  unfold cpK at h ⊢
  rw [e k (by omega) (by omega), e (k + 1) (by omega) (by omega), e (k + 2) (by omega) (by omega)]
  exact h
theorem cpS_src {σ ρ τ : jS} {k o : Nat} (h : cpS ρ τ k o) (e : ∀ c, o ≤ c → c < o + 2 → ρ c = σ c) : cpS σ τ k o := by
  unfold cpS at h ⊢
  rw [e o (by omega) (by omega), e (o + 1) (by omega) (by omega)] at h
  exact h
set_option maxRecDepth 100000 in
set_option maxHeartbeats 4000000 in
theorem c_X1_copyFrom {σ : jS} {k o : Nat} (hk : isBoard k) (ho : isBoard o) (hne : ¬ k = o) (hz : σ o 2 = 0 ∨ σ o 2 = 1) : Jm 3 miX1_copyFrom [.ref k, .ref o] σ (fun r τ => r = none ∧ sameR k 6 σ τ ∧ τ k 7 = σ k 7 ∧ cpD σ τ k o) := by
  have ap := isD_apart hk ho hne
  have hno : ¬ o = k := fun z => hne z.symm
  refine jm_ofF (Po := (fun r τ => r = none ∧ sameR k 6 σ τ ∧ τ k 7 = σ k 7 ∧ cpD σ τ k o)) (plainFor_of_name (by decide)) (Nat.le_of_ble_eq_true rfl) (lv := [(0, _), (1, _)]) rfl ?_
  refine r_aload_n (dc dkX1_copyFrom 0 rfl) rfl (np 1 rfl ?_)
  refine r_aload_n (dc dkX1_copyFrom 1 rfl) rfl (np 2 rfl ?_)
  refine r_gI 0 (dc dkX1_copyFrom 2 rfl) flX1_9 (fdBoard_0 ho) rfl (np 5 rfl ?_)
  refine r_pI 0 (dc dkX1_copyFrom 3 rfl) fpX1_9 (fdBoard_0 hk) rfl (np 8 rfl ?_)
  refine r_aload_n (dc dkX1_copyFrom 4 rfl) rfl (np 9 rfl ?_)
  refine r_aload_n (dc dkX1_copyFrom 5 rfl) rfl (np 10 rfl ?_)
  refine r_gI 1 (dc dkX1_copyFrom 6 rfl) flX1_15 (fdBoard_1 ho) rfl (np 13 rfl ?_)
  refine r_pI 1 (dc dkX1_copyFrom 7 rfl) fpX1_15 (fdBoard_1 hk) rfl (np 16 rfl ?_)
  refine r_aload_n (dc dkX1_copyFrom 8 rfl) rfl (np 17 rfl ?_)
  refine r_aload_n (dc dkX1_copyFrom 9 rfl) rfl (np 18 rfl ?_)
  refine r_gI 2 (dc dkX1_copyFrom 10 rfl) flX1_18 (fdBoard_2 ho) rfl (np 21 rfl ?_)
  refine r_pZ 2 (by simp only [ju, hno, false_and, if_false]; exact hz) (dc dkX1_copyFrom 11 rfl) fpX1_18 (fdBoard_2 hk) rfl (np 24 rfl ?_)
  refine r_aload_n (dc dkX1_copyFrom 12 rfl) rfl (np 25 rfl ?_)
  refine r_aload_n (dc dkX1_copyFrom 13 rfl) rfl (np 26 rfl ?_)
  refine r_gI 3 (dc dkX1_copyFrom 14 rfl) flX1_22 (fdBoard_3 ho) rfl (np 29 rfl ?_)
  refine r_pI 3 (dc dkX1_copyFrom 15 rfl) fpX1_22 (fdBoard_3 hk) rfl (np 32 rfl ?_)
  refine r_aload_n (dc dkX1_copyFrom 16 rfl) rfl (np 33 rfl ?_)
  refine r_aload_n (dc dkX1_copyFrom 17 rfl) rfl (np 34 rfl ?_)
  refine r_gL 4 (dc dkX1_copyFrom 18 rfl) flX1_25 (fdBoard_4 ho) rfl (np 37 rfl ?_)
  refine r_pL 4 (dc dkX1_copyFrom 19 rfl) fpX1_25 (fdBoard_4 hk) rfl (np 40 rfl ?_)
  refine r_aload_n (dc dkX1_copyFrom 20 rfl) rfl (np 41 rfl ?_)
  refine r_aload_n (dc dkX1_copyFrom 21 rfl) rfl (np 42 rfl ?_)
  refine r_gL 5 (dc dkX1_copyFrom 22 rfl) flX1_29 (fdBoard_5 ho) rfl (np 45 rfl ?_)
  refine r_pL 5 (dc dkX1_copyFrom 23 rfl) fpX1_29 (fdBoard_5 hk) rfl (np 48 rfl ?_)
  refine r_aload_n (dc dkX1_copyFrom 24 rfl) rfl (np 49 rfl ?_)
  refine r_aload_n (dc dkX1_copyFrom 25 rfl) rfl (np 50 rfl ?_)
  refine r_gI 6 (dc dkX1_copyFrom 26 rfl) flX1_32 (fdBoard_6 ho) rfl (np 53 rfl ?_)
  refine r_pI 6 (dc dkX1_copyFrom 27 rfl) fpX1_32 (fdBoard_6 hk) rfl (np 56 rfl ?_)
  refine r_abs (fun ρ => (∀ c, ¬ c = k → ρ c = σ c) ∧ (∀ j, 0 ≤ j → j < 7 → ρ k j = σ o j) ∧ ρ k 7 = σ k 7) ⟨?_, ?_, ?_⟩ ?_
  · intro c hc
    rw [ju_off _ _ _ _ _ hc, ju_off _ _ _ _ _ hc, ju_off _ _ _ _ _ hc, ju_off _ _ _ _ _ hc, ju_off _ _ _ _ _ hc, ju_off _ _ _ _ _ hc, ju_off _ _ _ _ _ hc]
  · intro j h0 h7
    rcases (show j = 0 ∨ j = 1 ∨ j = 2 ∨ j = 3 ∨ j = 4 ∨ j = 5 ∨ j = 6 by omega) with rfl | rfl | rfl | rfl | rfl | rfl | rfl <;> simp [ju, hno]
  · simp [ju]
  intro ρ hF
  obtain ⟨F1, F2, F3⟩ := hF
  refine r_aload_n (dc dkX1_copyFrom 28 rfl) rfl (np 57 rfl ?_)
  refine r_getR (dc dkX1_copyFrom 29 rfl) flX1_38 (fdBoard_8 ho) (np 60 rfl ?_)
  refine r_iconst (dc dkX1_copyFrom 30 rfl) (np 61 rfl ?_)
  refine r_aload_n (dc dkX1_copyFrom 31 rfl) rfl (np 62 rfl ?_)
  refine r_getR (dc dkX1_copyFrom 32 rfl) flX1_38 (fdBoard_8 hk) (np 65 rfl ?_)
  refine r_iconst (dc dkX1_copyFrom 33 rfl) (np 66 rfl ?_)
  refine r_bipush (dc dkX1_copyFrom 34 rfl) bp_8 (np 68 rfl ?_)
  refine r_copyL (dc dkX1_copyFrom 35 rfl) cpX1_49 (arBoard_8 ho) (arBoard_8 hk) (by omega) (Nat.le_of_ble_eq_true rfl) (Nat.le_of_ble_eq_true rfl) (np 71 rfl ?_)
  refine r_aload_n (dc dkX1_copyFrom 36 rfl) rfl (np 72 rfl ?_)
  refine r_getR (dc dkX1_copyFrom 37 rfl) flX1_45 (fdBoard_9 hk) (np 75 rfl ?_)
  refine r_aload_n (dc dkX1_copyFrom 38 rfl) rfl (np 76 rfl ?_)
  refine r_getR (dc dkX1_copyFrom 39 rfl) flX1_45 (fdBoard_9 ho) (np 79 rfl ?_)
  refine r_cV1 (y' := miX0_copyFrom) (dc dkX1_copyFrom 40 rfl) mlX1_55 ceX0_copyFrom (obBands (isBoard_9 hk)) (Nat.le_of_ble_eq_true rfl) (Nat.le_of_ble_eq_true rfl) (c_X0_copyFrom (isBoard_9 hk) (isBoard_9 ho) (by omega)) (fun r τ2 hp2 => (np 82 rfl ?_))
  obtain ⟨rfl, hs2, hc2⟩ := hp2
  exact r_vret (dc dkX1_copyFrom 41 rfl) rfl (by
      have g : ∀ c, ¬ c = k + 1 → ¬ c = k + 2 → ¬ c = k + 3 → ¬ c = k + 4 → ¬ c = k + 5 → τ2 c = ρ c := by
        intro c h1 h2 h3 h4 h5
        rw [hs2 c (by simp; omega)]
        simp only [jrow, h1, if_false]
      refine ⟨rfl, fun c hc => ?_, by rw [g k (by omega) (by omega) (by omega) (by omega) (by omega)]; exact F3, fun j h0 h7 => by rw [g k (by omega) (by omega) (by omega) (by omega) (by omega)]; exact F2 j h0 h7, fun j h0 h8 => ?_, ?_⟩
      · rw [g c (by omega) (by omega) (by omega) (by omega) (by omega), F1 c (by omega)]
      · rw [hs2 (k + 1) (by simp)]
        simp only [jrow, if_true]
        unfold jcp
        rw [if_pos (by omega), F1 (o + 1) (by omega)]
        congr 1
        omega
      · refine cpB_src hc2 ?_ ?_ ?_ ?_
        all_goals
          simp only [jrow]
          rw [if_neg (by omega), F1 _ (by omega)])
set_option maxRecDepth 100000 in
set_option maxHeartbeats 4000000 in
theorem c_X3_copyFrom {σ : jS} {k o : Nat} (hk : isCalls k) (ho : isCalls o) (hne : ¬ k = o) : Jm 2 miX3_copyFrom [.ref k, .ref o] σ (fun r τ => r = none ∧ sameR k 3 σ τ ∧ cpK σ τ k o) := by
  have ap := isC_apart hk ho hne
  have hno : ¬ o = k := fun z => hne z.symm
  refine jm_ofF (Po := (fun r τ => r = none ∧ sameR k 3 σ τ ∧ cpK σ τ k o)) (plainFor_of_name (by decide)) (Nat.le_of_ble_eq_true rfl) (lv := [(0, _), (1, _)]) rfl ?_
  refine r_aload_n (dc dkX3_copyFrom 0 rfl) rfl (np 1 rfl ?_)
  refine r_aload_n (dc dkX3_copyFrom 1 rfl) rfl (np 2 rfl ?_)
  refine r_gI 0 (dc dkX3_copyFrom 2 rfl) flX3_9 (fdCalls_0 ho) rfl (np 5 rfl ?_)
  refine r_pI 0 (dc dkX3_copyFrom 3 rfl) fpX3_9 (fdCalls_0 hk) rfl (np 8 rfl ?_)
  refine r_aload_n (dc dkX3_copyFrom 4 rfl) rfl (np 9 rfl ?_)
  refine r_aload_n (dc dkX3_copyFrom 5 rfl) rfl (np 10 rfl ?_)
  refine r_gI 1 (dc dkX3_copyFrom 6 rfl) flX3_15 (fdCalls_1 ho) rfl (np 13 rfl ?_)
  refine r_pI 1 (dc dkX3_copyFrom 7 rfl) fpX3_15 (fdCalls_1 hk) rfl (np 16 rfl ?_)
  refine r_aload_n (dc dkX3_copyFrom 8 rfl) rfl (np 17 rfl ?_)
  refine r_aload_n (dc dkX3_copyFrom 9 rfl) rfl (np 18 rfl ?_)
  refine r_gI 2 (dc dkX3_copyFrom 10 rfl) flX3_18 (fdCalls_2 ho) rfl (np 21 rfl ?_)
  refine r_pI 2 (dc dkX3_copyFrom 11 rfl) fpX3_18 (fdCalls_2 hk) rfl (np 24 rfl ?_)
  refine r_aload_n (dc dkX3_copyFrom 12 rfl) rfl (np 25 rfl ?_)
  refine r_getR (dc dkX3_copyFrom 13 rfl) flX3_21 (fdCalls_3 ho) (np 28 rfl ?_)
  refine r_iconst (dc dkX3_copyFrom 14 rfl) (np 29 rfl ?_)
  refine r_aload_n (dc dkX3_copyFrom 15 rfl) rfl (np 30 rfl ?_)
  refine r_getR (dc dkX3_copyFrom 16 rfl) flX3_21 (fdCalls_3 hk) (np 33 rfl ?_)
  refine r_iconst (dc dkX3_copyFrom 17 rfl) (np 34 rfl ?_)
  refine r_bipush (dc dkX3_copyFrom 18 rfl) bp_8 (np 36 rfl ?_)
  refine r_copyI (dc dkX3_copyFrom 19 rfl) cpX3_28 (arCalls_3 ho) (arCalls_3 hk) (by omega) (Nat.le_of_ble_eq_true rfl) (Nat.le_of_ble_eq_true rfl) (np 39 rfl ?_)
  refine r_aload_n (dc dkX3_copyFrom 20 rfl) rfl (np 40 rfl ?_)
  refine r_getR (dc dkX3_copyFrom 21 rfl) flX3_25 (fdCalls_4 ho) (np 43 rfl ?_)
  refine r_iconst (dc dkX3_copyFrom 22 rfl) (np 44 rfl ?_)
  refine r_aload_n (dc dkX3_copyFrom 23 rfl) rfl (np 45 rfl ?_)
  refine r_getR (dc dkX3_copyFrom 24 rfl) flX3_25 (fdCalls_4 hk) (np 48 rfl ?_)
  refine r_iconst (dc dkX3_copyFrom 25 rfl) (np 49 rfl ?_)
  refine r_bipush (dc dkX3_copyFrom 26 rfl) bp_8 (np 51 rfl ?_)
  refine r_copyI (dc dkX3_copyFrom 27 rfl) cpX3_28 (arCalls_4 ho) (arCalls_4 hk) (by omega) (Nat.le_of_ble_eq_true rfl) (Nat.le_of_ble_eq_true rfl) (np 54 rfl ?_)
  exact r_vret (dc dkX3_copyFrom 28 rfl) rfl (by
      have x1 : ¬ o + 1 = k := by omega
      have x2 : ¬ o + 2 = k := by omega
      have x3 : ¬ o + 2 = k + 1 := by omega
      refine ⟨rfl, fun c hc => ?_, fun j h0 h3 => ?_, fun j h0 h8 => ?_, fun j h0 h8 => ?_⟩
      · have y1 : ¬ c = k := by omega
        have y2 : ¬ c = k + 1 := by omega
        have y3 : ¬ c = k + 2 := by omega
        funext i
        simp [jrow, ju, y1, y2, y3]
      · rcases (show j = 0 ∨ j = 1 ∨ j = 2 by omega) with rfl | rfl | rfl <;> simp [jrow, ju, hno]
      · simp [jrow, jcp, ju, h0, h8, x1]
      · simp [jrow, jcp, ju, h0, h8, x2, x3])
set_option maxRecDepth 100000 in
set_option maxHeartbeats 4000000 in
theorem c_X9_copyFrom {σ : jS} {k o : Nat} (hk : isSentence k) (ho : isSentence o) (hne : ¬ k = o) : Jm 2 miX9_copyFrom [.ref k, .ref o] σ (fun r τ => r = none ∧ sameR k 2 σ τ ∧ cpS σ τ k o) := by
  have ap := isS_apart hk ho hne
  have hno : ¬ o = k := fun z => hne z.symm
  refine jm_ofF (Po := (fun r τ => r = none ∧ sameR k 2 σ τ ∧ cpS σ τ k o)) (plainFor_of_name (by decide)) (Nat.le_of_ble_eq_true rfl) (lv := [(0, _), (1, _)]) rfl ?_
  refine r_aload_n (dc dkX9_copyFrom 0 rfl) rfl (np 1 rfl ?_)
  refine r_aload_n (dc dkX9_copyFrom 1 rfl) rfl (np 2 rfl ?_)
  refine r_gI 0 (dc dkX9_copyFrom 2 rfl) flX9_9 (fdSentence_0 ho) rfl (np 5 rfl ?_)
  refine r_pI 0 (dc dkX9_copyFrom 3 rfl) fpX9_9 (fdSentence_0 hk) rfl (np 8 rfl ?_)
  refine r_aload_n (dc dkX9_copyFrom 4 rfl) rfl (np 9 rfl ?_)
  refine r_aload_n (dc dkX9_copyFrom 5 rfl) rfl (np 10 rfl ?_)
  refine r_gI 1 (dc dkX9_copyFrom 6 rfl) flX9_15 (fdSentence_1 ho) rfl (np 13 rfl ?_)
  refine r_pI 1 (dc dkX9_copyFrom 7 rfl) fpX9_15 (fdSentence_1 hk) rfl (np 16 rfl ?_)
  refine r_aload_n (dc dkX9_copyFrom 8 rfl) rfl (np 17 rfl ?_)
  refine r_getR (dc dkX9_copyFrom 9 rfl) flX9_18 (fdSentence_2 ho) (np 20 rfl ?_)
  refine r_iconst (dc dkX9_copyFrom 10 rfl) (np 21 rfl ?_)
  refine r_aload_n (dc dkX9_copyFrom 11 rfl) rfl (np 22 rfl ?_)
  refine r_getR (dc dkX9_copyFrom 12 rfl) flX9_18 (fdSentence_2 hk) (np 25 rfl ?_)
  refine r_iconst (dc dkX9_copyFrom 13 rfl) (np 26 rfl ?_)
  refine r_bipush (dc dkX9_copyFrom 14 rfl) bp_40 (np 28 rfl ?_)
  refine r_copyI (dc dkX9_copyFrom 15 rfl) cpX9_22 (arSentence_2 ho) (arSentence_2 hk) (by omega) (Nat.le_of_ble_eq_true rfl) (Nat.le_of_ble_eq_true rfl) (np 31 rfl ?_)
  exact r_vret (dc dkX9_copyFrom 16 rfl) rfl (by
      have x1 : ¬ o + 1 = k := by omega
      refine ⟨rfl, fun c hc => ?_, by simp [jrow, ju], by simp [jrow, ju, hno], fun j h0 h8 => ?_⟩
      · have y1 : ¬ c = k := by omega
        have y2 : ¬ c = k + 1 := by omega
        funext i
        simp [jrow, ju, y1, y2]
      · simp [jrow, jcp, ju, h0, h8, x1])
set_option maxRecDepth 100000 in
set_option maxHeartbeats 4000000 in
theorem c_X9_clear {σ : jS} {k : Nat} (hk : isSentence k) : Jm 1 miX9_clear [.ref k] σ (fun r τ => r = none ∧ τ = ju (ju σ k 0 0) k 1 0) := by
  refine jm_ofF (Po := (fun r τ => r = none ∧ τ = ju (ju σ k 0 0) k 1 0)) (plainFor_of_name (by decide)) (Nat.le_of_ble_eq_true rfl) (lv := [(0, _)]) rfl ?_
  refine r_aload_n (dc dkX9_clear 0 rfl) rfl (np 1 rfl ?_)
  refine r_iconst (dc dkX9_clear 1 rfl) (np 2 rfl ?_)
  refine r_pI 0 (dc dkX9_clear 2 rfl) fpX9_9 (fdSentence_0 hk) rfl (np 5 rfl ?_)
  refine r_aload_n (dc dkX9_clear 3 rfl) rfl (np 6 rfl ?_)
  refine r_iconst (dc dkX9_clear 4 rfl) (np 7 rfl ?_)
  refine r_pI 1 (dc dkX9_clear 5 rfl) fpX9_15 (fdSentence_1 hk) rfl (np 10 rfl ?_)
  exact r_vret (dc dkX9_clear 6 rfl) rfl ⟨rfl, rfl⟩
set_option maxRecDepth 100000 in
set_option maxHeartbeats 4000000 in
theorem c_X11_copyFrom {σ : jS} {k o : Nat} (hk : isTable k) (ho : isTable o) (hne : ¬ k = o) (hz : σ (o + 1) 2 = 0 ∨ σ (o + 1) 2 = 1) : Jm 4 miX11_copyFrom [.ref k, .ref o] σ (fun r τ => r = none ∧ sameR k 13 σ τ ∧ (∀ j, ¬ j = 3 → τ k j = σ k j) ∧ τ (k + 1) 7 = σ (k + 1) 7 ∧ cpT σ τ k o) := by
  have ap := isT_apart hk ho hne
  refine jm_ofF (Po := (fun r τ => r = none ∧ sameR k 13 σ τ ∧ (∀ j, ¬ j = 3 → τ k j = σ k j) ∧ τ (k + 1) 7 = σ (k + 1) 7 ∧ cpT σ τ k o)) (plainFor_of_name (by decide)) (Nat.le_of_ble_eq_true rfl) (lv := [(0, _), (1, _)]) rfl ?_
  refine r_aload_n (dc dkX11_copyFrom 0 rfl) rfl (np 1 rfl ?_)
  refine r_getR (dc dkX11_copyFrom 1 rfl) flX11_18 (fdTable_1 hk) (np 4 rfl ?_)
  refine r_aload_n (dc dkX11_copyFrom 2 rfl) rfl (np 5 rfl ?_)
  refine r_getR (dc dkX11_copyFrom 3 rfl) flX11_18 (fdTable_1 ho) (np 8 rfl ?_)
  refine r_cV1 (y' := miX1_copyFrom) (dc dkX11_copyFrom 4 rfl) mlX11_44 ceX1_copyFrom (obBoard (isTable_1 hk)) (Nat.le_of_ble_eq_true rfl) (Nat.le_of_ble_eq_true rfl) (c_X1_copyFrom (isTable_1 hk) (isTable_1 ho) (by omega) (by first | assumption | omega)) (fun r τ2 hp2 => (np 11 rfl ?_))
  obtain ⟨rfl, hs2, hw2, hc2⟩ := hp2
  refine r_aload_n (dc dkX11_copyFrom 5 rfl) rfl (np 12 rfl ?_)
  refine r_getR (dc dkX11_copyFrom 6 rfl) flX11_25 (fdTable_2 hk) (np 15 rfl ?_)
  refine r_aload_n (dc dkX11_copyFrom 7 rfl) rfl (np 16 rfl ?_)
  refine r_getR (dc dkX11_copyFrom 8 rfl) flX11_25 (fdTable_2 ho) (np 19 rfl ?_)
  refine r_cV1 (y' := miX3_copyFrom) (dc dkX11_copyFrom 9 rfl) mlX11_48 ceX3_copyFrom (obCalls (isTable_2 hk)) (Nat.le_of_ble_eq_true rfl) (Nat.le_of_ble_eq_true rfl) (c_X3_copyFrom (isTable_2 hk) (isTable_2 ho) (by omega)) (fun r τ3 hp3 => (np 22 rfl ?_))
  obtain ⟨rfl, hs3, hc3⟩ := hp3
  refine r_aload_n (dc dkX11_copyFrom 10 rfl) rfl (np 23 rfl ?_)
  refine r_aload_n (dc dkX11_copyFrom 11 rfl) rfl (np 24 rfl ?_)
  refine r_gI 3 (dc dkX11_copyFrom 12 rfl) flX11_29 (fdTable_3 ho) rfl (np 27 rfl ?_)
  refine r_pI 3 (dc dkX11_copyFrom 13 rfl) fpX11_29 (fdTable_3 hk) rfl (np 30 rfl ?_)
  refine r_aload_n (dc dkX11_copyFrom 14 rfl) rfl (np 31 rfl ?_)
  refine r_getR (dc dkX11_copyFrom 15 rfl) flX11_33 (fdTable_4 ho) (np 34 rfl ?_)
  refine r_iconst (dc dkX11_copyFrom 16 rfl) (np 35 rfl ?_)
  refine r_aload_n (dc dkX11_copyFrom 17 rfl) rfl (np 36 rfl ?_)
  refine r_getR (dc dkX11_copyFrom 18 rfl) flX11_33 (fdTable_4 hk) (np 39 rfl ?_)
  refine r_iconst (dc dkX11_copyFrom 19 rfl) (np 40 rfl ?_)
  refine r_iconst (dc dkX11_copyFrom 20 rfl) (np 41 rfl ?_)
  refine r_copyI (dc dkX11_copyFrom 21 rfl) cpX11_51 (arTable_4 ho) (arTable_4 hk) (by omega) (Nat.le_of_ble_eq_true rfl) (Nat.le_of_ble_eq_true rfl) (np 44 rfl ?_)
  refine r_abs (fun ρ => (∀ c, ¬ c = k → ¬ c = k + 10 → ρ c = τ3 c) ∧ ρ k 3 = τ3 o 3 ∧ (∀ j, ¬ j = 3 → ρ k j = τ3 k j) ∧ ∀ j, 0 ≤ j → j < 4 → ρ (k + 10) j = τ3 (o + 10) j) ⟨?_, ?_, ?_, ?_⟩ ?_
  · intro c h1 h2
    funext i
    simp [jrow, ju, h1, h2]
  · simp [jrow, ju]
  · intro j hj
    simp [jrow, ju, hj]
  · intro j h0 h4
    have x1 : ¬ o + 10 = k := by omega
    simp [jrow, jcp, ju, h0, h4, x1]
  intro ρ hF
  obtain ⟨F1, F2, F3, F4⟩ := hF
  refine r_aload_n (dc dkX11_copyFrom 22 rfl) rfl (np 45 rfl ?_)
  refine r_getR (dc dkX11_copyFrom 23 rfl) flX11_40 (fdTable_5 hk) (np 48 rfl ?_)
  refine r_aload_n (dc dkX11_copyFrom 24 rfl) rfl (np 49 rfl ?_)
  refine r_getR (dc dkX11_copyFrom 25 rfl) flX11_40 (fdTable_5 ho) (np 52 rfl ?_)
  refine r_cV1 (y' := miX9_copyFrom) (dc dkX11_copyFrom 26 rfl) mlX11_57 ceX9_copyFrom (obSentence (isTable_5 hk)) (Nat.le_of_ble_eq_true rfl) (Nat.le_of_ble_eq_true rfl) (c_X9_copyFrom (isTable_5 hk) (isTable_5 ho) (by omega)) (fun r τ5 hp5 => (np 55 rfl ?_))
  obtain ⟨rfl, hs5, hc5⟩ := hp5
  exact r_vret (dc dkX11_copyFrom 27 rfl) rfl (by
      have w : τ5 (k + 1) = τ2 (k + 1) := by rw [hs5 (k + 1) (by omega), F1 _ (by omega) (by omega), hs3 _ (by omega)]
      refine ⟨rfl, fun c hc => ?_, fun j hj => ?_, ?_, ?_, ?_, ?_, fun j h0 h4 => ?_, ?_⟩
      · rw [hs5 c (by omega), F1 c (by omega) (by omega), hs3 c (by omega), hs2 c (by omega)]
      · rw [hs5 k (by omega), F3 j hj, hs3 k (by omega), hs2 k (by omega)]
      · rw [w]; exact hw2
      · refine cpD_tgt hc2 (fun c h1 h2 => ?_)
        rw [hs5 c (by omega), F1 c (by omega) (by omega), hs3 c (by omega)]
      · refine cpK_src (cpK_tgt hc3 (fun c h1 h2 => ?_)) (fun c h1 h2 => hs2 c (by omega))
        rw [hs5 c (by omega), F1 c (by omega) (by omega)]
      · rw [hs5 k (by omega), F2, hs3 o (by omega), hs2 o (by omega)]
      · rw [hs5 (k + 10) (by omega), F4 j h0 h4, hs3 (o + 10) (by omega), hs2 (o + 10) (by omega)]
      · refine cpS_src hc5 (fun c h1 h2 => ?_)
        rw [F1 c (by omega) (by omega), hs3 c (by omega), hs2 c (by omega)])
