set_option maxRecDepth 100000 in
set_option maxHeartbeats 4000000 in
theorem c_X9_fitsOne {σ : jS} (hB : okB σ 30) (hn : ∀ b, 0 ≤ b → b < σ 30 0 → 3 ≤ σ 32 b) {b : Int} (h0 : 0 ≤ b) (h1 : b < σ 30 0) {c : Int} (hc : 0 ≤ c ∧ c < 51000) : Jm 6 miX9_fitsOne [vI (100 + c / 3000), vI c, .ref 30, vI b, .ref 9] σ (fun r τ => r = some (vI (bI (atS σ b c))) ∧ same [11, 12, 13, 14] σ τ) := by
  have m8 := hB.1
  have mb := msC_b (n := σ 32 b) (P := bAt σ 30 b) ⟨by have := hn b h0 h1; omega, (hB.2.1 b h0 (by omega)).2⟩ (fun i i0 => bAt_p hB h0 (by omega) (show 0 < σ 32 b by have := hn b h0 h1; omega) i0) (c / 3000)
  refine jm_ofF (Po := (fun r τ => r = some (vI (bI (atS σ b c))) ∧ same [11, 12, 13, 14] σ τ)) (plainFor_of_name (by decide)) (Nat.le_of_ble_eq_true rfl) (lv := [(0, _), (1, _), (2, _), (3, _), (4, _)]) rfl ?_
  refine r_iload_n (dc dkX9_fitsOne 0 rfl) rfl (np 1 rfl ?_)
  refine r_sipush (dc dkX9_fitsOne 1 rfl) sp_1000 (np 4 rfl ?_)
  refine r_iremn (dc dkX9_fitsOne 2 rfl) (by first | assumption | omega | decide) (by first | assumption | omega | decide) (np 5 rfl ?_)
  refine r_istore (lv' := [(5, _), (0, _), (1, _), (2, _), (3, _), (4, _)]) (dc dkX9_fitsOne 3 rfl) (Nat.le_of_ble_eq_true rfl) rfl (np 7 rfl ?_)
  refine r_iload_n (dc dkX9_fitsOne 4 rfl) rfl (np 8 rfl ?_)
  refine r_sipush (dc dkX9_fitsOne 5 rfl) sp_1000 (np 11 rfl ?_)
  refine r_idivn (dc dkX9_fitsOne 6 rfl) (by first | assumption | omega | decide) (by first | assumption | omega | decide) (np 12 rfl ?_)
  refine r_iconst (dc dkX9_fitsOne 7 rfl) (np 13 rfl ?_)
  refine r_iremn (dc dkX9_fitsOne 8 rfl) (by first | assumption | omega | decide) (by first | assumption | omega | decide) (np 14 rfl ?_)
  refine r_istore (lv' := [(6, _), (5, _), (0, _), (1, _), (2, _), (3, _), (4, _)]) (dc dkX9_fitsOne 9 rfl) (Nat.le_of_ble_eq_true rfl) rfl (np 16 rfl ?_)
  refine r_aload_n (dc dkX9_fitsOne 10 rfl) rfl (np 17 rfl ?_)
  refine r_iload (dc dkX9_fitsOne 11 rfl) rfl (np 19 rfl ?_)
  refine r_pV1 (y' := miX0_withId) (dc dkX9_fitsOne 12 rfl) mlX9_86 ceX0_withId ob_30 (Nat.le_of_ble_eq_true rfl) (Nat.le_of_ble_eq_true rfl) (c_X0_withId isBands_at30 hB (by omega)) (np 22 rfl ?_)
  have ob := fi_b (P := fun x => σ 31 x = c % 1000 ∧ ¬ c % 1000 = -1) (n := σ 30 0) (by omega)
  obtain ⟨o_, ho_⟩ : ∃ x, x = oId σ c := ⟨_, rfl⟩
  replace ob : -1 ≤ o_ ∧ o_ < 36 ∧ (¬ o_ = -1 → 0 ≤ o_ ∧ o_ < σ 30 0) := by rw [ho_]; exact ob
  refine r_eqI o_ ho_.symm ?_
  refine r_istore (lv' := [(7, _), (6, _), (5, _), (0, _), (1, _), (2, _), (3, _), (4, _)]) (dc dkX9_fitsOne 13 rfl) (Nat.le_of_ble_eq_true rfl) rfl (np 24 rfl ?_)
  refine r_iload_n (dc dkX9_fitsOne 14 rfl) rfl (np 25 rfl ?_)
  by_cases hs109 : (100 + c / 3000) = 109
  · skip
    refine r_tableIn (tgt := 52) (off := 27) (dc dkX9_fitsOne 15 rfl) (by omega) (by omega) (by omega) (by rw [show (((100 + c / 3000)) - (109) : Int).toNat = 0 by omega]; rfl) rfl ?_
    refine r_iload (dc dkX9_fitsOne 16 rfl) rfl (np 54 rfl ?_)
    refine r_iconst (dc dkX9_fitsOne 17 rfl) (np 55 rfl ?_)
    refine r_icmp_eq (tgt := 72) (dc dkX9_fitsOne 18 rfl) rfl (by first | assumption | omega | decide) (by first | assumption | omega | decide) (fun h55 => ?_) (fun h55 => (np 58 rfl ?_))
    · skip
      refine r_iconst (dc dkX9_fitsOne 26 rfl) (np 73 rfl ?_)
      exact r_zret (dc dkX9_fitsOne 27 rfl) rfl (by first | exact Or.inl rfl | exact Or.inr rfl) (by
            refine ⟨congrArg (fun z => some (vI z)) ?_, by first | exact S2 | exact same.refl _ _⟩
            unfold atS
            first
            | (rw [if_pos (show c / 3000 = 9 by omega)]; rw [← ho_]; exact bT ⟨h55, h65⟩)
            | (rw [if_pos (show c / 3000 = 9 by omega)]; rw [← ho_]; exact bF (fun u => u.1 h55))
            | (rw [if_pos (show c / 3000 = 9 by omega)]; rw [← ho_]; exact bF (fun u => h65 u.2))
            | (rw [if_neg (show ¬ c / 3000 = 9 by omega), if_pos (show c / 3000 = 10 by omega)]; rw [← ho_]; exact bT ⟨h77, h90⟩)
            | (rw [if_neg (show ¬ c / 3000 = 9 by omega), if_pos (show c / 3000 = 10 by omega)]; rw [← ho_]; exact bF (fun u => u.1 h77))
            | (rw [if_neg (show ¬ c / 3000 = 9 by omega), if_pos (show c / 3000 = 10 by omega)]; rw [← ho_]; exact bF (fun u => h90 u.2))
            | (rw [if_neg (show ¬ c / 3000 = 9 by omega), if_neg (show ¬ c / 3000 = 10 by omega), if_pos (show c / 3000 = 11 by omega)]; exact bT (by omega))
            | (rw [if_neg (show ¬ c / 3000 = 9 by omega), if_neg (show ¬ c / 3000 = 10 by omega), if_pos (show c / 3000 = 11 by omega)]; exact bF (by omega))
            | (rw [if_neg (show ¬ c / 3000 = 9 by omega), if_neg (show ¬ c / 3000 = 10 by omega), if_neg (show ¬ c / 3000 = 11 by omega)]; exact bT (by unfold cmpS; omega))
            | (rw [if_neg (show ¬ c / 3000 = 9 by omega), if_neg (show ¬ c / 3000 = 10 by omega), if_neg (show ¬ c / 3000 = 11 by omega)]; exact bF (by unfold cmpS; omega)))
    refine r_aload_n (dc dkX9_fitsOne 19 rfl) rfl (np 59 rfl ?_)
    refine r_iload_n (dc dkX9_fitsOne 20 rfl) rfl (np 60 rfl ?_)
    refine r_iload (dc dkX9_fitsOne 21 rfl) rfl (np 62 rfl ?_)
    refine r_pV2 (y' := miX0_liesIn) (dc dkX9_fitsOne 22 rfl) mlX9_99 ceX0_liesIn ob_30 (Nat.le_of_ble_eq_true rfl) (Nat.le_of_ble_eq_true rfl) (c_X0_liesIn isBands_at30 hB h0 (by omega) (by omega) (by omega)) (np 65 rfl ?_)
    refine r_bz (tgt := 72) (dc dkX9_fitsOne 23 rfl) rfl (fun h65 => ?_) (fun h65 => (np 68 rfl ?_))
    · skip
      refine r_iconst (dc dkX9_fitsOne 26 rfl) (np 73 rfl ?_)
      exact r_zret (dc dkX9_fitsOne 27 rfl) rfl (by first | exact Or.inl rfl | exact Or.inr rfl) (by
            refine ⟨congrArg (fun z => some (vI z)) ?_, by first | exact S2 | exact same.refl _ _⟩
            unfold atS
            first
            | (rw [if_pos (show c / 3000 = 9 by omega)]; rw [← ho_]; exact bT ⟨h55, h65⟩)
            | (rw [if_pos (show c / 3000 = 9 by omega)]; rw [← ho_]; exact bF (fun u => u.1 h55))
            | (rw [if_pos (show c / 3000 = 9 by omega)]; rw [← ho_]; exact bF (fun u => h65 u.2))
            | (rw [if_neg (show ¬ c / 3000 = 9 by omega), if_pos (show c / 3000 = 10 by omega)]; rw [← ho_]; exact bT ⟨h77, h90⟩)
            | (rw [if_neg (show ¬ c / 3000 = 9 by omega), if_pos (show c / 3000 = 10 by omega)]; rw [← ho_]; exact bF (fun u => u.1 h77))
            | (rw [if_neg (show ¬ c / 3000 = 9 by omega), if_pos (show c / 3000 = 10 by omega)]; rw [← ho_]; exact bF (fun u => h90 u.2))
            | (rw [if_neg (show ¬ c / 3000 = 9 by omega), if_neg (show ¬ c / 3000 = 10 by omega), if_pos (show c / 3000 = 11 by omega)]; exact bT (by omega))
            | (rw [if_neg (show ¬ c / 3000 = 9 by omega), if_neg (show ¬ c / 3000 = 10 by omega), if_pos (show c / 3000 = 11 by omega)]; exact bF (by omega))
            | (rw [if_neg (show ¬ c / 3000 = 9 by omega), if_neg (show ¬ c / 3000 = 10 by omega), if_neg (show ¬ c / 3000 = 11 by omega)]; exact bT (by unfold cmpS; omega))
            | (rw [if_neg (show ¬ c / 3000 = 9 by omega), if_neg (show ¬ c / 3000 = 10 by omega), if_neg (show ¬ c / 3000 = 11 by omega)]; exact bF (by unfold cmpS; omega)))
    refine r_iconst (dc dkX9_fitsOne 24 rfl) (np 69 rfl ?_)
    refine r_goto (tgt := 73) (dc dkX9_fitsOne 25 rfl) rfl ?_
    exact r_zret (dc dkX9_fitsOne 27 rfl) rfl (by first | exact Or.inl rfl | exact Or.inr rfl) (by
          refine ⟨congrArg (fun z => some (vI z)) ?_, by first | exact S2 | exact same.refl _ _⟩
          unfold atS
          first
          | (rw [if_pos (show c / 3000 = 9 by omega)]; rw [← ho_]; exact bT ⟨h55, h65⟩)
          | (rw [if_pos (show c / 3000 = 9 by omega)]; rw [← ho_]; exact bF (fun u => u.1 h55))
          | (rw [if_pos (show c / 3000 = 9 by omega)]; rw [← ho_]; exact bF (fun u => h65 u.2))
          | (rw [if_neg (show ¬ c / 3000 = 9 by omega), if_pos (show c / 3000 = 10 by omega)]; rw [← ho_]; exact bT ⟨h77, h90⟩)
          | (rw [if_neg (show ¬ c / 3000 = 9 by omega), if_pos (show c / 3000 = 10 by omega)]; rw [← ho_]; exact bF (fun u => u.1 h77))
          | (rw [if_neg (show ¬ c / 3000 = 9 by omega), if_pos (show c / 3000 = 10 by omega)]; rw [← ho_]; exact bF (fun u => h90 u.2))
          | (rw [if_neg (show ¬ c / 3000 = 9 by omega), if_neg (show ¬ c / 3000 = 10 by omega), if_pos (show c / 3000 = 11 by omega)]; exact bT (by omega))
          | (rw [if_neg (show ¬ c / 3000 = 9 by omega), if_neg (show ¬ c / 3000 = 10 by omega), if_pos (show c / 3000 = 11 by omega)]; exact bF (by omega))
          | (rw [if_neg (show ¬ c / 3000 = 9 by omega), if_neg (show ¬ c / 3000 = 10 by omega), if_neg (show ¬ c / 3000 = 11 by omega)]; exact bT (by unfold cmpS; omega))
          | (rw [if_neg (show ¬ c / 3000 = 9 by omega), if_neg (show ¬ c / 3000 = 10 by omega), if_neg (show ¬ c / 3000 = 11 by omega)]; exact bF (by unfold cmpS; omega)))
  by_cases hs110 : (100 + c / 3000) = 110
  · skip
    refine r_tableIn (tgt := 74) (off := 49) (dc dkX9_fitsOne 15 rfl) (by omega) (by omega) (by omega) (by rw [show (((100 + c / 3000)) - (109) : Int).toNat = 1 by omega]; rfl) rfl ?_
    refine r_iload (dc dkX9_fitsOne 28 rfl) rfl (np 76 rfl ?_)
    refine r_iconst (dc dkX9_fitsOne 29 rfl) (np 77 rfl ?_)
    refine r_icmp_eq (tgt := 97) (dc dkX9_fitsOne 30 rfl) rfl (by first | assumption | omega | decide) (by first | assumption | omega | decide) (fun h77 => ?_) (fun h77 => (np 80 rfl ?_))
    · skip
      refine r_iconst (dc dkX9_fitsOne 40 rfl) (np 98 rfl ?_)
      exact r_zret (dc dkX9_fitsOne 41 rfl) rfl (by first | exact Or.inl rfl | exact Or.inr rfl) (by
            refine ⟨congrArg (fun z => some (vI z)) ?_, by first | exact S2 | exact same.refl _ _⟩
            unfold atS
            first
            | (rw [if_pos (show c / 3000 = 9 by omega)]; rw [← ho_]; exact bT ⟨h55, h65⟩)
            | (rw [if_pos (show c / 3000 = 9 by omega)]; rw [← ho_]; exact bF (fun u => u.1 h55))
            | (rw [if_pos (show c / 3000 = 9 by omega)]; rw [← ho_]; exact bF (fun u => h65 u.2))
            | (rw [if_neg (show ¬ c / 3000 = 9 by omega), if_pos (show c / 3000 = 10 by omega)]; rw [← ho_]; exact bT ⟨h77, h90⟩)
            | (rw [if_neg (show ¬ c / 3000 = 9 by omega), if_pos (show c / 3000 = 10 by omega)]; rw [← ho_]; exact bF (fun u => u.1 h77))
            | (rw [if_neg (show ¬ c / 3000 = 9 by omega), if_pos (show c / 3000 = 10 by omega)]; rw [← ho_]; exact bF (fun u => h90 u.2))
            | (rw [if_neg (show ¬ c / 3000 = 9 by omega), if_neg (show ¬ c / 3000 = 10 by omega), if_pos (show c / 3000 = 11 by omega)]; exact bT (by omega))
            | (rw [if_neg (show ¬ c / 3000 = 9 by omega), if_neg (show ¬ c / 3000 = 10 by omega), if_pos (show c / 3000 = 11 by omega)]; exact bF (by omega))
            | (rw [if_neg (show ¬ c / 3000 = 9 by omega), if_neg (show ¬ c / 3000 = 10 by omega), if_neg (show ¬ c / 3000 = 11 by omega)]; exact bT (by unfold cmpS; omega))
            | (rw [if_neg (show ¬ c / 3000 = 9 by omega), if_neg (show ¬ c / 3000 = 10 by omega), if_neg (show ¬ c / 3000 = 11 by omega)]; exact bF (by unfold cmpS; omega)))
    refine r_aload (dc dkX9_fitsOne 31 rfl) rfl (np 82 rfl ?_)
    refine r_aload_n (dc dkX9_fitsOne 32 rfl) rfl (np 83 rfl ?_)
    refine r_iload_n (dc dkX9_fitsOne 33 rfl) rfl (np 84 rfl ?_)
    refine r_iload (dc dkX9_fitsOne 34 rfl) rfl (np 86 rfl ?_)
    refine r_iconst (dc dkX9_fitsOne 35 rfl) (np 87 rfl ?_)
    refine r_cV4 (y' := miX10_areAlike) (dc dkX9_fitsOne 36 rfl) mlX9_103 ceX10_areAlike ob_9 (Nat.le_of_ble_eq_true rfl) (Nat.le_of_ble_eq_true rfl) (c_X10_areAlike hB h0 (by omega) (hn b h0 h1) (by omega) (by omega) (hn o_ (by omega) (by omega)) (by decide)) (fun r2 τ2 hp2 => (np 90 rfl ?_))
    obtain ⟨rfl, S2⟩ := hp2
    refine r_bz (tgt := 97) (dc dkX9_fitsOne 37 rfl) rfl (fun h90 => ?_) (fun h90 => (np 93 rfl ?_))
    · skip
      refine r_iconst (dc dkX9_fitsOne 40 rfl) (np 98 rfl ?_)
      exact r_zret (dc dkX9_fitsOne 41 rfl) rfl (by first | exact Or.inl rfl | exact Or.inr rfl) (by
            refine ⟨congrArg (fun z => some (vI z)) ?_, by first | exact S2 | exact same.refl _ _⟩
            unfold atS
            first
            | (rw [if_pos (show c / 3000 = 9 by omega)]; rw [← ho_]; exact bT ⟨h55, h65⟩)
            | (rw [if_pos (show c / 3000 = 9 by omega)]; rw [← ho_]; exact bF (fun u => u.1 h55))
            | (rw [if_pos (show c / 3000 = 9 by omega)]; rw [← ho_]; exact bF (fun u => h65 u.2))
            | (rw [if_neg (show ¬ c / 3000 = 9 by omega), if_pos (show c / 3000 = 10 by omega)]; rw [← ho_]; exact bT ⟨h77, h90⟩)
            | (rw [if_neg (show ¬ c / 3000 = 9 by omega), if_pos (show c / 3000 = 10 by omega)]; rw [← ho_]; exact bF (fun u => u.1 h77))
            | (rw [if_neg (show ¬ c / 3000 = 9 by omega), if_pos (show c / 3000 = 10 by omega)]; rw [← ho_]; exact bF (fun u => h90 u.2))
            | (rw [if_neg (show ¬ c / 3000 = 9 by omega), if_neg (show ¬ c / 3000 = 10 by omega), if_pos (show c / 3000 = 11 by omega)]; exact bT (by omega))
            | (rw [if_neg (show ¬ c / 3000 = 9 by omega), if_neg (show ¬ c / 3000 = 10 by omega), if_pos (show c / 3000 = 11 by omega)]; exact bF (by omega))
            | (rw [if_neg (show ¬ c / 3000 = 9 by omega), if_neg (show ¬ c / 3000 = 10 by omega), if_neg (show ¬ c / 3000 = 11 by omega)]; exact bT (by unfold cmpS; omega))
            | (rw [if_neg (show ¬ c / 3000 = 9 by omega), if_neg (show ¬ c / 3000 = 10 by omega), if_neg (show ¬ c / 3000 = 11 by omega)]; exact bF (by unfold cmpS; omega)))
    refine r_iconst (dc dkX9_fitsOne 38 rfl) (np 94 rfl ?_)
    refine r_goto (tgt := 98) (dc dkX9_fitsOne 39 rfl) rfl ?_
    exact r_zret (dc dkX9_fitsOne 41 rfl) rfl (by first | exact Or.inl rfl | exact Or.inr rfl) (by
          refine ⟨congrArg (fun z => some (vI z)) ?_, by first | exact S2 | exact same.refl _ _⟩
          unfold atS
          first
          | (rw [if_pos (show c / 3000 = 9 by omega)]; rw [← ho_]; exact bT ⟨h55, h65⟩)
          | (rw [if_pos (show c / 3000 = 9 by omega)]; rw [← ho_]; exact bF (fun u => u.1 h55))
          | (rw [if_pos (show c / 3000 = 9 by omega)]; rw [← ho_]; exact bF (fun u => h65 u.2))
          | (rw [if_neg (show ¬ c / 3000 = 9 by omega), if_pos (show c / 3000 = 10 by omega)]; rw [← ho_]; exact bT ⟨h77, h90⟩)
          | (rw [if_neg (show ¬ c / 3000 = 9 by omega), if_pos (show c / 3000 = 10 by omega)]; rw [← ho_]; exact bF (fun u => u.1 h77))
          | (rw [if_neg (show ¬ c / 3000 = 9 by omega), if_pos (show c / 3000 = 10 by omega)]; rw [← ho_]; exact bF (fun u => h90 u.2))
          | (rw [if_neg (show ¬ c / 3000 = 9 by omega), if_neg (show ¬ c / 3000 = 10 by omega), if_pos (show c / 3000 = 11 by omega)]; exact bT (by omega))
          | (rw [if_neg (show ¬ c / 3000 = 9 by omega), if_neg (show ¬ c / 3000 = 10 by omega), if_pos (show c / 3000 = 11 by omega)]; exact bF (by omega))
          | (rw [if_neg (show ¬ c / 3000 = 9 by omega), if_neg (show ¬ c / 3000 = 10 by omega), if_neg (show ¬ c / 3000 = 11 by omega)]; exact bT (by unfold cmpS; omega))
          | (rw [if_neg (show ¬ c / 3000 = 9 by omega), if_neg (show ¬ c / 3000 = 10 by omega), if_neg (show ¬ c / 3000 = 11 by omega)]; exact bF (by unfold cmpS; omega)))
  by_cases hs111 : (100 + c / 3000) = 111
  · skip
    refine r_tableIn (tgt := 99) (off := 74) (dc dkX9_fitsOne 15 rfl) (by omega) (by omega) (by omega) (by rw [show (((100 + c / 3000)) - (109) : Int).toNat = 2 by omega]; rfl) rfl ?_
    refine r_aload_n (dc dkX9_fitsOne 42 rfl) rfl (np 100 rfl ?_)
    refine r_iload_n (dc dkX9_fitsOne 43 rfl) rfl (np 101 rfl ?_)
    refine r_pV1 (y' := miX0_bentIn) (dc dkX9_fitsOne 44 rfl) mlX9_109 ceX0_bentIn ob_30 (Nat.le_of_ble_eq_true rfl) (Nat.le_of_ble_eq_true rfl) (c_X0_bentIn isBands_at30 hB h0 (by omega)) (np 104 rfl ?_)
    refine r_eqI (bentN (σ 32 b) (bAt σ 30 b)) rfl ?_
    have bb := smI_nn (f := fun i => bI (¬ (0 < tn (bAt σ 30 b i) (bAt σ 30 b (i + 1)) (bAt σ 30 b (i + 2)) ↔ 0 < areaS (σ 32 b) (bAt σ 30 b)))) (A := 1) (n := σ 32 b) (by have := hn b h0 h1; omega) (fun i _ _ => bI_b _)
    replace bb : 0 ≤ bentN (σ 32 b) (bAt σ 30 b) ∧ bentN (σ 32 b) (bAt σ 30 b) ≤ σ 32 b * 1 := bb
    have b8 : σ 32 b ≤ 8 := (hB.2.1 b h0 (by omega)).2
    refine r_if_le (tgt := 111) (dc dkX9_fitsOne 45 rfl) rfl (by first | assumption | omega | decide) (fun h104 => ?_) (fun h104 => (np 107 rfl ?_))
    · skip
      refine r_iconst (dc dkX9_fitsOne 48 rfl) (np 112 rfl ?_)
      exact r_zret (dc dkX9_fitsOne 49 rfl) rfl (by first | exact Or.inl rfl | exact Or.inr rfl) (by
            refine ⟨congrArg (fun z => some (vI z)) ?_, by first | exact S2 | exact same.refl _ _⟩
            unfold atS
            first
            | (rw [if_pos (show c / 3000 = 9 by omega)]; rw [← ho_]; exact bT ⟨h55, h65⟩)
            | (rw [if_pos (show c / 3000 = 9 by omega)]; rw [← ho_]; exact bF (fun u => u.1 h55))
            | (rw [if_pos (show c / 3000 = 9 by omega)]; rw [← ho_]; exact bF (fun u => h65 u.2))
            | (rw [if_neg (show ¬ c / 3000 = 9 by omega), if_pos (show c / 3000 = 10 by omega)]; rw [← ho_]; exact bT ⟨h77, h90⟩)
            | (rw [if_neg (show ¬ c / 3000 = 9 by omega), if_pos (show c / 3000 = 10 by omega)]; rw [← ho_]; exact bF (fun u => u.1 h77))
            | (rw [if_neg (show ¬ c / 3000 = 9 by omega), if_pos (show c / 3000 = 10 by omega)]; rw [← ho_]; exact bF (fun u => h90 u.2))
            | (rw [if_neg (show ¬ c / 3000 = 9 by omega), if_neg (show ¬ c / 3000 = 10 by omega), if_pos (show c / 3000 = 11 by omega)]; exact bT (by omega))
            | (rw [if_neg (show ¬ c / 3000 = 9 by omega), if_neg (show ¬ c / 3000 = 10 by omega), if_pos (show c / 3000 = 11 by omega)]; exact bF (by omega))
            | (rw [if_neg (show ¬ c / 3000 = 9 by omega), if_neg (show ¬ c / 3000 = 10 by omega), if_neg (show ¬ c / 3000 = 11 by omega)]; exact bT (by unfold cmpS; omega))
            | (rw [if_neg (show ¬ c / 3000 = 9 by omega), if_neg (show ¬ c / 3000 = 10 by omega), if_neg (show ¬ c / 3000 = 11 by omega)]; exact bF (by unfold cmpS; omega)))
    refine r_iconst (dc dkX9_fitsOne 46 rfl) (np 108 rfl ?_)
    refine r_goto (tgt := 112) (dc dkX9_fitsOne 47 rfl) rfl ?_
    exact r_zret (dc dkX9_fitsOne 49 rfl) rfl (by first | exact Or.inl rfl | exact Or.inr rfl) (by
          refine ⟨congrArg (fun z => some (vI z)) ?_, by first | exact S2 | exact same.refl _ _⟩
          unfold atS
          first
          | (rw [if_pos (show c / 3000 = 9 by omega)]; rw [← ho_]; exact bT ⟨h55, h65⟩)
          | (rw [if_pos (show c / 3000 = 9 by omega)]; rw [← ho_]; exact bF (fun u => u.1 h55))
          | (rw [if_pos (show c / 3000 = 9 by omega)]; rw [← ho_]; exact bF (fun u => h65 u.2))
          | (rw [if_neg (show ¬ c / 3000 = 9 by omega), if_pos (show c / 3000 = 10 by omega)]; rw [← ho_]; exact bT ⟨h77, h90⟩)
          | (rw [if_neg (show ¬ c / 3000 = 9 by omega), if_pos (show c / 3000 = 10 by omega)]; rw [← ho_]; exact bF (fun u => u.1 h77))
          | (rw [if_neg (show ¬ c / 3000 = 9 by omega), if_pos (show c / 3000 = 10 by omega)]; rw [← ho_]; exact bF (fun u => h90 u.2))
          | (rw [if_neg (show ¬ c / 3000 = 9 by omega), if_neg (show ¬ c / 3000 = 10 by omega), if_pos (show c / 3000 = 11 by omega)]; exact bT (by omega))
          | (rw [if_neg (show ¬ c / 3000 = 9 by omega), if_neg (show ¬ c / 3000 = 10 by omega), if_pos (show c / 3000 = 11 by omega)]; exact bF (by omega))
          | (rw [if_neg (show ¬ c / 3000 = 9 by omega), if_neg (show ¬ c / 3000 = 10 by omega), if_neg (show ¬ c / 3000 = 11 by omega)]; exact bT (by unfold cmpS; omega))
          | (rw [if_neg (show ¬ c / 3000 = 9 by omega), if_neg (show ¬ c / 3000 = 10 by omega), if_neg (show ¬ c / 3000 = 11 by omega)]; exact bF (by unfold cmpS; omega)))
  refine r_tableOut (tgt := 113) (dc dkX9_fitsOne 15 rfl) (by first | assumption | omega | decide) (by omega) rfl ?_
  refine r_iload_n (dc dkX9_fitsOne 50 rfl) rfl (np 114 rfl ?_)
  refine r_aload_n (dc dkX9_fitsOne 51 rfl) rfl (np 115 rfl ?_)
  refine r_iload_n (dc dkX9_fitsOne 52 rfl) rfl (np 116 rfl ?_)
  refine r_pS3 (y' := miX9_measureOf) (dc dkX9_fitsOne 53 rfl) mlX9_112 seX9_measureOf (Nat.le_of_ble_eq_true rfl) (Nat.le_of_ble_eq_true rfl) (c_X9_measureOf hB hn h0 h1 (by omega)) (np 119 rfl ?_)
  refine r_istore (lv' := [(8, _), (7, _), (6, _), (5, _), (0, _), (1, _), (2, _), (3, _), (4, _)]) (dc dkX9_fitsOne 54 rfl) (Nat.le_of_ble_eq_true rfl) rfl (np 121 rfl ?_)
  refine r_iload (dc dkX9_fitsOne 55 rfl) rfl (np 123 rfl ?_)
  refine r_if_ne (tgt := 141) (dc dkX9_fitsOne 56 rfl) rfl (by first | assumption | omega | decide) (fun h123 => ?_) (fun h123 => (np 126 rfl ?_))
  · skip
    refine r_iload (dc dkX9_fitsOne 64 rfl) rfl (np 143 rfl ?_)
    refine r_iconst (dc dkX9_fitsOne 65 rfl) (np 144 rfl ?_)
    refine r_icmp_ne (tgt := 162) (dc dkX9_fitsOne 66 rfl) rfl (by first | assumption | omega | decide) (by first | assumption | omega | decide) (fun h144 => ?_) (fun h144 => (np 147 rfl ?_))
    · skip
      refine r_iload (dc dkX9_fitsOne 74 rfl) rfl (np 164 rfl ?_)
      refine r_iload (dc dkX9_fitsOne 75 rfl) rfl (np 166 rfl ?_)
      refine r_icmp_le (tgt := 173) (dc dkX9_fitsOne 76 rfl) rfl (by first | assumption | omega | decide) (by first | assumption | omega | decide) (fun h166 => ?_) (fun h166 => (np 169 rfl ?_))
      · skip
        refine r_iconst (dc dkX9_fitsOne 79 rfl) (np 174 rfl ?_)
        exact r_zret (dc dkX9_fitsOne 80 rfl) rfl (by first | exact Or.inl rfl | exact Or.inr rfl) (by
              refine ⟨congrArg (fun z => some (vI z)) ?_, by first | exact S2 | exact same.refl _ _⟩
              unfold atS
              first
              | (rw [if_pos (show c / 3000 = 9 by omega)]; rw [← ho_]; exact bT ⟨h55, h65⟩)
              | (rw [if_pos (show c / 3000 = 9 by omega)]; rw [← ho_]; exact bF (fun u => u.1 h55))
              | (rw [if_pos (show c / 3000 = 9 by omega)]; rw [← ho_]; exact bF (fun u => h65 u.2))
              | (rw [if_neg (show ¬ c / 3000 = 9 by omega), if_pos (show c / 3000 = 10 by omega)]; rw [← ho_]; exact bT ⟨h77, h90⟩)
              | (rw [if_neg (show ¬ c / 3000 = 9 by omega), if_pos (show c / 3000 = 10 by omega)]; rw [← ho_]; exact bF (fun u => u.1 h77))
              | (rw [if_neg (show ¬ c / 3000 = 9 by omega), if_pos (show c / 3000 = 10 by omega)]; rw [← ho_]; exact bF (fun u => h90 u.2))
              | (rw [if_neg (show ¬ c / 3000 = 9 by omega), if_neg (show ¬ c / 3000 = 10 by omega), if_pos (show c / 3000 = 11 by omega)]; exact bT (by omega))
              | (rw [if_neg (show ¬ c / 3000 = 9 by omega), if_neg (show ¬ c / 3000 = 10 by omega), if_pos (show c / 3000 = 11 by omega)]; exact bF (by omega))
              | (rw [if_neg (show ¬ c / 3000 = 9 by omega), if_neg (show ¬ c / 3000 = 10 by omega), if_neg (show ¬ c / 3000 = 11 by omega)]; exact bT (by unfold cmpS; omega))
              | (rw [if_neg (show ¬ c / 3000 = 9 by omega), if_neg (show ¬ c / 3000 = 10 by omega), if_neg (show ¬ c / 3000 = 11 by omega)]; exact bF (by unfold cmpS; omega)))
      refine r_iconst (dc dkX9_fitsOne 77 rfl) (np 170 rfl ?_)
      refine r_goto (tgt := 174) (dc dkX9_fitsOne 78 rfl) rfl ?_
      exact r_zret (dc dkX9_fitsOne 80 rfl) rfl (by first | exact Or.inl rfl | exact Or.inr rfl) (by
            refine ⟨congrArg (fun z => some (vI z)) ?_, by first | exact S2 | exact same.refl _ _⟩
            unfold atS
            first
            | (rw [if_pos (show c / 3000 = 9 by omega)]; rw [← ho_]; exact bT ⟨h55, h65⟩)
            | (rw [if_pos (show c / 3000 = 9 by omega)]; rw [← ho_]; exact bF (fun u => u.1 h55))
            | (rw [if_pos (show c / 3000 = 9 by omega)]; rw [← ho_]; exact bF (fun u => h65 u.2))
            | (rw [if_neg (show ¬ c / 3000 = 9 by omega), if_pos (show c / 3000 = 10 by omega)]; rw [← ho_]; exact bT ⟨h77, h90⟩)
            | (rw [if_neg (show ¬ c / 3000 = 9 by omega), if_pos (show c / 3000 = 10 by omega)]; rw [← ho_]; exact bF (fun u => u.1 h77))
            | (rw [if_neg (show ¬ c / 3000 = 9 by omega), if_pos (show c / 3000 = 10 by omega)]; rw [← ho_]; exact bF (fun u => h90 u.2))
            | (rw [if_neg (show ¬ c / 3000 = 9 by omega), if_neg (show ¬ c / 3000 = 10 by omega), if_pos (show c / 3000 = 11 by omega)]; exact bT (by omega))
            | (rw [if_neg (show ¬ c / 3000 = 9 by omega), if_neg (show ¬ c / 3000 = 10 by omega), if_pos (show c / 3000 = 11 by omega)]; exact bF (by omega))
            | (rw [if_neg (show ¬ c / 3000 = 9 by omega), if_neg (show ¬ c / 3000 = 10 by omega), if_neg (show ¬ c / 3000 = 11 by omega)]; exact bT (by unfold cmpS; omega))
            | (rw [if_neg (show ¬ c / 3000 = 9 by omega), if_neg (show ¬ c / 3000 = 10 by omega), if_neg (show ¬ c / 3000 = 11 by omega)]; exact bF (by unfold cmpS; omega)))
    refine r_iload (dc dkX9_fitsOne 67 rfl) rfl (np 149 rfl ?_)
    refine r_iload (dc dkX9_fitsOne 68 rfl) rfl (np 151 rfl ?_)
    refine r_icmp_ne (tgt := 158) (dc dkX9_fitsOne 69 rfl) rfl (by first | assumption | omega | decide) (by first | assumption | omega | decide) (fun h151 => ?_) (fun h151 => (np 154 rfl ?_))
    · skip
      refine r_iconst (dc dkX9_fitsOne 72 rfl) (np 159 rfl ?_)
      refine r_goto (tgt := 174) (dc dkX9_fitsOne 73 rfl) rfl ?_
      exact r_zret (dc dkX9_fitsOne 80 rfl) rfl (by first | exact Or.inl rfl | exact Or.inr rfl) (by
            refine ⟨congrArg (fun z => some (vI z)) ?_, by first | exact S2 | exact same.refl _ _⟩
            unfold atS
            first
            | (rw [if_pos (show c / 3000 = 9 by omega)]; rw [← ho_]; exact bT ⟨h55, h65⟩)
            | (rw [if_pos (show c / 3000 = 9 by omega)]; rw [← ho_]; exact bF (fun u => u.1 h55))
            | (rw [if_pos (show c / 3000 = 9 by omega)]; rw [← ho_]; exact bF (fun u => h65 u.2))
            | (rw [if_neg (show ¬ c / 3000 = 9 by omega), if_pos (show c / 3000 = 10 by omega)]; rw [← ho_]; exact bT ⟨h77, h90⟩)
            | (rw [if_neg (show ¬ c / 3000 = 9 by omega), if_pos (show c / 3000 = 10 by omega)]; rw [← ho_]; exact bF (fun u => u.1 h77))
            | (rw [if_neg (show ¬ c / 3000 = 9 by omega), if_pos (show c / 3000 = 10 by omega)]; rw [← ho_]; exact bF (fun u => h90 u.2))
            | (rw [if_neg (show ¬ c / 3000 = 9 by omega), if_neg (show ¬ c / 3000 = 10 by omega), if_pos (show c / 3000 = 11 by omega)]; exact bT (by omega))
            | (rw [if_neg (show ¬ c / 3000 = 9 by omega), if_neg (show ¬ c / 3000 = 10 by omega), if_pos (show c / 3000 = 11 by omega)]; exact bF (by omega))
            | (rw [if_neg (show ¬ c / 3000 = 9 by omega), if_neg (show ¬ c / 3000 = 10 by omega), if_neg (show ¬ c / 3000 = 11 by omega)]; exact bT (by unfold cmpS; omega))
            | (rw [if_neg (show ¬ c / 3000 = 9 by omega), if_neg (show ¬ c / 3000 = 10 by omega), if_neg (show ¬ c / 3000 = 11 by omega)]; exact bF (by unfold cmpS; omega)))
    refine r_iconst (dc dkX9_fitsOne 70 rfl) (np 155 rfl ?_)
    refine r_goto (tgt := 174) (dc dkX9_fitsOne 71 rfl) rfl ?_
    exact r_zret (dc dkX9_fitsOne 80 rfl) rfl (by first | exact Or.inl rfl | exact Or.inr rfl) (by
          refine ⟨congrArg (fun z => some (vI z)) ?_, by first | exact S2 | exact same.refl _ _⟩
          unfold atS
          first
          | (rw [if_pos (show c / 3000 = 9 by omega)]; rw [← ho_]; exact bT ⟨h55, h65⟩)
          | (rw [if_pos (show c / 3000 = 9 by omega)]; rw [← ho_]; exact bF (fun u => u.1 h55))
          | (rw [if_pos (show c / 3000 = 9 by omega)]; rw [← ho_]; exact bF (fun u => h65 u.2))
          | (rw [if_neg (show ¬ c / 3000 = 9 by omega), if_pos (show c / 3000 = 10 by omega)]; rw [← ho_]; exact bT ⟨h77, h90⟩)
          | (rw [if_neg (show ¬ c / 3000 = 9 by omega), if_pos (show c / 3000 = 10 by omega)]; rw [← ho_]; exact bF (fun u => u.1 h77))
          | (rw [if_neg (show ¬ c / 3000 = 9 by omega), if_pos (show c / 3000 = 10 by omega)]; rw [← ho_]; exact bF (fun u => h90 u.2))
          | (rw [if_neg (show ¬ c / 3000 = 9 by omega), if_neg (show ¬ c / 3000 = 10 by omega), if_pos (show c / 3000 = 11 by omega)]; exact bT (by omega))
          | (rw [if_neg (show ¬ c / 3000 = 9 by omega), if_neg (show ¬ c / 3000 = 10 by omega), if_pos (show c / 3000 = 11 by omega)]; exact bF (by omega))
          | (rw [if_neg (show ¬ c / 3000 = 9 by omega), if_neg (show ¬ c / 3000 = 10 by omega), if_neg (show ¬ c / 3000 = 11 by omega)]; exact bT (by unfold cmpS; omega))
          | (rw [if_neg (show ¬ c / 3000 = 9 by omega), if_neg (show ¬ c / 3000 = 10 by omega), if_neg (show ¬ c / 3000 = 11 by omega)]; exact bF (by unfold cmpS; omega)))
  refine r_iload (dc dkX9_fitsOne 57 rfl) rfl (np 128 rfl ?_)
  refine r_iload (dc dkX9_fitsOne 58 rfl) rfl (np 130 rfl ?_)
  refine r_icmp_ge (tgt := 137) (dc dkX9_fitsOne 59 rfl) rfl (by first | assumption | omega | decide) (by first | assumption | omega | decide) (fun h130 => ?_) (fun h130 => (np 133 rfl ?_))
  · skip
    refine r_iconst (dc dkX9_fitsOne 62 rfl) (np 138 rfl ?_)
    refine r_goto (tgt := 174) (dc dkX9_fitsOne 63 rfl) rfl ?_
    exact r_zret (dc dkX9_fitsOne 80 rfl) rfl (by first | exact Or.inl rfl | exact Or.inr rfl) (by
          refine ⟨congrArg (fun z => some (vI z)) ?_, by first | exact S2 | exact same.refl _ _⟩
          unfold atS
          first
          | (rw [if_pos (show c / 3000 = 9 by omega)]; rw [← ho_]; exact bT ⟨h55, h65⟩)
          | (rw [if_pos (show c / 3000 = 9 by omega)]; rw [← ho_]; exact bF (fun u => u.1 h55))
          | (rw [if_pos (show c / 3000 = 9 by omega)]; rw [← ho_]; exact bF (fun u => h65 u.2))
          | (rw [if_neg (show ¬ c / 3000 = 9 by omega), if_pos (show c / 3000 = 10 by omega)]; rw [← ho_]; exact bT ⟨h77, h90⟩)
          | (rw [if_neg (show ¬ c / 3000 = 9 by omega), if_pos (show c / 3000 = 10 by omega)]; rw [← ho_]; exact bF (fun u => u.1 h77))
          | (rw [if_neg (show ¬ c / 3000 = 9 by omega), if_pos (show c / 3000 = 10 by omega)]; rw [← ho_]; exact bF (fun u => h90 u.2))
          | (rw [if_neg (show ¬ c / 3000 = 9 by omega), if_neg (show ¬ c / 3000 = 10 by omega), if_pos (show c / 3000 = 11 by omega)]; exact bT (by omega))
          | (rw [if_neg (show ¬ c / 3000 = 9 by omega), if_neg (show ¬ c / 3000 = 10 by omega), if_pos (show c / 3000 = 11 by omega)]; exact bF (by omega))
          | (rw [if_neg (show ¬ c / 3000 = 9 by omega), if_neg (show ¬ c / 3000 = 10 by omega), if_neg (show ¬ c / 3000 = 11 by omega)]; exact bT (by unfold cmpS; omega))
          | (rw [if_neg (show ¬ c / 3000 = 9 by omega), if_neg (show ¬ c / 3000 = 10 by omega), if_neg (show ¬ c / 3000 = 11 by omega)]; exact bF (by unfold cmpS; omega)))
  refine r_iconst (dc dkX9_fitsOne 60 rfl) (np 134 rfl ?_)
  refine r_goto (tgt := 174) (dc dkX9_fitsOne 61 rfl) rfl ?_
  exact r_zret (dc dkX9_fitsOne 80 rfl) rfl (by first | exact Or.inl rfl | exact Or.inr rfl) (by
        refine ⟨congrArg (fun z => some (vI z)) ?_, by first | exact S2 | exact same.refl _ _⟩
        unfold atS
        first
        | (rw [if_pos (show c / 3000 = 9 by omega)]; rw [← ho_]; exact bT ⟨h55, h65⟩)
        | (rw [if_pos (show c / 3000 = 9 by omega)]; rw [← ho_]; exact bF (fun u => u.1 h55))
        | (rw [if_pos (show c / 3000 = 9 by omega)]; rw [← ho_]; exact bF (fun u => h65 u.2))
        | (rw [if_neg (show ¬ c / 3000 = 9 by omega), if_pos (show c / 3000 = 10 by omega)]; rw [← ho_]; exact bT ⟨h77, h90⟩)
        | (rw [if_neg (show ¬ c / 3000 = 9 by omega), if_pos (show c / 3000 = 10 by omega)]; rw [← ho_]; exact bF (fun u => u.1 h77))
        | (rw [if_neg (show ¬ c / 3000 = 9 by omega), if_pos (show c / 3000 = 10 by omega)]; rw [← ho_]; exact bF (fun u => h90 u.2))
        | (rw [if_neg (show ¬ c / 3000 = 9 by omega), if_neg (show ¬ c / 3000 = 10 by omega), if_pos (show c / 3000 = 11 by omega)]; exact bT (by omega))
        | (rw [if_neg (show ¬ c / 3000 = 9 by omega), if_neg (show ¬ c / 3000 = 10 by omega), if_pos (show c / 3000 = 11 by omega)]; exact bF (by omega))
        | (rw [if_neg (show ¬ c / 3000 = 9 by omega), if_neg (show ¬ c / 3000 = 10 by omega), if_neg (show ¬ c / 3000 = 11 by omega)]; exact bT (by unfold cmpS; omega))
        | (rw [if_neg (show ¬ c / 3000 = 9 by omega), if_neg (show ¬ c / 3000 = 10 by omega), if_neg (show ¬ c / 3000 = 11 by omega)]; exact bF (by unfold cmpS; omega)))
