set_option maxRecDepth 100000 in
set_option maxHeartbeats 4000000 in
theorem c_X13_areAlike {σ : jS} (hN : okN σ) {a b : Int} (h0 : 0 ≤ a) (h1 : a < σ 113 4) (g0 : 0 ≤ b) (g1 : b < σ 113 4) {w : Int} (hw : 0 ≤ w ∧ w ≤ 2) : Jm 6 miX13_areAlike [.ref 111, vI a, vI b, vI w] σ (fun r τ => r = some (vI (bI (alk (cn σ 113 a) (rP σ 113 a) (cn σ 113 b) (rP σ 113 b) (lPs w)))) ∧ same [125, 126, 127, 128] σ τ) := by
  have na := (hN.2 a h0 h1).1
  have nb := (hN.2 b g0 g1).1
  have m1 := hN.1.2.2.2.2.1
  refine jm_ofF (Po := (fun r τ => r = some (vI (bI (alk (cn σ 113 a) (rP σ 113 a) (cn σ 113 b) (rP σ 113 b) (lPs w)))) ∧ same [125, 126, 127, 128] σ τ)) (plainFor_of_name (by decide)) (Nat.le_of_ble_eq_true rfl) (lv := [(0, _), (1, _), (2, _), (3, _)]) rfl ?_
  refine r_aload_n (dc dkX13_areAlike 0 rfl) rfl (np 1 rfl ?_)
  refine r_iload_n (dc dkX13_areAlike 1 rfl) rfl (np 2 rfl ?_)
  refine r_pV1 (y' := miX13_corners) (dc dkX13_areAlike 2 rfl) mlX13_279 ceX13_corners ob_111 (Nat.le_of_ble_eq_true rfl) (Nat.le_of_ble_eq_true rfl) (c_X13_corners (by omega)) (np 5 rfl ?_)
  refine r_aload_n (dc dkX13_areAlike 3 rfl) rfl (np 6 rfl ?_)
  refine r_iload_n (dc dkX13_areAlike 4 rfl) rfl (np 7 rfl ?_)
  refine r_pV1 (y' := miX13_corners) (dc dkX13_areAlike 5 rfl) mlX13_279 ceX13_corners ob_111 (Nat.le_of_ble_eq_true rfl) (Nat.le_of_ble_eq_true rfl) (c_X13_corners (by omega)) (np 10 rfl ?_)
  refine r_icmp_eq (tgt := 15) (dc dkX13_areAlike 6 rfl) rfl (by first | assumption | decide | omega) (by first | assumption | decide | omega) (fun h10 => ?_) (fun h10 => (np 13 rfl ?_))
  · skip
    refine r_aload_n (dc dkX13_areAlike 9 rfl) rfl (np 16 rfl ?_)
    refine r_iload_n (dc dkX13_areAlike 10 rfl) rfl (np 17 rfl ?_)
    refine r_iload_n (dc dkX13_areAlike 11 rfl) rfl (np 18 rfl ?_)
    refine r_cV2 (y' := miX13_layForm) (dc dkX13_areAlike 12 rfl) mlX13_348 ceX13_layForm ob_111 (Nat.le_of_ble_eq_true rfl) (Nat.le_of_ble_eq_true rfl) (c_X13_layForm hN h0 h1 hw) (fun r τ1 hp1 => (np 21 rfl ?_))
    obtain ⟨rfl, hs1, hc1, hl1⟩ := hp1
    refine r_iconst (dc dkX13_areAlike 13 rfl) (np 22 rfl ?_)
    refine r_istore (lv' := [(4, _), (0, _), (1, _), (2, _), (3, _)]) (dc dkX13_areAlike 14 rfl) (Nat.le_of_ble_eq_true rfl) rfl (np 24 rfl ?_)
    refine r_pick [1, 2, 3, 4, 0] (lv' := [(0, _), (1, _), (2, _), (3, _), (4, _)]) rfl ?_
    refine jlp2 (P := fun (i : Int) (τ2 : jS) => jR _ _ _ 24 [(0, .ref 111), (1, vI a), (2, vI b), (3, vI w), (4, vI i)] [] τ2) (I := fun (i : Int) (τ2 : jS) => (0 ≤ i ∧ i ≤ 16) ∧ same [128] τ1 τ2 ∧ ∀ j, 0 ≤ j → j < i → τ2 128 j = τ1 127 j) (fun (i : Int) (τ2 : jS) => (16 - i).toNat) ?_ _ _ ⟨by omega, same.refl _ _, fun j _ _ => by omega⟩
    intro i τ2 hI24 ih24
    refine r_iload (dc dkX13_areAlike 15 rfl) rfl (np 26 rfl ?_)
    refine r_bipush (dc dkX13_areAlike 16 rfl) bp_16 (np 28 rfl ?_)
    refine r_icmp_ge (tgt := 51) (dc dkX13_areAlike 17 rfl) rfl (by first | assumption | decide | omega) (by first | assumption | decide | omega) (fun h28 => ?_) (fun h28 => (np 31 rfl ?_))
    · skip
      have e2 : τ2 113 = σ 113 := by rw [hI24.2.1 113 (by decide), hs1 113 (by decide)]
      refine r_aload_n (dc dkX13_areAlike 28 rfl) rfl (np 52 rfl ?_)
      refine r_iload_n (dc dkX13_areAlike 29 rfl) rfl (np 53 rfl ?_)
      refine r_iload_n (dc dkX13_areAlike 30 rfl) rfl (np 54 rfl ?_)
      refine r_cV2 (y' := miX13_layForm) (dc dkX13_areAlike 31 rfl) mlX13_348 ceX13_layForm ob_111 (Nat.le_of_ble_eq_true rfl) (Nat.le_of_ble_eq_true rfl) (c_X13_layForm (okN_c hN e2) g0 (by rw [e2]; exact g1) hw) (fun r τ3 hp3 => (np 57 rfl ?_))
      obtain ⟨rfl, hs3, hc3, hl3⟩ := hp3
      rw [cn_c e2 b, rP_c2 e2 b] at hl3
      rw [cn_c e2 b] at hc3
      have e128 : ∀ j, 0 ≤ j → j < 2 * cn σ 113 a → τ3 128 j = τ1 127 j := fun j j0 j1 => by rw [hs3 128 (by decide)]; exact hI24.2.2 j j0 (by omega)
      have e3 : τ3 113 = σ 113 := by rw [hs3 113 (by decide)]; exact e2
      refine r_aload_n (dc dkX13_areAlike 32 rfl) rfl (np 58 rfl ?_)
      refine r_getR (dc dkX13_areAlike 33 rfl) flX13_60 fd_111_31 (np 61 rfl ?_)
      refine r_aload_n (dc dkX13_areAlike 34 rfl) rfl (np 62 rfl ?_)
      refine r_getR (dc dkX13_areAlike 35 rfl) flX13_57 fd_111_30 (np 65 rfl ?_)
      refine r_iconst (dc dkX13_areAlike 36 rfl) (np 66 rfl ?_)
      refine r_aload_n (dc dkX13_areAlike 37 rfl) rfl (np 67 rfl ?_)
      refine r_iload_n (dc dkX13_areAlike 38 rfl) rfl (np 68 rfl ?_)
      refine r_pV1 (y' := miX13_corners) (dc dkX13_areAlike 39 rfl) mlX13_279 ceX13_corners ob_111 (Nat.le_of_ble_eq_true rfl) (Nat.le_of_ble_eq_true rfl) (c_X13_corners (by omega)) (np 71 rfl ?_)
      refine r_eqI (cn σ 113 a) (by rw [cn_c e3]) ?_
      refine r_imul (dc dkX13_areAlike 40 rfl) (np 72 rfl ?_)
      refine r_cS3 (y' := miX13_compare) (dc dkX13_areAlike 41 rfl) mlX13_336 seX13_compare (Nat.le_of_ble_eq_true rfl) (Nat.le_of_ble_eq_true rfl) (c_X13_compare ar_128 ar_127 (by omega) (fun j j0 j1 => ⟨by rw [e128 j j0 j1]; exact hc1 j j0 j1, hc3 j j0 (by omega)⟩)) (fun r τ7 hp7 => (np 75 rfl ?_))
      obtain ⟨h7, z7, rfl, hz7, hl7, he7⟩ := hp7
      rw [h7]
      refine r_if_ne (tgt := 82) (dc dkX13_areAlike 42 rfl) rfl hz7 (fun h75 => ?_) (fun h75 => (np 78 rfl ?_))
      · skip
        refine r_iconst (dc dkX13_areAlike 45 rfl) (np 83 rfl ?_)
        exact r_zret (dc dkX13_areAlike 46 rfl) rfl (by first | exact Or.inl rfl | exact Or.inr rfl) (by
            have S : same [125, 126, 127, 128] σ τ3 := ((hs1.wide (by decide)).tr (hI24.2.1.wide (by decide))).tr (hs3.wide (by decide))
            have q := alk_i (show cn σ 113 a = cn σ 113 b by omega) hl1 hl3
            refine ⟨congrArg (fun z => some (vI z)) ?_, S⟩
            first
            | exact bT (q.mpr (fun j j0 j1 => by rw [← e128 j j0 j1]; exact he7.mp h75 j j0 j1))
            | exact bF (fun z => h75 (he7.mpr (fun j j0 j1 => by rw [e128 j j0 j1]; exact q.mp z j j0 j1))))
      refine r_iconst (dc dkX13_areAlike 43 rfl) (np 79 rfl ?_)
      refine r_goto (tgt := 83) (dc dkX13_areAlike 44 rfl) rfl ?_
      exact r_zret (dc dkX13_areAlike 46 rfl) rfl (by first | exact Or.inl rfl | exact Or.inr rfl) (by
          have S : same [125, 126, 127, 128] σ τ3 := ((hs1.wide (by decide)).tr (hI24.2.1.wide (by decide))).tr (hs3.wide (by decide))
          have q := alk_i (show cn σ 113 a = cn σ 113 b by omega) hl1 hl3
          refine ⟨congrArg (fun z => some (vI z)) ?_, S⟩
          first
          | exact bT (q.mpr (fun j j0 j1 => by rw [← e128 j j0 j1]; exact he7.mp h75 j j0 j1))
          | exact bF (fun z => h75 (he7.mpr (fun j j0 j1 => by rw [e128 j j0 j1]; exact q.mp z j j0 j1))))
    refine r_aload_n (dc dkX13_areAlike 18 rfl) rfl (np 32 rfl ?_)
    refine r_getR (dc dkX13_areAlike 19 rfl) flX13_60 fd_111_31 (np 35 rfl ?_)
    refine r_iload (dc dkX13_areAlike 20 rfl) rfl (np 37 rfl ?_)
    refine r_aload_n (dc dkX13_areAlike 21 rfl) rfl (np 38 rfl ?_)
    refine r_getR (dc dkX13_areAlike 22 rfl) flX13_57 fd_111_30 (np 41 rfl ?_)
    refine r_iload (dc dkX13_areAlike 23 rfl) rfl (np 43 rfl ?_)
    refine r_iald (dc dkX13_areAlike 24 rfl) ar_127 (by omega) (np 44 rfl ?_)
    refine r_iast (dc dkX13_areAlike 25 rfl) ar_128 (by omega) (np 45 rfl ?_)
    refine r_iinc (lv' := [(4, _), (0, _), (1, _), (2, _), (3, _)]) (dc dkX13_areAlike 26 rfl) (Nat.le_of_ble_eq_true rfl) rfl rfl (np 48 rfl ?_)
    refine r_goto (tgt := 24) (dc dkX13_areAlike 27 rfl) rfl ?_
    refine r_pick [1, 2, 3, 4, 0] rfl ?_
    exact ih24 _ _ ⟨by omega, hI24.2.1.put (by decide), fun j j0 j1 => by rcases (show j < i ∨ j = i by omega) with z | z; rw [ju_ne (by omega)]; exact hI24.2.2 j j0 z; rw [z, ju_at, hI24.2.1 127 (by decide)]⟩ (by omega)
  refine r_iconst (dc dkX13_areAlike 7 rfl) (np 14 rfl ?_)
  exact r_zret (dc dkX13_areAlike 8 rfl) rfl (by first | exact Or.inl rfl | exact Or.inr rfl) ⟨congrArg (fun z => some (vI z)) (bF (fun z => h10 z.1)), same.refl _ _⟩
set_option maxRecDepth 100000 in
set_option maxHeartbeats 4000000 in
theorem c_X13_isSame {σ : jS} (hN : okN σ) {b : Int} (h0 : 0 ≤ b) (h1 : b < σ 113 4) {q o : Int} (hq : 0 ≤ q ∧ q ≤ 3) (ho : o = 0 ∨ o = 1) : Jm 6 miX13_isSame [.ref 111, vI b, vI q, vI o] σ (fun r τ => r = some (vI (bI (evn (cn σ 113 b) (rP σ 113 b) (q + 4 * o)))) ∧ same [125, 126, 127, 128] σ τ) := by
  have hv := hN.2 b h0 h1
  have n1 := hv.1
  have m1 := hN.1.2.2.2.2.1
  have hPg : ∀ i, 0 ≤ i → isPg (rP σ 113 b i) := fun i _ => rP_p hv i
  refine jm_ofF (Po := (fun r τ => r = some (vI (bI (evn (cn σ 113 b) (rP σ 113 b) (q + 4 * o)))) ∧ same [125, 126, 127, 128] σ τ)) (plainFor_of_name (by decide)) (Nat.le_of_ble_eq_true rfl) (lv := [(0, _), (1, _), (2, _), (3, _)]) rfl ?_
  refine r_aload_n (dc dkX13_isSame 0 rfl) rfl (np 1 rfl ?_)
  refine r_iload_n (dc dkX13_isSame 1 rfl) rfl (np 2 rfl ?_)
  refine r_iconst (dc dkX13_isSame 2 rfl) (np 3 rfl ?_)
  refine r_cV2 (y' := miX13_layForm) (dc dkX13_isSame 3 rfl) mlX13_348 ceX13_layForm ob_111 (Nat.le_of_ble_eq_true rfl) (Nat.le_of_ble_eq_true rfl) (c_X13_layForm hN h0 h1 (w := 0) (by decide)) (fun r τ1 hp1 => (np 6 rfl ?_))
  obtain ⟨rfl, hs1, hc1, hl1⟩ := hp1
  refine r_iconst (dc dkX13_isSame 4 rfl) (np 7 rfl ?_)
  refine r_istore (lv' := [(4, _), (0, _), (1, _), (2, _), (3, _)]) (dc dkX13_isSame 5 rfl) (Nat.le_of_ble_eq_true rfl) rfl (np 9 rfl ?_)
  refine r_pick [1, 2, 3, 4, 0] (lv' := [(0, _), (1, _), (2, _), (3, _), (4, _)]) rfl ?_
  refine jlp2 (P := fun (i : Int) (τ2 : jS) => jR _ _ _ 9 [(0, .ref 111), (1, vI b), (2, vI q), (3, vI o), (4, vI i)] [] τ2) (I := fun (i : Int) (τ2 : jS) => (0 ≤ i ∧ i ≤ 16) ∧ same [128] τ1 τ2 ∧ ∀ j, 0 ≤ j → j < i → τ2 128 j = τ1 127 j) (fun (i : Int) (τ2 : jS) => (16 - i).toNat) ?_ _ _ ⟨by omega, same.refl _ _, fun j _ _ => by omega⟩
  intro i τ2 hI9 ih9
  refine r_iload (dc dkX13_isSame 6 rfl) rfl (np 11 rfl ?_)
  refine r_bipush (dc dkX13_isSame 7 rfl) bp_16 (np 13 rfl ?_)
  refine r_icmp_ge (tgt := 36) (dc dkX13_isSame 8 rfl) rfl (by first | assumption | decide | omega) (by first | assumption | decide | omega) (fun h13 => ?_) (fun h13 => (np 16 rfl ?_))
  · skip
    have e2 : τ2 113 = σ 113 := by rw [hI9.2.1 113 (by decide), hs1 113 (by decide)]
    refine r_aload_n (dc dkX13_isSame 19 rfl) rfl (np 37 rfl ?_)
    refine r_iload_n (dc dkX13_isSame 20 rfl) rfl (np 38 rfl ?_)
    refine r_iload_n (dc dkX13_isSame 21 rfl) rfl (np 39 rfl ?_)
    refine r_iload_n (dc dkX13_isSame 22 rfl) rfl (np 40 rfl ?_)
    refine r_cV3 (y' := miX13_turnBand) (dc dkX13_isSame 23 rfl) mlX13_340 ceX13_turnBand ob_111 (Nat.le_of_ble_eq_true rfl) (Nat.le_of_ble_eq_true rfl) (c_X13_turnBand (okN_c hN e2) h0 (by rw [e2]; exact h1) hq ho) (fun r τ3 hp3 => (np 43 rfl ?_))
    obtain ⟨rfl, hs3, hT3⟩ := hp3
    rw [cn_c e2 b, rP_c2 e2 b] at hT3
    have e3 : τ3 113 = σ 113 := by rw [hs3 113 (by decide)]; exact e2
    refine r_aload_n (dc dkX13_isSame 24 rfl) rfl (np 44 rfl ?_)
    refine r_aload_n (dc dkX13_isSame 25 rfl) rfl (np 45 rfl ?_)
    refine r_iload_n (dc dkX13_isSame 26 rfl) rfl (np 46 rfl ?_)
    refine r_pV1 (y' := miX13_corners) (dc dkX13_isSame 27 rfl) mlX13_279 ceX13_corners ob_111 (Nat.le_of_ble_eq_true rfl) (Nat.le_of_ble_eq_true rfl) (c_X13_corners (by omega)) (np 49 rfl ?_)
    refine r_eqI (cn σ 113 b) (by rw [cn_c e3]) ?_
    refine r_iconst (dc dkX13_isSame 28 rfl) (np 50 rfl ?_)
    refine r_cV2 (y' := miX13_leastRow) (dc dkX13_isSame 29 rfl) mlX13_344 ceX13_leastRow ob_111 (Nat.le_of_ble_eq_true rfl) (Nat.le_of_ble_eq_true rfl) (c_X13_leastRow (p := q + 4 * o) (Q := rP σ 113 b) (V := fun _ _ => False) (by omega) hPg hT3 (Or.inl rfl)) (fun r τ4 hp4 => (np 53 rfl ?_))
    obtain ⟨rfl, hs4, hc4, hl4⟩ := hp4
    have e128 : ∀ j, 0 ≤ j → j < 2 * cn σ 113 b → τ4 128 j = τ1 127 j := fun j j0 j1 => by rw [hs4 128 (by decide), hs3 128 (by decide)]; exact hI9.2.2 j j0 (by omega)
    have e4 : τ4 113 = σ 113 := by rw [hs4 113 (by decide)]; exact e3
    refine r_aload_n (dc dkX13_isSame 30 rfl) rfl (np 54 rfl ?_)
    refine r_getR (dc dkX13_isSame 31 rfl) flX13_60 fd_111_31 (np 57 rfl ?_)
    refine r_aload_n (dc dkX13_isSame 32 rfl) rfl (np 58 rfl ?_)
    refine r_getR (dc dkX13_isSame 33 rfl) flX13_57 fd_111_30 (np 61 rfl ?_)
    refine r_iconst (dc dkX13_isSame 34 rfl) (np 62 rfl ?_)
    refine r_aload_n (dc dkX13_isSame 35 rfl) rfl (np 63 rfl ?_)
    refine r_iload_n (dc dkX13_isSame 36 rfl) rfl (np 64 rfl ?_)
    refine r_pV1 (y' := miX13_corners) (dc dkX13_isSame 37 rfl) mlX13_279 ceX13_corners ob_111 (Nat.le_of_ble_eq_true rfl) (Nat.le_of_ble_eq_true rfl) (c_X13_corners (by omega)) (np 67 rfl ?_)
    refine r_eqI (cn σ 113 b) (by rw [cn_c e4]) ?_
    refine r_imul (dc dkX13_isSame 38 rfl) (np 68 rfl ?_)
    refine r_cS3 (y' := miX13_compare) (dc dkX13_isSame 39 rfl) mlX13_336 seX13_compare (Nat.le_of_ble_eq_true rfl) (Nat.le_of_ble_eq_true rfl) (c_X13_compare ar_128 ar_127 (by omega) (fun j j0 j1 => ⟨by rw [e128 j j0 j1]; exact hc1 j j0 j1, hc4 j j0 j1⟩)) (fun r τ7 hp7 => (np 71 rfl ?_))
    obtain ⟨h7, z7, rfl, hz7, hl7, he7⟩ := hp7
    rw [h7]
    refine r_if_ne (tgt := 78) (dc dkX13_isSame 40 rfl) rfl hz7 (fun h71 => ?_) (fun h71 => (np 74 rfl ?_))
    · skip
      refine r_iconst (dc dkX13_isSame 43 rfl) (np 79 rfl ?_)
      exact r_zret (dc dkX13_isSame 44 rfl) rfl (by first | exact Or.inl rfl | exact Or.inr rfl) (by
          have S : same [125, 126, 127, 128] σ τ4 := (((hs1.wide (by decide)).tr (hI9.2.1.wide (by decide))).tr (hs3.wide (by decide))).tr (hs4.wide (by decide))
          have q9 := evn_i (p := q + 4 * o) hl1 (lsO_V hl4 (fun p2 i2 => by unfold VV; constructor; intro z; exact Or.inr (by omega); intro z; rcases z with z | z; exact absurd z.2 (fun y => y); omega))
          refine ⟨congrArg (fun z => some (vI z)) ?_, S⟩
          first
          | exact bT (q9.mpr (fun j j0 j1 => by rw [← e128 j j0 j1]; exact he7.mp h71 j j0 j1))
          | exact bF (fun z => h71 (he7.mpr (fun j j0 j1 => by rw [e128 j j0 j1]; exact q9.mp z j j0 j1))))
    refine r_iconst (dc dkX13_isSame 41 rfl) (np 75 rfl ?_)
    refine r_goto (tgt := 79) (dc dkX13_isSame 42 rfl) rfl ?_
    exact r_zret (dc dkX13_isSame 44 rfl) rfl (by first | exact Or.inl rfl | exact Or.inr rfl) (by
        have S : same [125, 126, 127, 128] σ τ4 := (((hs1.wide (by decide)).tr (hI9.2.1.wide (by decide))).tr (hs3.wide (by decide))).tr (hs4.wide (by decide))
        have q9 := evn_i (p := q + 4 * o) hl1 (lsO_V hl4 (fun p2 i2 => by unfold VV; constructor; intro z; exact Or.inr (by omega); intro z; rcases z with z | z; exact absurd z.2 (fun y => y); omega))
        refine ⟨congrArg (fun z => some (vI z)) ?_, S⟩
        first
        | exact bT (q9.mpr (fun j j0 j1 => by rw [← e128 j j0 j1]; exact he7.mp h71 j j0 j1))
        | exact bF (fun z => h71 (he7.mpr (fun j j0 j1 => by rw [e128 j j0 j1]; exact q9.mp z j j0 j1))))
  refine r_aload_n (dc dkX13_isSame 9 rfl) rfl (np 17 rfl ?_)
  refine r_getR (dc dkX13_isSame 10 rfl) flX13_60 fd_111_31 (np 20 rfl ?_)
  refine r_iload (dc dkX13_isSame 11 rfl) rfl (np 22 rfl ?_)
  refine r_aload_n (dc dkX13_isSame 12 rfl) rfl (np 23 rfl ?_)
  refine r_getR (dc dkX13_isSame 13 rfl) flX13_57 fd_111_30 (np 26 rfl ?_)
  refine r_iload (dc dkX13_isSame 14 rfl) rfl (np 28 rfl ?_)
  refine r_iald (dc dkX13_isSame 15 rfl) ar_127 (by omega) (np 29 rfl ?_)
  refine r_iast (dc dkX13_isSame 16 rfl) ar_128 (by omega) (np 30 rfl ?_)
  refine r_iinc (lv' := [(4, _), (0, _), (1, _), (2, _), (3, _)]) (dc dkX13_isSame 17 rfl) (Nat.le_of_ble_eq_true rfl) rfl rfl (np 33 rfl ?_)
  refine r_goto (tgt := 9) (dc dkX13_isSame 18 rfl) rfl ?_
  refine r_pick [1, 2, 3, 4, 0] rfl ?_
  exact ih9 _ _ ⟨by omega, hI9.2.1.put (by decide), fun j j0 j1 => by rcases (show j < i ∨ j = i by omega) with z | z; rw [ju_ne (by omega)]; exact hI9.2.2 j j0 z; rw [z, ju_at, hI9.2.1 127 (by decide)]⟩ (by omega)
set_option maxRecDepth 100000 in
set_option maxHeartbeats 4000000 in
theorem c_X13_alike {σ : jS} (hN : okN σ) {a b w : Int} (ha : iR a) (hb : iR b) (hw : iR w) : Jm 7 miX13_alike [.ref 111, vI a, vI b, vI w] σ (fun r τ => (∀ c, ¬ c = 111 → c ∉ [125, 126, 127, 128] → τ c = σ c) ∧ (∀ j, ¬ j = 0 → τ 111 j = σ 111 j) ∧ τ 111 0 = 0 ∧ r = some (vI (gte ((0 ≤ a ∧ a < σ 113 4) ∧ (0 ≤ b ∧ b < σ 113 4) ∧ 0 ≤ w ∧ w ≤ 2) (bI (alk (cn σ 113 a) (rP σ 113 a) (cn σ 113 b) (rP σ 113 b) (lPs w))) (-1)))) := by
  have m1 := hN.1.2.2.2.2.1
  have hN0 : okN (ju σ 111 0 0) := okN_c hN (ju_off _ _ _ _ _ (by decide))
  have e0 : ju σ 111 0 0 113 = σ 113 := ju_off _ _ _ _ _ (by decide)
  refine jm_ofF (Po := (fun r τ => (∀ c, ¬ c = 111 → c ∉ [125, 126, 127, 128] → τ c = σ c) ∧ (∀ j, ¬ j = 0 → τ 111 j = σ 111 j) ∧ τ 111 0 = 0 ∧ r = some (vI (gte ((0 ≤ a ∧ a < σ 113 4) ∧ (0 ≤ b ∧ b < σ 113 4) ∧ 0 ≤ w ∧ w ≤ 2) (bI (alk (cn σ 113 a) (rP σ 113 a) (cn σ 113 b) (rP σ 113 b) (lPs w))) (-1))))) (plainFor_of_name (by decide)) (Nat.le_of_ble_eq_true rfl) (lv := [(0, _), (1, _), (2, _), (3, _)]) rfl ?_
  refine r_aload_n (dc dkX13_alike 0 rfl) rfl (np 1 rfl ?_)
  refine r_iconst (dc dkX13_alike 1 rfl) (np 2 rfl ?_)
  refine r_pI 0 (dc dkX13_alike 2 rfl) fpX13_94 fd_111_0 rfl (np 5 rfl ?_)
  refine r_aload_n (dc dkX13_alike 3 rfl) rfl (np 6 rfl ?_)
  refine r_iload_n (dc dkX13_alike 4 rfl) rfl (np 7 rfl ?_)
  refine r_pV1 (y' := miX13_isBand) (dc dkX13_alike 5 rfl) mlX13_304 ceX13_isBand ob_111 (Nat.le_of_ble_eq_true rfl) (Nat.le_of_ble_eq_true rfl) (c_X13_isBand hN0 (by omega)) (np 10 rfl ?_)
  refine r_bz (tgt := 48) (dc dkX13_alike 6 rfl) rfl (fun h10 => ?_) (fun h10 => (np 13 rfl ?_))
  · skip
    refine r_iconst (dc dkX13_alike 26 rfl) (np 49 rfl ?_)
    exact r_iret (dc dkX13_alike 27 rfl) rfl (by
        try rw [e0] at h10
        try rw [e0] at h18
        first
        | exact ⟨fun c h1 h2 => by rw [hs2 c h2, ju_off _ _ _ _ _ h1], fun j hj => by rw [hs2 111 (by decide), ju_ne (by omega)], by rw [hs2 111 (by decide), ju_at], by rw [gte_t ⟨h10, h18, h27⟩]; first | rw [bI_t h37] | rw [bI_f h37]⟩
        | exact ⟨fun c h1 h2 => ju_off _ _ _ _ _ h1, fun j hj => ju_ne (by omega), ju_at _ _ _ _, by rw [gte_f (by omega)]⟩)
  refine r_aload_n (dc dkX13_alike 7 rfl) rfl (np 14 rfl ?_)
  refine r_iload_n (dc dkX13_alike 8 rfl) rfl (np 15 rfl ?_)
  refine r_pV1 (y' := miX13_isBand) (dc dkX13_alike 9 rfl) mlX13_304 ceX13_isBand ob_111 (Nat.le_of_ble_eq_true rfl) (Nat.le_of_ble_eq_true rfl) (c_X13_isBand hN0 (by omega)) (np 18 rfl ?_)
  refine r_bz (tgt := 48) (dc dkX13_alike 10 rfl) rfl (fun h18 => ?_) (fun h18 => (np 21 rfl ?_))
  · skip
    refine r_iconst (dc dkX13_alike 26 rfl) (np 49 rfl ?_)
    exact r_iret (dc dkX13_alike 27 rfl) rfl (by
        try rw [e0] at h10
        try rw [e0] at h18
        first
        | exact ⟨fun c h1 h2 => by rw [hs2 c h2, ju_off _ _ _ _ _ h1], fun j hj => by rw [hs2 111 (by decide), ju_ne (by omega)], by rw [hs2 111 (by decide), ju_at], by rw [gte_t ⟨h10, h18, h27⟩]; first | rw [bI_t h37] | rw [bI_f h37]⟩
        | exact ⟨fun c h1 h2 => ju_off _ _ _ _ _ h1, fun j hj => ju_ne (by omega), ju_at _ _ _ _, by rw [gte_f (by omega)]⟩)
  refine r_iload_n (dc dkX13_alike 11 rfl) rfl (np 22 rfl ?_)
  refine r_iconst (dc dkX13_alike 12 rfl) (np 23 rfl ?_)
  refine r_iconst (dc dkX13_alike 13 rfl) (np 24 rfl ?_)
  refine r_pS3 (y' := miX13_isIn) (dc dkX13_alike 14 rfl) mlX13_168 seX13_isIn (Nat.le_of_ble_eq_true rfl) (Nat.le_of_ble_eq_true rfl) (c_X13_isIn (by omega) (by decide) (by decide)) (np 27 rfl ?_)
  refine r_bz (tgt := 48) (dc dkX13_alike 15 rfl) rfl (fun h27 => ?_) (fun h27 => (np 30 rfl ?_))
  · skip
    refine r_iconst (dc dkX13_alike 26 rfl) (np 49 rfl ?_)
    exact r_iret (dc dkX13_alike 27 rfl) rfl (by
        try rw [e0] at h10
        try rw [e0] at h18
        first
        | exact ⟨fun c h1 h2 => by rw [hs2 c h2, ju_off _ _ _ _ _ h1], fun j hj => by rw [hs2 111 (by decide), ju_ne (by omega)], by rw [hs2 111 (by decide), ju_at], by rw [gte_t ⟨h10, h18, h27⟩]; first | rw [bI_t h37] | rw [bI_f h37]⟩
        | exact ⟨fun c h1 h2 => ju_off _ _ _ _ _ h1, fun j hj => ju_ne (by omega), ju_at _ _ _ _, by rw [gte_f (by omega)]⟩)
  refine r_aload_n (dc dkX13_alike 16 rfl) rfl (np 31 rfl ?_)
  refine r_iload_n (dc dkX13_alike 17 rfl) rfl (np 32 rfl ?_)
  refine r_iload_n (dc dkX13_alike 18 rfl) rfl (np 33 rfl ?_)
  refine r_iload_n (dc dkX13_alike 19 rfl) rfl (np 34 rfl ?_)
  refine r_cV3 (y' := miX13_areAlike) (dc dkX13_alike 20 rfl) mlX13_352 ceX13_areAlike ob_111 (Nat.le_of_ble_eq_true rfl) (Nat.le_of_ble_eq_true rfl) (c_X13_areAlike hN0 (by omega) (by rw [e0]; rw [e0] at h10; omega) (by omega) (by rw [e0]; rw [e0] at h18; omega) (by omega)) (fun r τ2 hp2 => (np 37 rfl ?_))
  obtain ⟨rfl, hs2⟩ := hp2
  rw [cn_c e0, cn_c e0, rP_c2 e0, rP_c2 e0]
  refine r_bz (tgt := 44) (dc dkX13_alike 21 rfl) rfl (fun h37 => ?_) (fun h37 => (np 40 rfl ?_))
  · skip
    refine r_iconst (dc dkX13_alike 24 rfl) (np 45 rfl ?_)
    refine r_goto (tgt := 49) (dc dkX13_alike 25 rfl) rfl ?_
    exact r_iret (dc dkX13_alike 27 rfl) rfl (by
        try rw [e0] at h10
        try rw [e0] at h18
        first
        | exact ⟨fun c h1 h2 => by rw [hs2 c h2, ju_off _ _ _ _ _ h1], fun j hj => by rw [hs2 111 (by decide), ju_ne (by omega)], by rw [hs2 111 (by decide), ju_at], by rw [gte_t ⟨h10, h18, h27⟩]; first | rw [bI_t h37] | rw [bI_f h37]⟩
        | exact ⟨fun c h1 h2 => ju_off _ _ _ _ _ h1, fun j hj => ju_ne (by omega), ju_at _ _ _ _, by rw [gte_f (by omega)]⟩)
  refine r_iconst (dc dkX13_alike 22 rfl) (np 41 rfl ?_)
  refine r_goto (tgt := 49) (dc dkX13_alike 23 rfl) rfl ?_
  exact r_iret (dc dkX13_alike 27 rfl) rfl (by
      try rw [e0] at h10
      try rw [e0] at h18
      first
      | exact ⟨fun c h1 h2 => by rw [hs2 c h2, ju_off _ _ _ _ _ h1], fun j hj => by rw [hs2 111 (by decide), ju_ne (by omega)], by rw [hs2 111 (by decide), ju_at], by rw [gte_t ⟨h10, h18, h27⟩]; first | rw [bI_t h37] | rw [bI_f h37]⟩
      | exact ⟨fun c h1 h2 => ju_off _ _ _ _ _ h1, fun j hj => ju_ne (by omega), ju_at _ _ _ _, by rw [gte_f (by omega)]⟩)
set_option maxRecDepth 100000 in
set_option maxHeartbeats 4000000 in
theorem c_X13_form {σ : jS} (hN : okN σ) {b w : Int} (hb : iR b) (hw : iR w) : Jm 6 miX13_form [.ref 111, vI b, vI w] σ (fun r τ => (∀ c, ¬ c = 111 → c ∉ [125, 126, 127, 129] → τ c = σ c) ∧ (∀ j, ¬ j = 0 → ¬ j = 33 → τ 111 j = σ 111 j) ∧ τ 111 0 = 0 ∧ (((0 ≤ b ∧ b < σ 113 4) ∧ 0 ≤ w ∧ w ≤ 2) → r = some (vI (2 * cn σ 113 b)) ∧ τ 111 33 = 2 * cn σ 113 b ∧ lsO (2 * cn σ 113 b) (VV (cn σ 113 b) 0 (lPs w)) (rwV (cn σ 113 b) (rP σ 113 b)) (τ 129)) ∧ (¬ ((0 ≤ b ∧ b < σ 113 4) ∧ 0 ≤ w ∧ w ≤ 2) → r = some (vI (-1)) ∧ τ 111 33 = σ 111 33 ∧ τ 129 = σ 129)) := by
  have m1 := hN.1.2.2.2.2.1
  have hN0 : okN (ju σ 111 0 0) := okN_c hN (ju_off _ _ _ _ _ (by decide))
  have e0 : ju σ 111 0 0 113 = σ 113 := ju_off _ _ _ _ _ (by decide)
  refine jm_ofF (Po := (fun r τ => (∀ c, ¬ c = 111 → c ∉ [125, 126, 127, 129] → τ c = σ c) ∧ (∀ j, ¬ j = 0 → ¬ j = 33 → τ 111 j = σ 111 j) ∧ τ 111 0 = 0 ∧ (((0 ≤ b ∧ b < σ 113 4) ∧ 0 ≤ w ∧ w ≤ 2) → r = some (vI (2 * cn σ 113 b)) ∧ τ 111 33 = 2 * cn σ 113 b ∧ lsO (2 * cn σ 113 b) (VV (cn σ 113 b) 0 (lPs w)) (rwV (cn σ 113 b) (rP σ 113 b)) (τ 129)) ∧ (¬ ((0 ≤ b ∧ b < σ 113 4) ∧ 0 ≤ w ∧ w ≤ 2) → r = some (vI (-1)) ∧ τ 111 33 = σ 111 33 ∧ τ 129 = σ 129))) (plainFor_of_name (by decide)) (Nat.le_of_ble_eq_true rfl) (lv := [(0, _), (1, _), (2, _)]) rfl ?_
  refine r_aload_n (dc dkX13_form 0 rfl) rfl (np 1 rfl ?_)
  refine r_iconst (dc dkX13_form 1 rfl) (np 2 rfl ?_)
  refine r_pI 0 (dc dkX13_form 2 rfl) fpX13_94 fd_111_0 rfl (np 5 rfl ?_)
  refine r_aload_n (dc dkX13_form 3 rfl) rfl (np 6 rfl ?_)
  refine r_iload_n (dc dkX13_form 4 rfl) rfl (np 7 rfl ?_)
  refine r_pV1 (y' := miX13_isBand) (dc dkX13_form 5 rfl) mlX13_304 ceX13_isBand ob_111 (Nat.le_of_ble_eq_true rfl) (Nat.le_of_ble_eq_true rfl) (c_X13_isBand hN0 (by omega)) (np 10 rfl ?_)
  refine r_bz (tgt := 22) (dc dkX13_form 6 rfl) rfl (fun h10 => ?_) (fun h10 => (np 13 rfl ?_))
  · skip
    refine r_iconst (dc dkX13_form 12 rfl) (np 23 rfl ?_)
    exact r_iret (dc dkX13_form 13 rfl) rfl (by
        rw [e0] at h10
        exact ⟨fun c h1 h2 => ju_off _ _ _ _ _ h1, fun j hj _ => ju_ne (by omega), ju_at _ _ _ _, fun z => absurd z (by omega), fun _ => ⟨rfl, ju_ne (by decide), ju_off _ _ _ _ _ (by decide)⟩⟩)
  refine r_iload_n (dc dkX13_form 7 rfl) rfl (np 14 rfl ?_)
  refine r_iconst (dc dkX13_form 8 rfl) (np 15 rfl ?_)
  refine r_iconst (dc dkX13_form 9 rfl) (np 16 rfl ?_)
  refine r_pS3 (y' := miX13_isIn) (dc dkX13_form 10 rfl) mlX13_168 seX13_isIn (Nat.le_of_ble_eq_true rfl) (Nat.le_of_ble_eq_true rfl) (c_X13_isIn (by omega) (by decide) (by decide)) (np 19 rfl ?_)
  refine r_bn (tgt := 24) (dc dkX13_form 11 rfl) rfl (fun h19 => ?_) (fun h19 => (np 22 rfl ?_))
  · skip
    refine r_aload_n (dc dkX13_form 14 rfl) rfl (np 25 rfl ?_)
    refine r_iload_n (dc dkX13_form 15 rfl) rfl (np 26 rfl ?_)
    refine r_iload_n (dc dkX13_form 16 rfl) rfl (np 27 rfl ?_)
    refine r_cV2 (y' := miX13_layForm) (dc dkX13_form 17 rfl) mlX13_348 ceX13_layForm ob_111 (Nat.le_of_ble_eq_true rfl) (Nat.le_of_ble_eq_true rfl) (c_X13_layForm hN0 (by omega) (by rw [e0]; rw [e0] at h10; omega) (by omega)) (fun r τ1 hp1 => (np 30 rfl ?_))
    obtain ⟨rfl, hs1, hc1, hl1⟩ := hp1
    rw [cn_c e0, rP_c2 e0] at hl1
    rw [cn_c e0] at hc1
    rw [e0] at h10
    have e1 : τ1 113 = σ 113 := by rw [hs1 113 (by decide)]; exact e0
    have nb := (hN.2 b h10.1 h10.2).1
    refine r_aload_n (dc dkX13_form 18 rfl) rfl (np 31 rfl ?_)
    refine r_iconst (dc dkX13_form 19 rfl) (np 32 rfl ?_)
    refine r_aload_n (dc dkX13_form 20 rfl) rfl (np 33 rfl ?_)
    refine r_iload_n (dc dkX13_form 21 rfl) rfl (np 34 rfl ?_)
    refine r_pV1 (y' := miX13_corners) (dc dkX13_form 22 rfl) mlX13_279 ceX13_corners ob_111 (Nat.le_of_ble_eq_true rfl) (Nat.le_of_ble_eq_true rfl) (c_X13_corners (by omega)) (np 37 rfl ?_)
    refine r_eqI (cn σ 113 b) (by rw [cn_c e1]) ?_
    refine r_imul (dc dkX13_form 23 rfl) (np 38 rfl ?_)
    refine r_pI 33 (dc dkX13_form 24 rfl) fpX13_355 fd_111_33 rfl (np 41 rfl ?_)
    refine r_iconst (dc dkX13_form 25 rfl) (np 42 rfl ?_)
    refine r_istore_n (lv' := [(3, _), (0, _), (1, _), (2, _)]) (dc dkX13_form 26 rfl) (Nat.le_of_ble_eq_true rfl) rfl (np 43 rfl ?_)
    refine r_pick [1, 2, 3, 0] (lv' := [(0, _), (1, _), (2, _), (3, _)]) rfl ?_
    refine jlp2 (P := fun (i : Int) (τ : jS) => jR _ _ _ 43 [(0, .ref 111), (1, vI b), (2, vI w), (3, vI i)] [] τ) (I := fun (i : Int) (τ : jS) => (0 ≤ i ∧ i ≤ 2 * cn σ 113 b) ∧ (∀ c, ¬ c = 111 → c ∉ [125, 126, 127, 129] → τ c = σ c) ∧ (∀ j, ¬ j = 0 → ¬ j = 33 → τ 111 j = σ 111 j) ∧ τ 111 0 = 0 ∧ τ 111 33 = 2 * cn σ 113 b ∧ τ 127 = τ1 127 ∧ ∀ j, 0 ≤ j → j < i → τ 129 j = τ1 127 j) (fun (i : Int) (τ : jS) => (2 * cn σ 113 b - i).toNat) ?_ _ _ ⟨by omega, fun c h1 h2 => by rw [ju_off _ _ _ _ _ h1, hs1 c (by simp at h2 ⊢; omega), ju_off _ _ _ _ _ h1], fun j j0 j1 => by rw [ju_ne (by omega), hs1 111 (by decide), ju_ne (by omega)], by rw [ju_ne (by decide), hs1 111 (by decide), ju_at], ju_at _ _ _ _, ju_off _ _ _ _ _ (by decide), fun j _ _ => by omega⟩
    intro i τ hI43 ih43
    have e33 := hI43.2.2.2.2.1
    refine r_iload_n (dc dkX13_form 27 rfl) rfl (np 44 rfl ?_)
    refine r_aload_n (dc dkX13_form 28 rfl) rfl (np 45 rfl ?_)
    refine r_gI 33 (dc dkX13_form 29 rfl) flX13_355 fd_111_33 rfl (np 48 rfl ?_)
    refine r_icmp_ge (tgt := 69) (dc dkX13_form 30 rfl) rfl (by first | assumption | decide | omega) (by first | assumption | decide | omega) (fun h48 => ?_) (fun h48 => (np 51 rfl ?_))
    · skip
      refine r_aload_n (dc dkX13_form 41 rfl) rfl (np 70 rfl ?_)
      refine r_gI 33 (dc dkX13_form 42 rfl) flX13_355 fd_111_33 rfl (np 73 rfl ?_)
      exact r_iret (dc dkX13_form 43 rfl) rfl (by
          obtain ⟨⟨p1, p2, p3, v4⟩, v5⟩ := hl1
          refine ⟨hI43.2.1, hI43.2.2.1, hI43.2.2.2.1, fun _ => ⟨by rw [e33], e33, ⟨p1, p2, p3, fun j j0 j1 => by rw [hI43.2.2.2.2.2.2 j j0 (by omega)]; exact v4 j j0 j1⟩, fun p i v => lxL_c (fun j j0 j1 => hI43.2.2.2.2.2.2 j j0 (by omega)) (fun _ _ _ => rfl) (v5 p i v)⟩, fun z => absurd ⟨h10, h19⟩ z⟩)
    refine r_aload_n (dc dkX13_form 31 rfl) rfl (np 52 rfl ?_)
    refine r_getR (dc dkX13_form 32 rfl) flX13_63 fd_111_32 (np 55 rfl ?_)
    refine r_iload_n (dc dkX13_form 33 rfl) rfl (np 56 rfl ?_)
    refine r_aload_n (dc dkX13_form 34 rfl) rfl (np 57 rfl ?_)
    refine r_getR (dc dkX13_form 35 rfl) flX13_57 fd_111_30 (np 60 rfl ?_)
    refine r_iload_n (dc dkX13_form 36 rfl) rfl (np 61 rfl ?_)
    refine r_iald (dc dkX13_form 37 rfl) ar_127 (by omega) (np 62 rfl ?_)
    refine r_iast (dc dkX13_form 38 rfl) ar_129 (by omega) (np 63 rfl ?_)
    refine r_iinc (lv' := [(3, _), (0, _), (1, _), (2, _)]) (dc dkX13_form 39 rfl) (Nat.le_of_ble_eq_true rfl) rfl rfl (np 66 rfl ?_)
    refine r_goto (tgt := 43) (dc dkX13_form 40 rfl) rfl ?_
    refine r_pick [1, 2, 3, 0] rfl ?_
    exact ih43 _ _ ⟨by omega, fun c h1 h2 => by rw [ju_off _ _ _ _ _ (by simp at h2; omega)]; exact hI43.2.1 c h1 h2, fun j j0 j1 => by rw [ju_off _ _ _ _ _ (by decide)]; exact hI43.2.2.1 j j0 j1, by rw [ju_off _ _ _ _ _ (by decide)]; exact hI43.2.2.2.1, by rw [ju_off _ _ _ _ _ (by decide)]; exact e33, by rw [ju_off _ _ _ _ _ (by decide)]; exact hI43.2.2.2.2.2.1, fun j j0 j1 => by rcases (show j < i ∨ j = i by omega) with z | z; rw [ju_ne (by omega)]; exact hI43.2.2.2.2.2.2 j j0 z; rw [z, ju_at, hI43.2.2.2.2.2.1]⟩ (by omega)
  refine r_iconst (dc dkX13_form 12 rfl) (np 23 rfl ?_)
  exact r_iret (dc dkX13_form 13 rfl) rfl (by
      rw [e0] at h10
      exact ⟨fun c h1 h2 => ju_off _ _ _ _ _ h1, fun j hj _ => ju_ne (by omega), ju_at _ _ _ _, fun z => absurd z (by omega), fun _ => ⟨rfl, ju_ne (by decide), ju_off _ _ _ _ _ (by decide)⟩⟩)
set_option maxRecDepth 100000 in
set_option maxHeartbeats 4000000 in
theorem c_X13_formAt {σ : jS} {i : Int} (hi : iR i) (h33 : cB 16 (σ 111 33)) : Jm 1 miX13_formAt [.ref 111, vI i] σ (fun r τ => τ = ju σ 111 0 0 ∧ r = some (vI (if 0 ≤ i ∧ i < σ 111 33 then σ 129 i else -1))) := by
  have e33 : ju σ 111 0 0 111 33 = σ 111 33 := ju_ne (by decide)
  refine jm_ofF (Po := (fun r τ => τ = ju σ 111 0 0 ∧ r = some (vI (if 0 ≤ i ∧ i < σ 111 33 then σ 129 i else -1)))) (plainFor_of_name (by decide)) (Nat.le_of_ble_eq_true rfl) (lv := [(0, _), (1, _)]) rfl ?_
  refine r_aload_n (dc dkX13_formAt 0 rfl) rfl (np 1 rfl ?_)
  refine r_iconst (dc dkX13_formAt 1 rfl) (np 2 rfl ?_)
  refine r_pI 0 (dc dkX13_formAt 2 rfl) fpX13_94 fd_111_0 rfl (np 5 rfl ?_)
  refine r_iload_n (dc dkX13_formAt 3 rfl) rfl (np 6 rfl ?_)
  refine r_if_lt (tgt := 26) (dc dkX13_formAt 4 rfl) rfl (by first | assumption | decide | omega) (fun h6 => ?_) (fun h6 => (np 9 rfl ?_))
  · skip
    refine r_iconst (dc dkX13_formAt 14 rfl) (np 27 rfl ?_)
    exact r_iret (dc dkX13_formAt 15 rfl) rfl (by
        try rw [e33] at h14
        first | exact ⟨rfl, by rw [if_neg (by omega)]⟩ | exact ⟨rfl, by rw [if_pos (by omega), ju_off _ _ _ _ _ (by decide)]⟩)
  refine r_iload_n (dc dkX13_formAt 5 rfl) rfl (np 10 rfl ?_)
  refine r_aload_n (dc dkX13_formAt 6 rfl) rfl (np 11 rfl ?_)
  refine r_gI 33 (dc dkX13_formAt 7 rfl) flX13_355 fd_111_33 rfl (np 14 rfl ?_)
  refine r_icmp_ge (tgt := 26) (dc dkX13_formAt 8 rfl) rfl (by first | assumption | decide | omega) (by rw [e33]; omega) (fun h14 => ?_) (fun h14 => (np 17 rfl ?_))
  · skip
    refine r_iconst (dc dkX13_formAt 14 rfl) (np 27 rfl ?_)
    exact r_iret (dc dkX13_formAt 15 rfl) rfl (by
        try rw [e33] at h14
        first | exact ⟨rfl, by rw [if_neg (by omega)]⟩ | exact ⟨rfl, by rw [if_pos (by omega), ju_off _ _ _ _ _ (by decide)]⟩)
  refine r_aload_n (dc dkX13_formAt 9 rfl) rfl (np 18 rfl ?_)
  refine r_getR (dc dkX13_formAt 10 rfl) flX13_63 fd_111_32 (np 21 rfl ?_)
  refine r_iload_n (dc dkX13_formAt 11 rfl) rfl (np 22 rfl ?_)
  refine r_iald (dc dkX13_formAt 12 rfl) ar_129 (by omega) (np 23 rfl ?_)
  refine r_goto (tgt := 27) (dc dkX13_formAt 13 rfl) rfl ?_
  exact r_iret (dc dkX13_formAt 15 rfl) rfl (by
      try rw [e33] at h14
      first | exact ⟨rfl, by rw [if_neg (by omega)]⟩ | exact ⟨rfl, by rw [if_pos (by omega), ju_off _ _ _ _ _ (by decide)]⟩)
set_option maxRecDepth 100000 in
set_option maxHeartbeats 4000000 in
theorem c_X13_even {σ : jS} (hN : okN σ) {b w : Int} (hb : iR b) (hw : iR w) : Jm 7 miX13_even [.ref 111, vI b, vI w] σ (fun r τ => (∀ c, ¬ c = 111 → c ∉ [125, 126, 127, 128] → τ c = σ c) ∧ (∀ j, ¬ j = 0 → τ 111 j = σ 111 j) ∧ τ 111 0 = 0 ∧ r = some (vI (gte ((0 ≤ b ∧ b < σ 113 4) ∧ 0 ≤ w ∧ w ≤ 2) (bI (evB (cn σ 113 b) (rP σ 113 b) w)) (-1)))) := by
  have m1 := hN.1.2.2.2.2.1
  have hN0 : okN (ju σ 111 0 0) := okN_c hN (ju_off _ _ _ _ _ (by decide))
  have e0 : ju σ 111 0 0 113 = σ 113 := ju_off _ _ _ _ _ (by decide)
  refine jm_ofF (Po := (fun r τ => (∀ c, ¬ c = 111 → c ∉ [125, 126, 127, 128] → τ c = σ c) ∧ (∀ j, ¬ j = 0 → τ 111 j = σ 111 j) ∧ τ 111 0 = 0 ∧ r = some (vI (gte ((0 ≤ b ∧ b < σ 113 4) ∧ 0 ≤ w ∧ w ≤ 2) (bI (evB (cn σ 113 b) (rP σ 113 b) w)) (-1))))) (plainFor_of_name (by decide)) (Nat.le_of_ble_eq_true rfl) (lv := [(0, _), (1, _), (2, _)]) rfl ?_
  refine r_aload_n (dc dkX13_even 0 rfl) rfl (np 1 rfl ?_)
  refine r_iconst (dc dkX13_even 1 rfl) (np 2 rfl ?_)
  refine r_pI 0 (dc dkX13_even 2 rfl) fpX13_94 fd_111_0 rfl (np 5 rfl ?_)
  refine r_aload_n (dc dkX13_even 3 rfl) rfl (np 6 rfl ?_)
  refine r_iload_n (dc dkX13_even 4 rfl) rfl (np 7 rfl ?_)
  refine r_pV1 (y' := miX13_isBand) (dc dkX13_even 5 rfl) mlX13_304 ceX13_isBand ob_111 (Nat.le_of_ble_eq_true rfl) (Nat.le_of_ble_eq_true rfl) (c_X13_isBand hN0 (by omega)) (np 10 rfl ?_)
  refine r_bz (tgt := 22) (dc dkX13_even 6 rfl) rfl (fun h10 => ?_) (fun h10 => (np 13 rfl ?_))
  · skip
    refine r_iconst (dc dkX13_even 12 rfl) (np 23 rfl ?_)
    exact r_iret (dc dkX13_even 13 rfl) rfl (by
        rw [e0] at h10
        exact ⟨fun c h1 h2 => ju_off _ _ _ _ _ h1, fun j hj => ju_ne (by omega), ju_at _ _ _ _, by rw [gte_f (by omega)]⟩)
  refine r_iload_n (dc dkX13_even 7 rfl) rfl (np 14 rfl ?_)
  refine r_iconst (dc dkX13_even 8 rfl) (np 15 rfl ?_)
  refine r_iconst (dc dkX13_even 9 rfl) (np 16 rfl ?_)
  refine r_pS3 (y' := miX13_isIn) (dc dkX13_even 10 rfl) mlX13_168 seX13_isIn (Nat.le_of_ble_eq_true rfl) (Nat.le_of_ble_eq_true rfl) (c_X13_isIn (by omega) (by decide) (by decide)) (np 19 rfl ?_)
  refine r_bn (tgt := 24) (dc dkX13_even 11 rfl) rfl (fun h19 => ?_) (fun h19 => (np 22 rfl ?_))
  · skip
    rw [e0] at h10
    refine r_iload_n (dc dkX13_even 14 rfl) rfl (np 25 rfl ?_)
    refine r_iconst (dc dkX13_even 15 rfl) (np 26 rfl ?_)
    refine r_icmp_ge (tgt := 47) (dc dkX13_even 16 rfl) rfl (by first | assumption | decide | omega) (by first | assumption | decide | omega) (fun h26 => ?_) (fun h26 => (np 29 rfl ?_))
    · skip
      refine r_iconst (dc dkX13_even 29 rfl) (np 48 rfl ?_)
      refine r_istore_n (lv' := [(3, _), (0, _), (1, _), (2, _)]) (dc dkX13_even 30 rfl) (Nat.le_of_ble_eq_true rfl) rfl (np 49 rfl ?_)
      refine r_pick [1, 2, 3, 0] (lv' := [(0, _), (1, _), (2, _), (3, _)]) rfl ?_
      refine jlp2 (P := fun (q : Int) (τ : jS) => jR _ _ _ 49 [(0, .ref 111), (1, vI b), (2, vI w), (3, vI q)] [] τ) (I := fun (q : Int) (τ : jS) => (0 ≤ q ∧ q ≤ 4) ∧ (∀ c, ¬ c = 111 → c ∉ [125, 126, 127, 128] → τ c = σ c) ∧ (∀ j, ¬ j = 0 → τ 111 j = σ 111 j) ∧ τ 111 0 = 0 ∧ ∀ p, 4 ≤ p → p < 4 + q → ¬ evn (cn σ 113 b) (rP σ 113 b) p) (fun (q : Int) (τ : jS) => (4 - q).toNat) ?_ _ _ ⟨by omega, fun c h1 h2 => ju_off _ _ _ _ _ h1, fun j hj => ju_ne (by omega), ju_at _ _ _ _, fun p _ _ => by omega⟩
      intro q τ hI49 ih49
      refine r_iload_n (dc dkX13_even 31 rfl) rfl (np 50 rfl ?_)
      refine r_iconst (dc dkX13_even 32 rfl) (np 51 rfl ?_)
      refine r_icmp_ge (tgt := 72) (dc dkX13_even 33 rfl) rfl (by first | assumption | decide | omega) (by first | assumption | decide | omega) (fun h51 => ?_) (fun h51 => (np 54 rfl ?_))
      · skip
        refine r_iconst (dc dkX13_even 44 rfl) (np 73 rfl ?_)
        exact r_iret (dc dkX13_even 45 rfl) rfl (by
            refine ⟨hI49.2.1, hI49.2.2.1, hI49.2.2.2.1, ?_⟩
            rw [gte_t ⟨h10, h19⟩, bI_f]
            rintro ⟨p, p1, p2⟩
            rw [show w = 2 by omega, show evF 2 = 4 from rfl, show evL 2 = 7 from rfl] at p1
            exact hI49.2.2.2.2 p (by omega) (by omega) p2)
      refine r_aload_n (dc dkX13_even 34 rfl) rfl (np 55 rfl ?_)
      refine r_iload_n (dc dkX13_even 35 rfl) rfl (np 56 rfl ?_)
      refine r_iload_n (dc dkX13_even 36 rfl) rfl (np 57 rfl ?_)
      refine r_iconst (dc dkX13_even 37 rfl) (np 58 rfl ?_)
      refine r_cV3 (y' := miX13_isSame) (dc dkX13_even 38 rfl) mlX13_358 ceX13_isSame ob_111 (Nat.le_of_ble_eq_true rfl) (Nat.le_of_ble_eq_true rfl) (c_X13_isSame (okN_c hN (hI49.2.1 113 (by decide) (by decide))) (by omega) (by rw [hI49.2.1 113 (by decide) (by decide)]; omega) (by omega) (Or.inr rfl)) (fun r τ2 hp2 => (np 61 rfl ?_))
      obtain ⟨rfl, hs2⟩ := hp2
      rw [cn_c (hI49.2.1 113 (by decide) (by decide)), rP_c2 (hI49.2.1 113 (by decide) (by decide))]
      refine r_bz (tgt := 66) (dc dkX13_even 39 rfl) rfl (fun h61 => ?_) (fun h61 => (np 64 rfl ?_))
      · skip
        refine r_iinc (lv' := [(3, _), (0, _), (1, _), (2, _)]) (dc dkX13_even 42 rfl) (Nat.le_of_ble_eq_true rfl) rfl rfl (np 69 rfl ?_)
        refine r_goto (tgt := 49) (dc dkX13_even 43 rfl) rfl ?_
        refine r_pick [1, 2, 3, 0] rfl ?_
        exact ih49 _ _ ⟨by omega, fun c h1 h2 => by rw [hs2 c h2]; exact hI49.2.1 c h1 h2, fun j hj => by rw [hs2 111 (by decide)]; exact hI49.2.2.1 j hj, by rw [hs2 111 (by decide)]; exact hI49.2.2.2.1, fun p p0 p1 => by rcases (show p < 4 + q ∨ p = q + 4 * 1 by omega) with z | z; exact hI49.2.2.2.2 p p0 z; rw [z]; exact h61⟩ (by omega)
      refine r_iconst (dc dkX13_even 40 rfl) (np 65 rfl ?_)
      exact r_iret (dc dkX13_even 41 rfl) rfl (by
          refine ⟨fun c h1 h2 => by rw [hs2 c h2]; exact hI49.2.1 c h1 h2, fun j hj => by rw [hs2 111 (by decide)]; exact hI49.2.2.1 j hj, by rw [hs2 111 (by decide)]; exact hI49.2.2.2.1, ?_⟩
          rw [gte_t ⟨h10, h19⟩, bI_t]
          exact ⟨q + 4 * 1, by rw [show w = 2 by omega, show evF 2 = 4 from rfl, show evL 2 = 7 from rfl]; omega, h61⟩)
    refine r_aload_n (dc dkX13_even 17 rfl) rfl (np 30 rfl ?_)
    refine r_iload_n (dc dkX13_even 18 rfl) rfl (np 31 rfl ?_)
    refine r_iconst (dc dkX13_even 19 rfl) (np 32 rfl ?_)
    refine r_iload_n (dc dkX13_even 20 rfl) rfl (np 33 rfl ?_)
    refine r_isub (dc dkX13_even 21 rfl) (np 34 rfl ?_)
    refine r_iconst (dc dkX13_even 22 rfl) (np 35 rfl ?_)
    refine r_cV3 (y' := miX13_isSame) (dc dkX13_even 23 rfl) mlX13_358 ceX13_isSame ob_111 (Nat.le_of_ble_eq_true rfl) (Nat.le_of_ble_eq_true rfl) (c_X13_isSame hN0 (by omega) (by rw [e0]; omega) (by omega) (Or.inl rfl)) (fun r τ2 hp2 => (np 38 rfl ?_))
    obtain ⟨rfl, hs2⟩ := hp2
    rw [cn_c e0, rP_c2 e0]
    refine r_bz (tgt := 45) (dc dkX13_even 24 rfl) rfl (fun h38 => ?_) (fun h38 => (np 41 rfl ?_))
    · skip
      refine r_iconst (dc dkX13_even 27 rfl) (np 46 rfl ?_)
      exact r_iret (dc dkX13_even 28 rfl) rfl (by
          refine ⟨fun c h1 h2 => by rw [hs2 c h2, ju_off _ _ _ _ _ h1], fun j hj => by rw [hs2 111 (by decide), ju_ne (by omega)], by rw [hs2 111 (by decide), ju_at], ?_⟩
          have w01 : w = 0 ∨ w = 1 := by omega
          have ef : evF w = 2 - w ∧ evL w = 2 - w := by rcases w01 with rfl | rfl <;> exact ⟨rfl, rfl⟩
          have q : evB (cn σ 113 b) (rP σ 113 b) w ↔ evn (cn σ 113 b) (rP σ 113 b) (2 - w + 4 * 0) := by
            rw [show 2 - w + 4 * 0 = 2 - w by omega]
            exact ⟨fun ⟨p, h1, h2⟩ => by rw [show 2 - w = p by omega]; exact h2, fun z => ⟨2 - w, by omega, z⟩⟩
          rw [gte_t ⟨h10, h19⟩]
          first | rw [bI_t (q.mpr h38)] | rw [bI_f (fun z => h38 (q.mp z))])
    refine r_iconst (dc dkX13_even 25 rfl) (np 42 rfl ?_)
    refine r_goto (tgt := 46) (dc dkX13_even 26 rfl) rfl ?_
    exact r_iret (dc dkX13_even 28 rfl) rfl (by
        refine ⟨fun c h1 h2 => by rw [hs2 c h2, ju_off _ _ _ _ _ h1], fun j hj => by rw [hs2 111 (by decide), ju_ne (by omega)], by rw [hs2 111 (by decide), ju_at], ?_⟩
        have w01 : w = 0 ∨ w = 1 := by omega
        have ef : evF w = 2 - w ∧ evL w = 2 - w := by rcases w01 with rfl | rfl <;> exact ⟨rfl, rfl⟩
        have q : evB (cn σ 113 b) (rP σ 113 b) w ↔ evn (cn σ 113 b) (rP σ 113 b) (2 - w + 4 * 0) := by
          rw [show 2 - w + 4 * 0 = 2 - w by omega]
          exact ⟨fun ⟨p, h1, h2⟩ => by rw [show 2 - w = p by omega]; exact h2, fun z => ⟨2 - w, by omega, z⟩⟩
        rw [gte_t ⟨h10, h19⟩]
        first | rw [bI_t (q.mpr h38)] | rw [bI_f (fun z => h38 (q.mp z))])
  refine r_iconst (dc dkX13_even 12 rfl) (np 23 rfl ?_)
  exact r_iret (dc dkX13_even 13 rfl) rfl (by
      rw [e0] at h10
      exact ⟨fun c h1 h2 => ju_off _ _ _ _ _ h1, fun j hj => ju_ne (by omega), ju_at _ _ _ _, by rw [gte_f (by omega)]⟩)
