set_option maxRecDepth 100000 in
set_option maxHeartbeats 4000000 in
theorem c_X13_readSigned {σ : jS} {t : Int → Int} {L m q : Int} (hM : md t L m q σ) : Jm 4 miX13_readSigned [.ref 111] σ (fun r τ => r = some (vI (bI ((sdR t L m (0, q)).1 = 0))) ∧ mdS [5, 6, 7, 8, 9, 10, 11, 13, 14] σ τ ∧ mR t L m (sdR t L m (0, q)) τ ∧ ((sdR t L m (0, q)).1 = 0 → τ 111 14 = sdV t L m (0, q))) := by
  refine jm_ofF (Po := (fun r τ => r = some (vI (bI ((sdR t L m (0, q)).1 = 0))) ∧ mdS [5, 6, 7, 8, 9, 10, 11, 13, 14] σ τ ∧ mR t L m (sdR t L m (0, q)) τ ∧ ((sdR t L m (0, q)).1 = 0 → τ 111 14 = sdV t L m (0, q)))) (plainFor_of_name (by decide)) (Nat.le_of_ble_eq_true rfl) (lv := [(0, _)]) rfl ?_
  refine r_aload_n (dc dkX13_readSigned 0 rfl) rfl (np 1 rfl ?_)
  refine r_bipush (dc dkX13_readSigned 1 rfl) bp_45 (np 3 rfl ?_)
  refine r_pV1 (y' := miX13_isSign) (dc dkX13_readSigned 2 rfl) mlX13_182 ceX13_isSign ob_111 (Nat.le_of_ble_eq_true rfl) (Nat.le_of_ble_eq_true rfl) (c_X13_isSign hM (by decide)) (np 6 rfl ?_)
  refine r_istore_n (lv' := [(1, _), (0, _)]) (dc dkX13_readSigned 3 rfl) (Nat.le_of_ble_eq_true rfl) rfl (np 7 rfl ?_)
  refine r_iload_n (dc dkX13_readSigned 4 rfl) rfl (np 8 rfl ?_)
  refine r_bz (tgt := 15) (dc dkX13_readSigned 5 rfl) rfl (fun h8 => ?_) (fun h8 => (np 11 rfl ?_))
  · skip
    refine r_aload_n (dc dkX13_readSigned 8 rfl) rfl (np 16 rfl ?_)
    refine r_iconst (dc dkX13_readSigned 9 rfl) (np 17 rfl ?_)
    refine r_bipush (dc dkX13_readSigned 10 rfl) bp_9 (np 19 rfl ?_)
    refine r_cV2 (y' := miX13_readNumber) (dc dkX13_readSigned 11 rfl) mlX13_235 ceX13_readNumber ob_111 (Nat.le_of_ble_eq_true rfl) (Nat.le_of_ble_eq_true rfl) (c_nmR (R := sgR t L m (0, q)) (by first | rw [g0] | rw [sgR_n (fun z => h8 z.2)]) (by first | (rw [g0]; exact hM2) | (rw [sgR_n (fun z => h8 z.2)]; exact hM)) (by decide) (by decide)) (fun r τ3 hp3 => (np 22 rfl ?_))
    obtain ⟨rfl, hs3, hM3, ht3⟩ := hp3
    change mR t L m (sdR t L m (0, q)) τ3 at hM3
    change (sdR t L m (0, q)).1 = 0 → _ at ht3
    change jR _ _ _ _ _ [vI (bI ((sdR t L m (0, q)).1 = 0))] _
    refine r_bn (tgt := 27) (dc dkX13_readSigned 12 rfl) rfl (fun h22 => ?_) (fun h22 => (np 25 rfl ?_))
    · skip
      refine r_aload_n (dc dkX13_readSigned 15 rfl) rfl (np 28 rfl ?_)
      refine r_iload_n (dc dkX13_readSigned 16 rfl) rfl (np 29 rfl ?_)
      refine r_bz (tgt := 40) (dc dkX13_readSigned 17 rfl) rfl (fun h29 => ?_) (fun h29 => (np 32 rfl ?_))
      · skip
        refine r_aload_n (dc dkX13_readSigned 22 rfl) rfl (np 41 rfl ?_)
        refine r_gI 14 (dc dkX13_readSigned 23 rfl) flX13_172 fd_111_14 rfl (np 44 rfl ?_)
        refine r_pI 14 (dc dkX13_readSigned 24 rfl) fpX13_172 fd_111_14 rfl (np 47 rfl ?_)
        refine r_iconst (dc dkX13_readSigned 25 rfl) (np 48 rfl ?_)
        exact r_zret (dc dkX13_readSigned 26 rfl) rfl (by first | exact Or.inl rfl | exact Or.inr rfl) (by
            have m1 : ∀ v : Int, mR t L m (sdR t L m (0, q)) (ju τ3 111 14 v) := fun v => ⟨fun z => md_t (hM3.1 z) ((mdS.refl [14] _).put (by decide)) (by decide) (by decide) (by decide) (by decide) (by decide) (by decide) (by decide) (by decide) (by decide), fun z => absurd h22 z⟩
            first
            | exact absurd h8 h29
            | exact absurd h29 h8
            | exact ⟨by rw [bI_t h22], ((hs2.wide (by decide)).tr hs3).put (by decide), m1 _, fun _ => by rw [ju_at, ht3 h22, sdV, bite_t ⟨rfl, h8⟩]⟩
            | exact ⟨by rw [bI_t h22], hs3.put (by decide), m1 _, fun _ => by rw [ju_at, ht3 h22, sdV, bite_f (fun z => h8 z.2)]⟩)
      refine r_aload_n (dc dkX13_readSigned 18 rfl) rfl (np 33 rfl ?_)
      refine r_gI 14 (dc dkX13_readSigned 19 rfl) flX13_172 fd_111_14 rfl (np 36 rfl ?_)
      refine r_ineg (dc dkX13_readSigned 20 rfl) (np 37 rfl ?_)
      refine r_goto (tgt := 44) (dc dkX13_readSigned 21 rfl) rfl ?_
      refine r_pI 14 (dc dkX13_readSigned 24 rfl) fpX13_172 fd_111_14 rfl (np 47 rfl ?_)
      refine r_iconst (dc dkX13_readSigned 25 rfl) (np 48 rfl ?_)
      exact r_zret (dc dkX13_readSigned 26 rfl) rfl (by first | exact Or.inl rfl | exact Or.inr rfl) (by
          have m1 : ∀ v : Int, mR t L m (sdR t L m (0, q)) (ju τ3 111 14 v) := fun v => ⟨fun z => md_t (hM3.1 z) ((mdS.refl [14] _).put (by decide)) (by decide) (by decide) (by decide) (by decide) (by decide) (by decide) (by decide) (by decide) (by decide), fun z => absurd h22 z⟩
          first
          | exact absurd h8 h29
          | exact absurd h29 h8
          | exact ⟨by rw [bI_t h22], ((hs2.wide (by decide)).tr hs3).put (by decide), m1 _, fun _ => by rw [ju_at, ht3 h22, sdV, bite_t ⟨rfl, h8⟩]⟩
          | exact ⟨by rw [bI_t h22], hs3.put (by decide), m1 _, fun _ => by rw [ju_at, ht3 h22, sdV, bite_f (fun z => h8 z.2)]⟩)
    refine r_iconst (dc dkX13_readSigned 13 rfl) (np 26 rfl ?_)
    exact r_zret (dc dkX13_readSigned 14 rfl) rfl (by first | exact Or.inl rfl | exact Or.inr rfl) (by first | exact ⟨by rw [bI_f h22], (hs2.wide (by decide)).tr hs3, hM3, fun z => absurd z h22⟩ | exact ⟨by rw [bI_f h22], hs3, hM3, fun z => absurd z h22⟩)
  refine r_aload_n (dc dkX13_readSigned 6 rfl) rfl (np 12 rfl ?_)
  refine r_cV0 (y' := miX13_go) (dc dkX13_readSigned 7 rfl) mlX13_179 ceX13_go ob_111 (Nat.le_of_ble_eq_true rfl) (Nat.le_of_ble_eq_true rfl) (c_X13_go hM) (fun r τ2 hp2 => (np 15 rfl ?_))
  obtain ⟨rfl, hs2, hM2⟩ := hp2
  have g0 : sgR t L m (0, q) = (0, tN t L m q) := by rw [sgR_y ⟨rfl, h8⟩, stR_y rfl]
  refine r_aload_n (dc dkX13_readSigned 8 rfl) rfl (np 16 rfl ?_)
  refine r_iconst (dc dkX13_readSigned 9 rfl) (np 17 rfl ?_)
  refine r_bipush (dc dkX13_readSigned 10 rfl) bp_9 (np 19 rfl ?_)
  refine r_cV2 (y' := miX13_readNumber) (dc dkX13_readSigned 11 rfl) mlX13_235 ceX13_readNumber ob_111 (Nat.le_of_ble_eq_true rfl) (Nat.le_of_ble_eq_true rfl) (c_nmR (R := sgR t L m (0, q)) (by first | rw [g0] | rw [sgR_n (fun z => h8 z.2)]) (by first | (rw [g0]; exact hM2) | (rw [sgR_n (fun z => h8 z.2)]; exact hM)) (by decide) (by decide)) (fun r τ3 hp3 => (np 22 rfl ?_))
  obtain ⟨rfl, hs3, hM3, ht3⟩ := hp3
  change mR t L m (sdR t L m (0, q)) τ3 at hM3
  change (sdR t L m (0, q)).1 = 0 → _ at ht3
  change jR _ _ _ _ _ [vI (bI ((sdR t L m (0, q)).1 = 0))] _
  refine r_bn (tgt := 27) (dc dkX13_readSigned 12 rfl) rfl (fun h22 => ?_) (fun h22 => (np 25 rfl ?_))
  · skip
    refine r_aload_n (dc dkX13_readSigned 15 rfl) rfl (np 28 rfl ?_)
    refine r_iload_n (dc dkX13_readSigned 16 rfl) rfl (np 29 rfl ?_)
    refine r_bz (tgt := 40) (dc dkX13_readSigned 17 rfl) rfl (fun h29 => ?_) (fun h29 => (np 32 rfl ?_))
    · skip
      refine r_aload_n (dc dkX13_readSigned 22 rfl) rfl (np 41 rfl ?_)
      refine r_gI 14 (dc dkX13_readSigned 23 rfl) flX13_172 fd_111_14 rfl (np 44 rfl ?_)
      refine r_pI 14 (dc dkX13_readSigned 24 rfl) fpX13_172 fd_111_14 rfl (np 47 rfl ?_)
      refine r_iconst (dc dkX13_readSigned 25 rfl) (np 48 rfl ?_)
      exact r_zret (dc dkX13_readSigned 26 rfl) rfl (by first | exact Or.inl rfl | exact Or.inr rfl) (by
          have m1 : ∀ v : Int, mR t L m (sdR t L m (0, q)) (ju τ3 111 14 v) := fun v => ⟨fun z => md_t (hM3.1 z) ((mdS.refl [14] _).put (by decide)) (by decide) (by decide) (by decide) (by decide) (by decide) (by decide) (by decide) (by decide) (by decide), fun z => absurd h22 z⟩
          first
          | exact absurd h8 h29
          | exact absurd h29 h8
          | exact ⟨by rw [bI_t h22], ((hs2.wide (by decide)).tr hs3).put (by decide), m1 _, fun _ => by rw [ju_at, ht3 h22, sdV, bite_t ⟨rfl, h8⟩]⟩
          | exact ⟨by rw [bI_t h22], hs3.put (by decide), m1 _, fun _ => by rw [ju_at, ht3 h22, sdV, bite_f (fun z => h8 z.2)]⟩)
    refine r_aload_n (dc dkX13_readSigned 18 rfl) rfl (np 33 rfl ?_)
    refine r_gI 14 (dc dkX13_readSigned 19 rfl) flX13_172 fd_111_14 rfl (np 36 rfl ?_)
    refine r_ineg (dc dkX13_readSigned 20 rfl) (np 37 rfl ?_)
    refine r_goto (tgt := 44) (dc dkX13_readSigned 21 rfl) rfl ?_
    refine r_pI 14 (dc dkX13_readSigned 24 rfl) fpX13_172 fd_111_14 rfl (np 47 rfl ?_)
    refine r_iconst (dc dkX13_readSigned 25 rfl) (np 48 rfl ?_)
    exact r_zret (dc dkX13_readSigned 26 rfl) rfl (by first | exact Or.inl rfl | exact Or.inr rfl) (by
        have m1 : ∀ v : Int, mR t L m (sdR t L m (0, q)) (ju τ3 111 14 v) := fun v => ⟨fun z => md_t (hM3.1 z) ((mdS.refl [14] _).put (by decide)) (by decide) (by decide) (by decide) (by decide) (by decide) (by decide) (by decide) (by decide) (by decide), fun z => absurd h22 z⟩
        first
        | exact absurd h8 h29
        | exact absurd h29 h8
        | exact ⟨by rw [bI_t h22], ((hs2.wide (by decide)).tr hs3).put (by decide), m1 _, fun _ => by rw [ju_at, ht3 h22, sdV, bite_t ⟨rfl, h8⟩]⟩
        | exact ⟨by rw [bI_t h22], hs3.put (by decide), m1 _, fun _ => by rw [ju_at, ht3 h22, sdV, bite_f (fun z => h8 z.2)]⟩)
  refine r_iconst (dc dkX13_readSigned 13 rfl) (np 26 rfl ?_)
  exact r_zret (dc dkX13_readSigned 14 rfl) rfl (by first | exact Or.inl rfl | exact Or.inr rfl) (by first | exact ⟨by rw [bI_f h22], (hs2.wide (by decide)).tr hs3, hM3, fun z => absurd z h22⟩ | exact ⟨by rw [bI_f h22], hs3, hM3, fun z => absurd z h22⟩)
theorem c_sdR {σ : jS} {t : Int → Int} {L m : Int} {R : Int × Int} (h0 : R.1 = 0) (hM : md t L m R.2 σ) : Jm 4 miX13_readSigned [.ref 111] σ (fun r τ => r = some (vI (bI ((sdR t L m R).1 = 0))) ∧ mdS [5, 6, 7, 8, 9, 10, 11, 13, 14] σ τ ∧ mR t L m (sdR t L m R) τ ∧ ((sdR t L m R).1 = 0 → τ 111 14 = sdV t L m R)) := by
  have h := c_X13_readSigned hM
  rw [pr0 h0] at h
  exact h
set_option maxRecDepth 100000 in
set_option maxHeartbeats 4000000 in
theorem c_X13_readBy {σ : jS} {t : Int → Int} {L m : Int} {R : Int × Int} (h0 : R.1 = 0) (hM : md t L m R.2 σ) {k : Int} (hk : σ 111 34 = k) (hkb : cB 8 k) {C : Int → Int} (hC : σ 115 = C) : Jm 5 miX13_readBy [.ref 111] σ (fun r τ => r = some (vI (bI ((byR t L m k R).1 = 0))) ∧ mdT [5, 6, 7, 8, 9, 10, 11, 13, 14, 34] [115] σ τ ∧ mR t L m (byR t L m k R) τ ∧ ((byR t L m k R).1 = 0 → τ 111 34 = k + 1 ∧ τ 115 = byC t L m k R C)) := by
  refine jm_ofF (Po := (fun r τ => r = some (vI (bI ((byR t L m k R).1 = 0))) ∧ mdT [5, 6, 7, 8, 9, 10, 11, 13, 14, 34] [115] σ τ ∧ mR t L m (byR t L m k R) τ ∧ ((byR t L m k R).1 = 0 → τ 111 34 = k + 1 ∧ τ 115 = byC t L m k R C))) (plainFor_of_name (by decide)) (Nat.le_of_ble_eq_true rfl) (lv := [(0, _)]) rfl ?_
  refine r_aload_n (dc dkX13_readBy 0 rfl) rfl (np 1 rfl ?_)
  refine r_iconst (dc dkX13_readBy 1 rfl) (np 2 rfl ?_)
  refine r_pV1 (y' := miX13_isWord) (dc dkX13_readBy 2 rfl) mlX13_252 ceX13_isWord ob_111 (Nat.le_of_ble_eq_true rfl) (Nat.le_of_ble_eq_true rfl) (c_X13_isWord hM (by decide)) (np 5 rfl ?_)
  refine r_bn (tgt := 14) (dc dkX13_readBy 3 rfl) rfl (fun h5 => ?_) (fun h5 => (np 8 rfl ?_))
  · skip
    refine r_aload_n (dc dkX13_readBy 8 rfl) rfl (np 15 rfl ?_)
    refine r_gI 34 (dc dkX13_readBy 9 rfl) flX13_377 fd_111_34 rfl (np 18 rfl ?_)
    refine r_bipush (dc dkX13_readBy 10 rfl) bp_8 (np 20 rfl ?_)
    refine r_icmp_ne (tgt := 29) (dc dkX13_readBy 11 rfl) rfl (by first | assumption | decide | omega) (by first | assumption | decide | omega) (fun h20 => ?_) (fun h20 => (np 23 rfl ?_))
    · skip
      refine r_aload_n (dc dkX13_readBy 16 rfl) rfl (np 30 rfl ?_)
      refine r_cV0 (y' := miX13_go) (dc dkX13_readBy 17 rfl) mlX13_179 ceX13_go ob_111 (Nat.le_of_ble_eq_true rfl) (Nat.le_of_ble_eq_true rfl) (c_goR h0 hM) (fun r τ2 hp2 => (np 33 rfl ?_))
      obtain ⟨rfl, hs2, hM2⟩ := hp2
      have x0 : by0 t L m k R = stR t L m R := by rw [by0, gte_t ⟨h0, h5⟩, gte_f (by omega)]
      rw [← x0] at hM2
      have r0 : (by0 t L m k R).1 = 0 := by rw [x0, stR_f]; exact h0
      have k2 : τ2 111 34 = k := (hs2.2 34 (by decide)).trans hk
      refine r_aload_n (dc dkX13_readBy 18 rfl) rfl (np 34 rfl ?_)
      refine r_cV0 (y' := miX13_readSigned) (dc dkX13_readBy 19 rfl) mlX13_380 ceX13_readSigned ob_111 (Nat.le_of_ble_eq_true rfl) (Nat.le_of_ble_eq_true rfl) (c_sdR r0 (hM2.1 r0)) (fun r τ3 hp3 => (np 37 rfl ?_))
      obtain ⟨rfl, hs3, hM3, ht3⟩ := hp3
      change mR t L m (by1 t L m k R) τ3 at hM3
      change (by1 t L m k R).1 = 0 → _ at ht3
      change jR _ _ _ _ _ [vI (bI ((by1 t L m k R).1 = 0))] _
      have k3 : τ3 111 34 = k := (hs3.2 34 (by decide)).trans k2
      refine r_bn (tgt := 42) (dc dkX13_readBy 20 rfl) rfl (fun h37 => ?_) (fun h37 => (np 40 rfl ?_))
      · skip
        refine r_aload_n (dc dkX13_readBy 23 rfl) rfl (np 43 rfl ?_)
        refine r_getR (dc dkX13_readBy 24 rfl) flX13_19 fd_111_17 (np 46 rfl ?_)
        refine r_iconst (dc dkX13_readBy 25 rfl) (np 47 rfl ?_)
        refine r_iconst (dc dkX13_readBy 26 rfl) (np 48 rfl ?_)
        refine r_aload_n (dc dkX13_readBy 27 rfl) rfl (np 49 rfl ?_)
        refine r_gI 34 (dc dkX13_readBy 28 rfl) flX13_377 fd_111_34 rfl (np 52 rfl ?_)
        refine r_imul (dc dkX13_readBy 29 rfl) (np 53 rfl ?_)
        refine r_iadd (dc dkX13_readBy 30 rfl) (np 54 rfl ?_)
        refine r_eqI (2 + 2 * k) (by rw [k3]) ?_
        refine r_aload_n (dc dkX13_readBy 31 rfl) rfl (np 55 rfl ?_)
        refine r_gI 14 (dc dkX13_readBy 32 rfl) flX13_172 fd_111_14 rfl (np 58 rfl ?_)
        refine r_iast (dc dkX13_readBy 33 rfl) ar_115 (by omega) (np 59 rfl ?_)
        refine r_aload_n (dc dkX13_readBy 34 rfl) rfl (np 60 rfl ?_)
        refine r_cV0 (y' := miX13_readSigned) (dc dkX13_readBy 35 rfl) mlX13_380 ceX13_readSigned ob_111 (Nat.le_of_ble_eq_true rfl) (Nat.le_of_ble_eq_true rfl) (c_sdR h37 (md_ju (hM3.1 h37) (by decide) (by decide))) (fun r τ4 hp4 => (np 63 rfl ?_))
        obtain ⟨rfl, hs4, hM4, ht4⟩ := hp4
        change mR t L m (by2 t L m k R) τ4 at hM4
        change (by2 t L m k R).1 = 0 → _ at ht4
        change jR _ _ _ _ _ [vI (bI ((by2 t L m k R).1 = 0))] _
        have k4 : τ4 111 34 = k := by rw [hs4.2 34 (by decide), ju_ne (by omega)]; exact k3
        refine r_bn (tgt := 68) (dc dkX13_readBy 36 rfl) rfl (fun h63 => ?_) (fun h63 => (np 66 rfl ?_))
        · skip
          refine r_aload_n (dc dkX13_readBy 39 rfl) rfl (np 69 rfl ?_)
          refine r_getR (dc dkX13_readBy 40 rfl) flX13_19 fd_111_17 (np 72 rfl ?_)
          refine r_iconst (dc dkX13_readBy 41 rfl) (np 73 rfl ?_)
          refine r_iconst (dc dkX13_readBy 42 rfl) (np 74 rfl ?_)
          refine r_aload_n (dc dkX13_readBy 43 rfl) rfl (np 75 rfl ?_)
          refine r_gI 34 (dc dkX13_readBy 44 rfl) flX13_377 fd_111_34 rfl (np 78 rfl ?_)
          refine r_imul (dc dkX13_readBy 45 rfl) (np 79 rfl ?_)
          refine r_iadd (dc dkX13_readBy 46 rfl) (np 80 rfl ?_)
          refine r_eqI (3 + 2 * k) (by rw [k4]) ?_
          refine r_aload_n (dc dkX13_readBy 47 rfl) rfl (np 81 rfl ?_)
          refine r_gI 14 (dc dkX13_readBy 48 rfl) flX13_172 fd_111_14 rfl (np 84 rfl ?_)
          refine r_iast (dc dkX13_readBy 49 rfl) ar_115 (by omega) (np 85 rfl ?_)
          refine r_aload_n (dc dkX13_readBy 50 rfl) rfl (np 86 rfl ?_)
          refine r_cV0 (y' := miX13_readEnd) (dc dkX13_readBy 51 rfl) mlX13_255 ceX13_readEnd ob_111 (Nat.le_of_ble_eq_true rfl) (Nat.le_of_ble_eq_true rfl) (c_xpE h63 (md_ju (hM4.1 h63) (by decide) (by decide))) (fun r τ5 hp5 => (np 89 rfl ?_))
          obtain ⟨rfl, hs5, hM5⟩ := hp5
          change mR t L m (byR t L m k R) τ5 at hM5
          change jR _ _ _ _ _ [vI (bI ((byR t L m k R).1 = 0))] _
          have k5 : τ5 111 34 = k := by rw [hs5.2 34 (by decide), ju_ne (by omega)]; exact k4
          refine r_bn (tgt := 94) (dc dkX13_readBy 52 rfl) rfl (fun h89 => ?_) (fun h89 => (np 92 rfl ?_))
          · skip
            refine r_aload_n (dc dkX13_readBy 55 rfl) rfl (np 95 rfl ?_)
            refine r_dup (dc dkX13_readBy 56 rfl) rfl (np 96 rfl ?_)
            refine r_gI 34 (dc dkX13_readBy 57 rfl) flX13_377 fd_111_34 rfl (np 99 rfl ?_)
            refine r_iconst (dc dkX13_readBy 58 rfl) (np 100 rfl ?_)
            refine r_iadd (dc dkX13_readBy 59 rfl) (np 101 rfl ?_)
            refine r_pI 34 (dc dkX13_readBy 60 rfl) fpX13_377 fd_111_34 rfl (np 104 rfl ?_)
            refine r_iconst (dc dkX13_readBy 61 rfl) (np 105 rfl ?_)
            exact r_zret (dc dkX13_readBy 62 rfl) rfl (by first | exact Or.inl rfl | exact Or.inr rfl) (by
                refine ⟨by rw [bI_t h89], ((((((mdT.of hs2 (by decide)).trS hs3 (by decide)).row (by decide) (by decide)).trS hs4 (by decide)).row (by decide) (by decide)).trS hs5 (by decide)).put (by decide), ⟨fun z => md_t (hM5.1 z) ((mdS.refl [34] _).put (by decide)) (by decide) (by decide) (by decide) (by decide) (by decide) (by decide) (by decide) (by decide) (by decide), fun z => absurd h89 z⟩, fun _ => ⟨by rw [ju_at, k5], ?_⟩⟩
                rw [ju_off _ _ _ _ _ (by decide), hs5.1 115 (by decide), ju_up, hs4.1 115 (by decide), ju_up, hs3.1 115 (by decide), hs2.1 115 (by decide), hC, ht3 h37, ht4 h63]
                rfl)
          refine r_iconst (dc dkX13_readBy 53 rfl) (np 93 rfl ?_)
          exact r_zret (dc dkX13_readBy 54 rfl) rfl (by first | exact Or.inl rfl | exact Or.inr rfl) ⟨by rw [bI_f h89], ((((((mdT.of hs2 (by decide)).trS hs3 (by decide)).row (by decide) (by decide)).trS hs4 (by decide)).row (by decide) (by decide)).trS hs5 (by decide)), hM5, fun z => absurd z h89⟩
        refine r_iconst (dc dkX13_readBy 37 rfl) (np 67 rfl ?_)
        exact r_zret (dc dkX13_readBy 38 rfl) rfl (by first | exact Or.inl rfl | exact Or.inr rfl) (by
            have xx : byR t L m k R = by2 t L m k R := by rw [byR, xpR_e h63]
            rw [xx]
            exact ⟨by rw [bI_f h63], (((mdT.of hs2 (by decide)).trS hs3 (by decide)).row (by decide) (by decide)).trS hs4 (by decide), hM4, fun z => absurd z h63⟩)
      refine r_iconst (dc dkX13_readBy 21 rfl) (np 41 rfl ?_)
      exact r_zret (dc dkX13_readBy 22 rfl) rfl (by first | exact Or.inl rfl | exact Or.inr rfl) (by
          have xx : byR t L m k R = by1 t L m k R := by rw [byR, by2, sdR_e h37, xpR_e h37]
          rw [xx]
          exact ⟨by rw [bI_f h37], (mdT.of hs2 (by decide)).trS hs3 (by decide), hM3, fun z => absurd z h37⟩)
    refine r_aload_n (dc dkX13_readBy 12 rfl) rfl (np 24 rfl ?_)
    refine r_iconst (dc dkX13_readBy 13 rfl) (np 25 rfl ?_)
    refine r_cV1 (y' := miX13_bad) (dc dkX13_readBy 14 rfl) mlX13_165 ceX13_bad ob_111 (Nat.le_of_ble_eq_true rfl) (Nat.le_of_ble_eq_true rfl) (c_bdR h0 hM (by decide) (fun z => by omega)) (fun r τ2 hp2 => (np 28 rfl ?_))
    obtain ⟨rfl, hs2, hM2⟩ := hp2
    exact r_zret (dc dkX13_readBy 15 rfl) rfl (by first | exact Or.inl rfl | exact Or.inr rfl) (by
        have xx : byR t L m k R = flR t L m 4 R := by
          have x2 : ¬ (flR t L m 4 R).1 = 0 := flR_f (by decide)
          have x0 : by0 t L m k R = flR t L m 4 R := by rw [by0, gte_t ⟨h0, h5⟩, gte_t (by omega), stR_n x2]
          rw [byR, by2, by1, x0, sdR_e x2, sdR_e x2, xpR_e x2]
        rw [xx]
        exact ⟨by rw [bI_f (flR_f (by decide))], mdT.of hs2 (by decide), hM2, fun z => absurd z (flR_f (by decide))⟩)
  refine r_aload_n (dc dkX13_readBy 4 rfl) rfl (np 9 rfl ?_)
  refine r_iconst (dc dkX13_readBy 5 rfl) (np 10 rfl ?_)
  refine r_cV1 (y' := miX13_bad) (dc dkX13_readBy 6 rfl) mlX13_165 ceX13_bad ob_111 (Nat.le_of_ble_eq_true rfl) (Nat.le_of_ble_eq_true rfl) (c_bdR h0 hM (by decide) (fun _ => rfl)) (fun r τ2 hp2 => (np 13 rfl ?_))
  obtain ⟨rfl, hs2, hM2⟩ := hp2
  exact r_zret (dc dkX13_readBy 7 rfl) rfl (by first | exact Or.inl rfl | exact Or.inr rfl) (by
      have xx : byR t L m k R = flR t L m 1 R := by
        have x2 : ¬ (flR t L m 1 R).1 = 0 := flR_f (by decide)
        have x0 : by0 t L m k R = flR t L m 1 R := by rw [by0, gte_f (fun z => h5 z.2), stR_n x2]
        rw [byR, by2, by1, x0, sdR_e x2, sdR_e x2, xpR_e x2]
      rw [xx]
      exact ⟨by rw [bI_f (flR_f (by decide))], mdT.of hs2 (by decide), hM2, fun z => absurd z (flR_f (by decide))⟩)
set_option maxRecDepth 100000 in
set_option maxHeartbeats 4000000 in
theorem c_X13_readAt {σ : jS} {t : Int → Int} {L m : Int} {R : Int × Int} (h0 : R.1 = 0) (hM : md t L m R.2 σ) {w h : Int} (hw : σ 113 0 = w) (hh : σ 113 1 = h) (hwb : cB 10 w) (hhb : cB 10 h) {C : Int → Int} (hC : σ 115 = C) : Jm 4 miX13_readAt [.ref 111] σ (fun r τ => r = some (vI (bI ((atR t L m w h R).1 = 0))) ∧ mdT [5, 6, 7, 8, 9, 10, 11, 13, 14] [115] σ τ ∧ mR t L m (atR t L m w h R) τ ∧ ((atR t L m w h R).1 = 0 → τ 115 = atC t L m w R C)) := by
  refine jm_ofF (Po := (fun r τ => r = some (vI (bI ((atR t L m w h R).1 = 0))) ∧ mdT [5, 6, 7, 8, 9, 10, 11, 13, 14] [115] σ τ ∧ mR t L m (atR t L m w h R) τ ∧ ((atR t L m w h R).1 = 0 → τ 115 = atC t L m w R C))) (plainFor_of_name (by decide)) (Nat.le_of_ble_eq_true rfl) (lv := [(0, _)]) rfl ?_
  refine r_aload_n (dc dkX13_readAt 0 rfl) rfl (np 1 rfl ?_)
  refine r_iconst (dc dkX13_readAt 1 rfl) (np 2 rfl ?_)
  refine r_pV1 (y' := miX13_isWord) (dc dkX13_readAt 2 rfl) mlX13_252 ceX13_isWord ob_111 (Nat.le_of_ble_eq_true rfl) (Nat.le_of_ble_eq_true rfl) (c_X13_isWord hM (by decide)) (np 5 rfl ?_)
  refine r_bn (tgt := 14) (dc dkX13_readAt 3 rfl) rfl (fun h5 => ?_) (fun h5 => (np 8 rfl ?_))
  · skip
    refine r_aload_n (dc dkX13_readAt 8 rfl) rfl (np 15 rfl ?_)
    refine r_cV0 (y' := miX13_go) (dc dkX13_readAt 9 rfl) mlX13_179 ceX13_go ob_111 (Nat.le_of_ble_eq_true rfl) (Nat.le_of_ble_eq_true rfl) (c_goR h0 hM) (fun r τ2 hp2 => (np 18 rfl ?_))
    obtain ⟨rfl, hs2, hM2⟩ := hp2
    have x0 : (xpR t L m 104 R) = stR t L m R := xpR_y ⟨h0, h5⟩
    rw [← x0] at hM2
    have r0 : (xpR t L m 104 R).1 = 0 := by rw [x0, stR_f]; exact h0
    have w2 : τ2 113 0 = w := by rw [hs2.1 113 (by decide)]; exact hw
    refine r_aload_n (dc dkX13_readAt 10 rfl) rfl (np 19 rfl ?_)
    refine r_iconst (dc dkX13_readAt 11 rfl) (np 20 rfl ?_)
    refine r_aload_n (dc dkX13_readAt 12 rfl) rfl (np 21 rfl ?_)
    refine r_getR (dc dkX13_readAt 13 rfl) flX13_13 fd_111_15 (np 24 rfl ?_)
    refine r_iconst (dc dkX13_readAt 14 rfl) (np 25 rfl ?_)
    refine r_iald (dc dkX13_readAt 15 rfl) ar_113 (by omega) (np 26 rfl ?_)
    refine r_iconst (dc dkX13_readAt 16 rfl) (np 27 rfl ?_)
    refine r_isub (dc dkX13_readAt 17 rfl) (np 28 rfl ?_)
    refine r_eqI (w - 1) (by rw [w2]) ?_
    refine r_cV2 (y' := miX13_readNumber) (dc dkX13_readAt 18 rfl) mlX13_235 ceX13_readNumber ob_111 (Nat.le_of_ble_eq_true rfl) (Nat.le_of_ble_eq_true rfl) (c_nmR r0 (hM2.1 r0) (by decide) (by omega)) (fun r τ3 hp3 => (np 31 rfl ?_))
    obtain ⟨rfl, hs3, hM3, ht3⟩ := hp3
    have w3 : ju τ3 115 0 (τ3 111 14) 113 1 = h := by rw [ju_ne (by decide), hs3.1 113 (by decide), hs2.1 113 (by decide)]; exact hh
    refine r_bn (tgt := 36) (dc dkX13_readAt 19 rfl) rfl (fun h31 => ?_) (fun h31 => (np 34 rfl ?_))
    · skip
      refine r_aload_n (dc dkX13_readAt 22 rfl) rfl (np 37 rfl ?_)
      refine r_getR (dc dkX13_readAt 23 rfl) flX13_19 fd_111_17 (np 40 rfl ?_)
      refine r_iconst (dc dkX13_readAt 24 rfl) (np 41 rfl ?_)
      refine r_aload_n (dc dkX13_readAt 25 rfl) rfl (np 42 rfl ?_)
      refine r_gI 14 (dc dkX13_readAt 26 rfl) flX13_172 fd_111_14 rfl (np 45 rfl ?_)
      refine r_iast (dc dkX13_readAt 27 rfl) ar_115 (by omega) (np 46 rfl ?_)
      refine r_aload_n (dc dkX13_readAt 28 rfl) rfl (np 47 rfl ?_)
      refine r_iconst (dc dkX13_readAt 29 rfl) (np 48 rfl ?_)
      refine r_aload_n (dc dkX13_readAt 30 rfl) rfl (np 49 rfl ?_)
      refine r_getR (dc dkX13_readAt 31 rfl) flX13_13 fd_111_15 (np 52 rfl ?_)
      refine r_iconst (dc dkX13_readAt 32 rfl) (np 53 rfl ?_)
      refine r_iald (dc dkX13_readAt 33 rfl) ar_113 (by omega) (np 54 rfl ?_)
      refine r_iconst (dc dkX13_readAt 34 rfl) (np 55 rfl ?_)
      refine r_isub (dc dkX13_readAt 35 rfl) (np 56 rfl ?_)
      refine r_eqI (h - 1) (by rw [w3]) ?_
      refine r_cV2 (y' := miX13_readNumber) (dc dkX13_readAt 36 rfl) mlX13_235 ceX13_readNumber ob_111 (Nat.le_of_ble_eq_true rfl) (Nat.le_of_ble_eq_true rfl) (c_nmR h31 (md_ju (hM3.1 h31) (by decide) (by decide)) (by decide) (by omega)) (fun r τ4 hp4 => (np 59 rfl ?_))
      obtain ⟨rfl, hs4, hM4, ht4⟩ := hp4
      refine r_bn (tgt := 64) (dc dkX13_readAt 37 rfl) rfl (fun h59 => ?_) (fun h59 => (np 62 rfl ?_))
      · skip
        refine r_aload_n (dc dkX13_readAt 40 rfl) rfl (np 65 rfl ?_)
        refine r_getR (dc dkX13_readAt 41 rfl) flX13_19 fd_111_17 (np 68 rfl ?_)
        refine r_iconst (dc dkX13_readAt 42 rfl) (np 69 rfl ?_)
        refine r_aload_n (dc dkX13_readAt 43 rfl) rfl (np 70 rfl ?_)
        refine r_gI 14 (dc dkX13_readAt 44 rfl) flX13_172 fd_111_14 rfl (np 73 rfl ?_)
        refine r_iast (dc dkX13_readAt 45 rfl) ar_115 (by omega) (np 74 rfl ?_)
        refine r_aload_n (dc dkX13_readAt 46 rfl) rfl (np 75 rfl ?_)
        refine r_cV0 (y' := miX13_readEnd) (dc dkX13_readAt 47 rfl) mlX13_255 ceX13_readEnd ob_111 (Nat.le_of_ble_eq_true rfl) (Nat.le_of_ble_eq_true rfl) (c_xpE h59 (md_ju (hM4.1 h59) (by decide) (by decide))) (fun r τ5 hp5 => (np 78 rfl ?_))
        obtain ⟨rfl, hs5, hM5⟩ := hp5
        change mR t L m (atR t L m w h R) τ5 at hM5
        change jR _ _ _ _ _ [vI (bI ((atR t L m w h R).1 = 0))] _
        exact r_zret (dc dkX13_readAt 48 rfl) rfl (bI_01 _) (by
            refine ⟨rfl, (((((mdT.of hs2 (by decide)).trS hs3 (by decide)).row (by decide) (by decide)).trS hs4 (by decide)).row (by decide) (by decide)).trS hs5 (by decide), hM5, fun _ => ?_⟩
            rw [hs5.1 115 (by decide), ju_up, hs4.1 115 (by decide), ju_up, hs3.1 115 (by decide), hs2.1 115 (by decide), hC, ht3 h31, ht4 h59]
            rfl)
      refine r_iconst (dc dkX13_readAt 38 rfl) (np 63 rfl ?_)
      exact r_zret (dc dkX13_readAt 39 rfl) rfl (by first | exact Or.inl rfl | exact Or.inr rfl) (by
          have xx : atR t L m w h R = nmR t L m 0 (h - 1) (nmR t L m 0 (w - 1) (xpR t L m 104 R)) := by rw [atR, xpR_e h59]
          rw [xx]
          exact ⟨by rw [bI_f h59], (((mdT.of hs2 (by decide)).trS hs3 (by decide)).row (by decide) (by decide)).trS hs4 (by decide), hM4, fun z => absurd z h59⟩)
    refine r_iconst (dc dkX13_readAt 20 rfl) (np 35 rfl ?_)
    exact r_zret (dc dkX13_readAt 21 rfl) rfl (by first | exact Or.inl rfl | exact Or.inr rfl) (by
        have xx : atR t L m w h R = nmR t L m 0 (w - 1) (xpR t L m 104 R) := by rw [atR, nmR_e h31, xpR_e h31]
        rw [xx]
        exact ⟨by rw [bI_f h31], (mdT.of hs2 (by decide)).trS hs3 (by decide), hM3, fun z => absurd z h31⟩)
  refine r_aload_n (dc dkX13_readAt 4 rfl) rfl (np 9 rfl ?_)
  refine r_iconst (dc dkX13_readAt 5 rfl) (np 10 rfl ?_)
  refine r_cV1 (y' := miX13_bad) (dc dkX13_readAt 6 rfl) mlX13_165 ceX13_bad ob_111 (Nat.le_of_ble_eq_true rfl) (Nat.le_of_ble_eq_true rfl) (c_bdR h0 hM (by decide) (fun _ => rfl)) (fun r τ2 hp2 => (np 13 rfl ?_))
  obtain ⟨rfl, hs2, hM2⟩ := hp2
  exact r_zret (dc dkX13_readAt 7 rfl) rfl (by first | exact Or.inl rfl | exact Or.inr rfl) (by
      have xx : atR t L m w h R = flR t L m 1 R := by
        have x2 : ¬ (flR t L m 1 R).1 = 0 := flR_f (by decide)
        have x0 : (xpR t L m 104 R) = flR t L m 1 R := xpR_n (fun z => h5 z.2)
        rw [atR, x0, nmR_e x2, nmR_e x2, xpR_e x2]
      rw [xx]
      exact ⟨by rw [bI_f (flR_f (by decide))], mdT.of hs2 (by decide), hM2, fun z => absurd z (flR_f (by decide))⟩)
set_option maxRecDepth 100000 in
set_option maxHeartbeats 4000000 in
theorem c_X13_calls {σ : jS} {t : Int → Int} {L : Int} (hL : σ 111 2 = L) (hL2 : cB 640 L) (hT : mTp t L σ) {w h : Int} (hw : σ 113 0 = w) (hh : σ 113 1 = h) (hwb : cB 10 w) (hhb : cB 10 h) {C : Int → Int} (hC : σ 115 = C) : Jm 6 miX13_calls [.ref 111] σ (fun r τ => (mdT [0, 2, 3, 4, 5, 6, 7, 8, 9, 10, 11, 13, 14, 34] [113, 115] σ τ ∧ τ 111 0 = 0 ∧ τ 111 2 = 0 ∧ τ 111 10 = (caF t L 300 w h C).1.1) ∧ ((caF t L 300 w h C).1.1 = 0 → r = some (vI (caF t L 300 w h C).2.2) ∧ (∀ j, (j < 241 ∨ 261 ≤ j) → τ 113 j = σ 113 j) ∧ τ 113 241 = 1 ∧ τ 113 242 = (caF t L 300 w h C).2.2 ∧ ∀ j, 0 ≤ j → j < 18 → τ 113 (243 + j) = (if j < 2 + 2 * (caF t L 300 w h C).2.2 then (caF t L 300 w h C).2.1 j else 0)) ∧ (¬ (caF t L 300 w h C).1.1 = 0 → r = some (vI (-1 - (caF t L 300 w h C).1.2)) ∧ τ 113 = σ 113)) := by
  refine jm_ofF (Po := (fun r τ => (mdT [0, 2, 3, 4, 5, 6, 7, 8, 9, 10, 11, 13, 14, 34] [113, 115] σ τ ∧ τ 111 0 = 0 ∧ τ 111 2 = 0 ∧ τ 111 10 = (caF t L 300 w h C).1.1) ∧ ((caF t L 300 w h C).1.1 = 0 → r = some (vI (caF t L 300 w h C).2.2) ∧ (∀ j, (j < 241 ∨ 261 ≤ j) → τ 113 j = σ 113 j) ∧ τ 113 241 = 1 ∧ τ 113 242 = (caF t L 300 w h C).2.2 ∧ ∀ j, 0 ≤ j → j < 18 → τ 113 (243 + j) = (if j < 2 + 2 * (caF t L 300 w h C).2.2 then (caF t L 300 w h C).2.1 j else 0)) ∧ (¬ (caF t L 300 w h C).1.1 = 0 → r = some (vI (-1 - (caF t L 300 w h C).1.2)) ∧ τ 113 = σ 113))) (plainFor_of_name (by decide)) (Nat.le_of_ble_eq_true rfl) (lv := [(0, _)]) rfl ?_
  refine r_aload_n (dc dkX13_calls 0 rfl) rfl (np 1 rfl ?_)
  refine r_sipush (dc dkX13_calls 1 rfl) sp_300 (np 4 rfl ?_)
  refine r_cV1 (y' := miX13_begin) (dc dkX13_calls 2 rfl) mlX13_258 ceX13_begin ob_111 (Nat.le_of_ble_eq_true rfl) (Nat.le_of_ble_eq_true rfl) (c_X13_begin (by decide) hL hL2 hT) (fun r τ1 hp1 => (np 7 rfl ?_))
  obtain ⟨rfl, hs1, h01, h21, h101, hM1⟩ := hp1
  have fr1 : mdT [0, 2, 3, 4, 5, 6, 7, 8, 9, 10, 11, 13, 14, 34] [115] σ τ1 := mdT.of hs1 (by decide)
  refine r_aload_n (dc dkX13_calls 3 rfl) rfl (np 8 rfl ?_)
  refine r_iconst (dc dkX13_calls 4 rfl) (np 9 rfl ?_)
  refine r_pI 34 (dc dkX13_calls 5 rfl) fpX13_377 fd_111_34 rfl (np 12 rfl ?_)
  refine r_aload_n (dc dkX13_calls 6 rfl) rfl (np 13 rfl ?_)
  refine r_cV0 (y' := miX13_readAt) (dc dkX13_calls 7 rfl) mlX13_383 ceX13_readAt ob_111 (Nat.le_of_ble_eq_true rfl) (Nat.le_of_ble_eq_true rfl) (c_X13_readAt (R := (0, 0)) rfl (md_t hM1 ((mdS.refl [34] _).put (by decide)) (by decide) (by decide) (by decide) (by decide) (by decide) (by decide) (by decide) (by decide) (by decide)) (by rw [ju_off _ _ _ _ _ (by decide), hs1.1 113 (by decide)]; exact hw) (by rw [ju_off _ _ _ _ _ (by decide), hs1.1 113 (by decide)]; exact hh) hwb hhb (C := C) (by rw [ju_off _ _ _ _ _ (by decide), hs1.1 115 (by decide)]; exact hC)) (fun r τ2 hp2 => (np 16 rfl ?_))
  obtain ⟨rfl, hs2, hM2, hC2⟩ := hp2
  have fr2 : mdT [0, 2, 3, 4, 5, 6, 7, 8, 9, 10, 11, 13, 14, 34] [115] σ τ2 := (fr1.put (by decide)).tr (hs2.wide (by decide) (by decide))
  have z02 : τ2 111 0 = 0 := by rw [hs2.2 0 (by decide), ju_ne (by decide)]; exact h01
  have z22 : τ2 111 2 = 0 := by rw [hs2.2 2 (by decide), ju_ne (by decide)]; exact h21
  have z34 : τ2 111 34 = 0 := by rw [hs2.2 34 (by decide), ju_at]
  refine r_bn (tgt := 26) (dc dkX13_calls 8 rfl) rfl (fun h16 => ?_) (fun h16 => (np 19 rfl ?_))
  · skip
    refine r_pick [0] (lv' := [(0, _)]) rfl ?_
    refine jlp1 (P := fun (τ : jS) => jR _ _ _ 26 [(0, .ref 111)] [] τ) (I := fun (τ : jS) => ∃ (Rc : Int × Int) (Cc : Int → Int), Rc.1 = 0 ∧ md t L 300 Rc.2 τ ∧ τ 115 = Cc ∧ cB 8 (τ 111 34) ∧ caF t L 300 w h C = byF t L 300 (9 - τ 111 34).toNat (τ 111 34) Rc Cc ∧ mdT [0, 2, 3, 4, 5, 6, 7, 8, 9, 10, 11, 13, 14, 34] [115] σ τ ∧ τ 111 0 = 0 ∧ τ 111 2 = 0) (fun (τ : jS) => (9 - τ 111 34).toNat) ?_ _ ⟨_, atC t L 300 w (0, 0) C, h16, hM2.1 h16, hC2 h16, by omega, by rw [z34]; rfl, fr2, z02, z22⟩
    intro τ hI26 ih26
    obtain ⟨Rc, Cc, hRc, hMc, hCc, hkb, hF, frc, z0, z2⟩ := hI26
    have k0 := km_0 hMc
    have kmb := kM_b (t := t) (L := L) (m := 300) (q := Rc.2)
    have m7 := hMc.2.2.2.2.2.2.2.2.1
    have hK : (9 - τ 111 34).toNat = (8 - τ 111 34).toNat + 1 := by omega
    refine r_aload_n (dc dkX13_calls 14 rfl) rfl (np 27 rfl ?_)
    have jj41 : ¬ (¬ Rc.1 = 0 ∨ (3 ≤ τ 111 34 ∧ tK t L 300 Rc.2 = 0)) → jR 6 miX13_calls (fun r τ => (mdT [0, 2, 3, 4, 5, 6, 7, 8, 9, 10, 11, 13, 14, 34] [113, 115] σ τ ∧ τ 111 0 = 0 ∧ τ 111 2 = 0 ∧ τ 111 10 = (caF t L 300 w h C).1.1) ∧ ((caF t L 300 w h C).1.1 = 0 → r = some (vI (caF t L 300 w h C).2.2) ∧ (∀ j, (j < 241 ∨ 261 ≤ j) → τ 113 j = σ 113 j) ∧ τ 113 241 = 1 ∧ τ 113 242 = (caF t L 300 w h C).2.2 ∧ ∀ j, 0 ≤ j → j < 18 → τ 113 (243 + j) = (if j < 2 + 2 * (caF t L 300 w h C).2.2 then (caF t L 300 w h C).2.1 j else 0)) ∧ (¬ (caF t L 300 w h C).1.1 = 0 → r = some (vI (-1 - (caF t L 300 w h C).1.2)) ∧ τ 113 = σ 113)) 41 [(0, .ref 111)] [] τ := by
      intro hno
      refine r_aload_n (dc dkX13_calls 21 rfl) rfl (np 42 rfl ?_)
      refine r_cV0 (y' := miX13_readBy) (dc dkX13_calls 22 rfl) mlX13_386 ceX13_readBy ob_111 (Nat.le_of_ble_eq_true rfl) (Nat.le_of_ble_eq_true rfl) (c_X13_readBy hRc hMc rfl hkb hCc) (fun r τ3 hp3 => (np 45 rfl ?_))
      obtain ⟨rfl, hs3, hM3, hQ3⟩ := hp3
      have F3 : mdT [0, 2, 3, 4, 5, 6, 7, 8, 9, 10, 11, 13, 14, 34] [115] σ τ3 := frc.tr (hs3.wide (by decide) (by decide))
      refine r_bn (tgt := 26) (dc dkX13_calls 23 rfl) rfl (fun h45 => ?_) (fun h45 => (np 48 rfl ?_))
      · skip
        refine r_pick [0] rfl ?_
        exact ih26 _ (by
              obtain ⟨q1, q2⟩ := hQ3 h45
              have q3 := byR_0 h45
              refine ⟨_, byC t L 300 (τ 111 34) Rc Cc, h45, hM3.1 h45, q2, by omega, ?_, F3, (hs3.2 0 (by decide)).trans z0, (hs3.2 2 (by decide)).trans z2⟩
              rw [hF, hK, byF_y hno h45, q1, show (9 - (τ 111 34 + 1)).toNat = (8 - τ 111 34).toNat by omega]) (by have q3 := byR_0 h45; have := (hQ3 h45).1; omega)
      refine r_iconst (dc dkX13_calls 24 rfl) (np 49 rfl ?_)
      refine r_aload_n (dc dkX13_calls 25 rfl) rfl (np 50 rfl ?_)
      refine r_gI 11 (dc dkX13_calls 26 rfl) flX13_162 fd_111_11 rfl (np 53 rfl ?_)
      refine r_isub (dc dkX13_calls 27 rfl) (np 54 rfl ?_)
      exact r_iret (dc dkX13_calls 28 rfl) rfl (by
          have hFe : caF t L 300 w h C = (byR t L 300 (τ 111 34) Rc, Cc, τ 111 34) := by rw [hF, hK, byF_n hno h45]
          rw [hFe]
          exact ⟨⟨F3.wide (by decide) (by decide), (hs3.2 0 (by decide)).trans z0, (hs3.2 2 (by decide)).trans z2, mR_10 hM3⟩, fun z => absurd z h45, fun _ => ⟨by rw [mR_11 hM3 h45], F3.1 113 (by decide) (by decide)⟩⟩)
    refine r_gI 7 (dc dkX13_calls 15 rfl) flX13_120 fd_111_7 rfl (np 30 rfl ?_)
    refine r_if_ne (tgt := 41) (dc dkX13_calls 16 rfl) rfl (by rw [m7]; omega) (fun h30 => ?_) (fun h30 => (np 33 rfl ?_))
    · skip
      refine r_pick [0] rfl ?_
      exact jj41 (by omega)
    refine r_aload_n (dc dkX13_calls 17 rfl) rfl (np 34 rfl ?_)
    refine r_gI 34 (dc dkX13_calls 18 rfl) flX13_377 fd_111_34 rfl (np 37 rfl ?_)
    refine r_iconst (dc dkX13_calls 19 rfl) (np 38 rfl ?_)
    refine r_icmp_ge (tgt := 55) (dc dkX13_calls 20 rfl) rfl (by first | assumption | decide | omega) (by first | assumption | decide | omega) (fun h38 => ?_) (fun h38 => (np 41 rfl ?_))
    · skip
      have hFe : caF t L 300 w h C = (Rc, Cc, τ 111 34) := by rw [hF, byF_e (Or.inr ⟨by omega, k0.mp (by omega)⟩)]
      refine r_iconst (dc dkX13_calls 29 rfl) (np 56 rfl ?_)
      refine r_istore_n (lv' := [(1, _), (0, _)]) (dc dkX13_calls 30 rfl) (Nat.le_of_ble_eq_true rfl) rfl (np 57 rfl ?_)
      refine r_pick [1, 0] (lv' := [(0, _), (1, _)]) rfl ?_
      refine jlp2 (P := fun (i : Int) (τ5 : jS) => jR _ _ _ 57 [(0, .ref 111), (1, vI i)] [] τ5) (I := fun (i : Int) (τ5 : jS) => (0 ≤ i ∧ i ≤ 18) ∧ (∀ j, 0 ≤ j → j < i → τ5 113 (243 + j) = (if j < 2 + 2 * τ 111 34 then Cc j else 0)) ∧ (∀ j, (j < 243 ∨ 261 ≤ j) → τ5 113 j = τ 113 j) ∧ (∀ c, ¬ c = 113 → τ5 c = τ c)) (fun (i : Int) (τ5 : jS) => (18 - i).toNat) ?_ _ _ ⟨by omega, fun j _ _ => by omega, fun _ _ => rfl, fun _ _ => rfl⟩
      intro i τ5 hI57 ih57
      have u34 : τ5 111 34 = τ 111 34 := by rw [hI57.2.2.2 111 (by decide)]
      have u115 : τ5 115 = Cc := by rw [hI57.2.2.2 115 (by decide)]; exact hCc
      refine r_iload_n (dc dkX13_calls 31 rfl) rfl (np 58 rfl ?_)
      refine r_bipush (dc dkX13_calls 32 rfl) bp_18 (np 60 rfl ?_)
      refine r_icmp_ge (tgt := 101) (dc dkX13_calls 33 rfl) rfl (by first | assumption | decide | omega) (by first | assumption | decide | omega) (fun h60 => ?_) (fun h60 => (np 63 rfl ?_))
      · skip
        refine r_aload_n (dc dkX13_calls 56 rfl) rfl (np 102 rfl ?_)
        refine r_getR (dc dkX13_calls 57 rfl) flX13_13 fd_111_15 (np 105 rfl ?_)
        refine r_sipush (dc dkX13_calls 58 rfl) sp_242 (np 108 rfl ?_)
        refine r_aload_n (dc dkX13_calls 59 rfl) rfl (np 109 rfl ?_)
        refine r_gI 34 (dc dkX13_calls 60 rfl) flX13_377 fd_111_34 rfl (np 112 rfl ?_)
        refine r_iast (dc dkX13_calls 61 rfl) ar_113 (by omega) (np 113 rfl ?_)
        refine r_aload_n (dc dkX13_calls 62 rfl) rfl (np 114 rfl ?_)
        refine r_getR (dc dkX13_calls 63 rfl) flX13_13 fd_111_15 (np 117 rfl ?_)
        refine r_sipush (dc dkX13_calls 64 rfl) sp_241 (np 120 rfl ?_)
        refine r_iconst (dc dkX13_calls 65 rfl) (np 121 rfl ?_)
        refine r_iast (dc dkX13_calls 66 rfl) ar_113 (by omega) (np 122 rfl ?_)
        refine r_aload_n (dc dkX13_calls 67 rfl) rfl (np 123 rfl ?_)
        refine r_gI 34 (dc dkX13_calls 68 rfl) flX13_377 fd_111_34 rfl (np 126 rfl ?_)
        exact r_iret (dc dkX13_calls 69 rfl) rfl (by
            rw [hFe]
            have k1 : τ5 111 = τ 111 := hI57.2.2.2 111 (by decide)
            have g27 : ∀ j, (j < 241 ∨ 261 ≤ j) → ju (ju τ5 113 242 (τ5 111 34)) 113 241 1 113 j = σ 113 j := fun j hj => by
              rw [ju_ne (by omega), ju_ne (by omega), hI57.2.2.1 j (by omega), frc.1 113 (by decide) (by decide)]
            refine ⟨⟨⟨fun c h1 h2 => ?_, fun j hj => ?_⟩, ?_, ?_, ?_⟩, fun _ => ⟨by rw [ju_ne (by decide), ju_ne (by decide), k1], g27, ju_at _ _ _ _, ?_, fun j j0 j1 => ?_⟩, fun z => absurd hRc z⟩
            · simp at h2
              rw [ju_off _ _ _ _ _ (by omega), ju_off _ _ _ _ _ (by omega), hI57.2.2.2 c (by omega)]
              exact frc.1 c h1 (by simp; omega)
            · rw [ju_off _ _ _ _ _ (by decide), ju_off _ _ _ _ _ (by decide), k1]; exact frc.2 j hj
            · rw [ju_off _ _ _ _ _ (by decide), ju_off _ _ _ _ _ (by decide), k1]; exact z0
            · rw [ju_off _ _ _ _ _ (by decide), ju_off _ _ _ _ _ (by decide), k1]; exact z2
            · rw [ju_off _ _ _ _ _ (by decide), ju_off _ _ _ _ _ (by decide), k1]
              have := hMc.2.2.2.2.2.2.2.2.2.2.2.2
              show τ 111 10 = Rc.1
              omega
            · rw [ju_ne (by decide), ju_at, k1]
            · rw [ju_ne (by omega), ju_ne (by omega)]; exact hI57.2.1 j j0 (by omega))
      refine r_aload_n (dc dkX13_calls 34 rfl) rfl (np 64 rfl ?_)
      refine r_getR (dc dkX13_calls 35 rfl) flX13_13 fd_111_15 (np 67 rfl ?_)
      refine r_sipush (dc dkX13_calls 36 rfl) sp_243 (np 70 rfl ?_)
      refine r_iload_n (dc dkX13_calls 37 rfl) rfl (np 71 rfl ?_)
      refine r_iadd (dc dkX13_calls 38 rfl) (np 72 rfl ?_)
      refine r_iload_n (dc dkX13_calls 39 rfl) rfl (np 73 rfl ?_)
      refine r_iconst (dc dkX13_calls 40 rfl) (np 74 rfl ?_)
      refine r_iconst (dc dkX13_calls 41 rfl) (np 75 rfl ?_)
      refine r_aload_n (dc dkX13_calls 42 rfl) rfl (np 76 rfl ?_)
      refine r_gI 34 (dc dkX13_calls 43 rfl) flX13_377 fd_111_34 rfl (np 79 rfl ?_)
      refine r_imul (dc dkX13_calls 44 rfl) (np 80 rfl ?_)
      refine r_iadd (dc dkX13_calls 45 rfl) (np 81 rfl ?_)
      refine r_icmp_ge (tgt := 93) (dc dkX13_calls 46 rfl) rfl (by first | assumption | decide | omega) (by first | assumption | decide | omega) (fun h81 => ?_) (fun h81 => (np 84 rfl ?_))
      · skip
        refine r_iconst (dc dkX13_calls 52 rfl) (np 94 rfl ?_)
        refine r_iast (dc dkX13_calls 53 rfl) ar_113 (by omega) (np 95 rfl ?_)
        refine r_iinc (lv' := [(1, _), (0, _)]) (dc dkX13_calls 54 rfl) (Nat.le_of_ble_eq_true rfl) rfl rfl (np 98 rfl ?_)
        refine r_goto (tgt := 57) (dc dkX13_calls 55 rfl) rfl ?_
        refine r_pick [1, 0] rfl ?_
        exact ih57 _ _ ⟨by omega, fun j j0 j1 => by
              by_cases hj : j = i
              · rw [hj, ju_at]
                first | (rw [if_pos (by omega), u115]; done) | (rw [if_neg (by omega)]; done)
              · rw [ju_ne (by omega)]; exact hI57.2.1 j j0 (by omega), fun j hj => by rw [ju_ne (by omega)]; exact hI57.2.2.1 j hj, fun c hc => by rw [ju_off _ _ _ _ _ hc]; exact hI57.2.2.2 c hc⟩ (by omega)
      refine r_aload_n (dc dkX13_calls 47 rfl) rfl (np 85 rfl ?_)
      refine r_getR (dc dkX13_calls 48 rfl) flX13_19 fd_111_17 (np 88 rfl ?_)
      refine r_iload_n (dc dkX13_calls 49 rfl) rfl (np 89 rfl ?_)
      refine r_iald (dc dkX13_calls 50 rfl) ar_115 (by omega) (np 90 rfl ?_)
      refine r_goto (tgt := 94) (dc dkX13_calls 51 rfl) rfl ?_
      refine r_iast (dc dkX13_calls 53 rfl) ar_113 (by omega) (np 95 rfl ?_)
      refine r_iinc (lv' := [(1, _), (0, _)]) (dc dkX13_calls 54 rfl) (Nat.le_of_ble_eq_true rfl) rfl rfl (np 98 rfl ?_)
      refine r_goto (tgt := 57) (dc dkX13_calls 55 rfl) rfl ?_
      refine r_pick [1, 0] rfl ?_
      exact ih57 _ _ ⟨by omega, fun j j0 j1 => by
            by_cases hj : j = i
            · rw [hj, ju_at]
              first | (rw [if_pos (by omega), u115]; done) | (rw [if_neg (by omega)]; done)
            · rw [ju_ne (by omega)]; exact hI57.2.1 j j0 (by omega), fun j hj => by rw [ju_ne (by omega)]; exact hI57.2.2.1 j hj, fun c hc => by rw [ju_off _ _ _ _ _ hc]; exact hI57.2.2.2 c hc⟩ (by omega)
    refine r_pick [0] rfl ?_
    exact jj41 (by omega)
  refine r_iconst (dc dkX13_calls 9 rfl) (np 20 rfl ?_)
  refine r_aload_n (dc dkX13_calls 10 rfl) rfl (np 21 rfl ?_)
  refine r_gI 11 (dc dkX13_calls 11 rfl) flX13_162 fd_111_11 rfl (np 24 rfl ?_)
  refine r_isub (dc dkX13_calls 12 rfl) (np 25 rfl ?_)
  exact r_iret (dc dkX13_calls 13 rfl) rfl (by
      have hF : caF t L 300 w h C = (atR t L 300 w h (0, 0), atC t L 300 w (0, 0) C, 0) := by rw [caF, byF_e (Or.inl h16)]
      rw [hF]
      exact ⟨⟨fr2.wide (by decide) (by decide), z02, z22, mR_10 hM2⟩, fun z => absurd z h16, fun _ => ⟨by rw [mR_11 hM2 h16], fr2.1 113 (by decide) (by decide)⟩⟩)
