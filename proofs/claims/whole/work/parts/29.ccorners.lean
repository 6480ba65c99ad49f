/-! ===== a band's corners ===== -/
def coG (a n : Int) (D0 D : Int → Int) : Prop := (∀ i, 0 ≤ i → i < n → (0 ≤ D (a + 1 + 2 * i) ∧ D (a + 1 + 2 * i) < D0 0) ∧ (0 ≤ D (a + 2 + 2 * i) ∧ D (a + 2 + 2 * i) < D0 1)) ∧ D a = n ∧ ∀ j, (j < a ∨ a + 17 ≤ j) → D j = D0 j
section
variable {t : Int → Int} {L m : Int}
theorem co1_0 {n : Int} {R : Int × Int} {D : Int → Int} (h : (co1 t L m n R D).1 = 0) : n < 8 ∧ snR t L m 2 R ∧ 0 ≤ nQ t L m R.2 ∧ nQ t L m R.2 ≤ D 0 - 1 ∧ co1 t L m n R D = stR t L m R := by
  unfold co1 at h ⊢
  rw [stR_f] at h
  by_cases hn : 8 ≤ n
  · rw [gte_t hn] at h
    exact absurd h (flR_f (by decide))
  · rw [gte_f hn] at h ⊢
    obtain ⟨h1, h2, h3, h4⟩ := ckR_f h
    exact ⟨by omega, h1, h2, h3, by rw [h4]⟩
theorem co2_0 {n : Int} {R : Int × Int} {D : Int → Int} (h : (co2 t L m n R D).1 = 0) : n < 8 ∧ snR t L m 2 R ∧ (0 ≤ nQ t L m R.2 ∧ nQ t L m R.2 ≤ D 0 - 1) ∧ (co1 t L m n R D).1 = 0 ∧ snR t L m 2 (co1 t L m n R D) ∧ (0 ≤ nQ t L m (co1 t L m n R D).2 ∧ nQ t L m (co1 t L m n R D).2 ≤ D 1 - 1) := by
  obtain ⟨h1, h2, h3, h4⟩ := nmR_f h
  have h5 := co1_0 h1.1
  exact ⟨h5.1, h5.2.1, ⟨h5.2.2.1, h5.2.2.2.1⟩, h1.1, h1, h2, h3⟩
theorem coD_G {a n : Int} {R : Int × Int} {D0 D : Int → Int} (ha : 105 ≤ a) (hn : 0 ≤ n) (hG : coG a n D0 D) (h : (co2 t L m n R D).1 = 0) : coG a (n + 1) D0 (coD t L m a n R D) := by
  obtain ⟨g1, g2, g3⟩ := hG
  obtain ⟨c1, c2, c3, c4, c5, c6⟩ := co2_0 h
  have d0 := g3 0 (by omega)
  have d1 := g3 1 (by omega)
  unfold coD
  refine ⟨fun i i0 i1 => ?_, by rw [up_at], fun j hj => ?_⟩
  · by_cases hi : i = n
    · subst hi
      rw [up_ne (by omega), up_ne (by omega), up_at, up_ne (by omega), up_at]
      omega
    · have := g1 i i0 (by omega)
      rw [up_ne (by omega), up_ne (by omega), up_ne (by omega), up_ne (by omega), up_ne (by omega), up_ne (by omega)]
      exact this
  · rw [up_ne (by omega), up_ne (by omega), up_ne (by omega)]
    exact g3 j hj
theorem coF_ok {a : Int} {D0 : Int → Int} (ha : 105 ≤ a) : ∀ (k : Nat) (n : Int) (R : Int × Int) (D : Int → Int), 0 ≤ n → n ≤ 8 → n + k = 9 → coG a n D0 D → coG a (coF t L m a k n R D).2.2 D0 (coF t L m a k n R D).2.1 ∧ ((coF t L m a k n R D).1.1 = 0 → 3 ≤ (coF t L m a k n R D).2.2 ∧ (coF t L m a k n R D).2.2 ≤ 8)
  | 0, n, R, D, h0, h8, h9, hG => by omega
  | k + 1, n, R, D, h0, h8, h9, hG => by
    rw [coF]
    by_cases h1 : ¬ R.1 = 0 ∨ (3 ≤ n ∧ ¬ tK t L m R.2 = 2)
    · rw [gte_t h1]
      exact ⟨hG, fun z => by
        have z2 : R.1 = 0 := z
        show 3 ≤ n ∧ n ≤ 8
        omega⟩
    · rw [gte_f h1]
      by_cases h2 : (co2 t L m n R D).1 = 0
      · rw [gte_t h2]
        have := co2_0 h2
        exact coF_ok ha k (n + 1) _ _ (by omega) (by omega) (by omega) (coD_G ha h0 hG h2)
      · rw [gte_f h2]
        exact ⟨hG, fun z => absurd z h2⟩
end
set_option maxRecDepth 100000 in
set_option maxHeartbeats 4000000 in
theorem c_X1_readCorners {σ : jS} {t : Int → Int} {L m : Int} {R : Int × Int} (hR : rd t L m R σ) (hd : okD σ 41) {D : Int → Int} (e0 : σ 41 0 = D 0) (e1 : σ 41 1 = D 1) (hw : okT2 D) {a : Int} (ha : 105 ≤ a) (hz : D a = 0) : Jm 10 miX1_readCorners [.ref 41, .ref 1, .ref 6] σ (fun r τ => ∃ z, r = some (vI z) ∧ same [1, 6] σ τ ∧ rd t L m (coF t L m a 9 0 R D).1 τ ∧ ((coF t L m a 9 0 R D).1.1 = 0 → z = (coF t L m a 9 0 R D).2.2 ∧ ∀ i, 0 ≤ i → i < z → τ 6 i = 10 * (coF t L m a 9 0 R D).2.1 (a + 2 + 2 * i) + (coF t L m a 9 0 R D).2.1 (a + 1 + 2 * i))) := by
  have hw2 := hw
  unfold okT2 at hw2
  refine jm_ofF (Po := (fun r τ => ∃ z, r = some (vI z) ∧ same [1, 6] σ τ ∧ rd t L m (coF t L m a 9 0 R D).1 τ ∧ ((coF t L m a 9 0 R D).1.1 = 0 → z = (coF t L m a 9 0 R D).2.2 ∧ ∀ i, 0 ≤ i → i < z → τ 6 i = 10 * (coF t L m a 9 0 R D).2.1 (a + 2 + 2 * i) + (coF t L m a 9 0 R D).2.1 (a + 1 + 2 * i)))) (plainFor_of_name (by decide)) (Nat.le_of_ble_eq_true rfl) (lv := [(0, _), (1, _), (2, _)]) rfl ?_
  refine r_iconst (dc dkX1_readCorners 0 rfl) (np 1 rfl ?_)
  refine r_istore_n (lv' := [(3, _), (0, _), (1, _), (2, _)]) (dc dkX1_readCorners 1 rfl) (Nat.le_of_ble_eq_true rfl) rfl (np 2 rfl ?_)
  refine r_iconst (dc dkX1_readCorners 2 rfl) (np 3 rfl ?_)
  refine r_istore (lv' := [(4, _), (3, _), (0, _), (1, _), (2, _)]) (dc dkX1_readCorners 3 rfl) (Nat.le_of_ble_eq_true rfl) rfl (np 5 rfl ?_)
  refine r_pick [2, 3, 4, 1, 0] (lv' := [(0, _), (1, _), (2, _), (3, _), (4, _)]) rfl ?_
  refine jlp3 (P := fun (n : Int) (i : Int) (τ : jS) => jR _ _ _ 5 [(0, .ref 41), (1, .ref 1), (2, .ref 6), (3, vI n), (4, vI i)] [] τ) (I := fun (n : Int) (i : Int) (τ : jS) => (0 ≤ n ∧ n ≤ 8 ∧ 0 ≤ i ∧ i ≤ 9) ∧ same [1, 6] σ τ ∧ ∃ (Rc : Int × Int) (Dc : Int → Int), rd t L m Rc τ ∧ coF t L m a 9 0 R D = coF t L m a (9 - n).toNat n Rc Dc ∧ (∀ j, j < a → Dc j = D j) ∧ (Rc.1 = 0 → i = n ∧ ∀ j, 0 ≤ j → j < n → τ 6 j = 10 * Dc (a + 2 + 2 * j) + Dc (a + 1 + 2 * j))) (fun (n : Int) (i : Int) (τ : jS) => (9 - i).toNat) ?_ _ _ _ ⟨by omega, same.refl _ _, R, D, hR, rfl, fun _ _ => rfl, fun _ => ⟨rfl, fun j _ _ => by omega⟩⟩
  intro n i τ hI5 ih5
  obtain ⟨hb, hS, Rc, Dc, hRc, hF, hDc, hI⟩ := hI5
  have d0 := hDc 0 (by omega)
  have d1 := hDc 1 (by omega)
  have f0 : τ 41 0 = Dc 0 := by rw [hS 41 (by decide), e0, d0]
  have f1 : τ 41 1 = Dc 1 := by rw [hS 41 (by decide), e1, d1]
  refine r_iload (dc dkX1_readCorners 4 rfl) rfl (np 7 rfl ?_)
  refine r_bipush (dc dkX1_readCorners 5 rfl) bp_8 (np 9 rfl ?_)
  refine r_icmp_gt (tgt := 114) (dc dkX1_readCorners 6 rfl) rfl (by first | assumption | decide | omega) (by first | assumption | decide | omega) (fun h9 => ?_) (fun h9 => (np 12 rfl ?_))
  · skip
    refine r_iload_n (dc dkX1_readCorners 64 rfl) rfl (np 115 rfl ?_)
    exact r_iret (dc dkX1_readCorners 65 rfl) rfl (by
        have hf : ¬ Rc.1 = 0 := by first | assumption | (intro z; have := (hI z).1; omega)
        exact ⟨n, rfl, hS, by rw [hF, coF_e hf]; exact hRc, fun z => by rw [hF, coF_e hf] at z; exact absurd z hf⟩)
  refine r_aload_n (dc dkX1_readCorners 7 rfl) rfl (np 13 rfl ?_)
  refine r_pV0 (y' := miX8_isFine) (dc dkX1_readCorners 8 rfl) mlX1_131 ceX8_isFine ob_1 (Nat.le_of_ble_eq_true rfl) (Nat.le_of_ble_eq_true rfl) (c_X8_isFine hRc) (np 16 rfl ?_)
  refine r_bz (tgt := 114) (dc dkX1_readCorners 9 rfl) rfl (fun h16 => ?_) (fun h16 => (np 19 rfl ?_))
  · skip
    refine r_iload_n (dc dkX1_readCorners 64 rfl) rfl (np 115 rfl ?_)
    exact r_iret (dc dkX1_readCorners 65 rfl) rfl (by
        have hf : ¬ Rc.1 = 0 := by first | assumption | (intro z; have := (hI z).1; omega)
        exact ⟨n, rfl, hS, by rw [hF, coF_e hf]; exact hRc, fun z => by rw [hF, coF_e hf] at z; exact absurd z hf⟩)
  have hf : Rc.1 = 0 := by assumption
  have hin := (hI hf).1
  have hK : (9 - n).toNat = (8 - n).toNat + 1 := by omega
  have hk := rd_k hRc hf
  have hkb := tK_b (t := t) (L := L) (m := m) (p := Rc.2)
  refine r_iload_n (dc dkX1_readCorners 10 rfl) rfl (np 20 rfl ?_)
  refine r_iconst (dc dkX1_readCorners 11 rfl) (np 21 rfl ?_)
  refine r_icmp_lt (tgt := 34) (dc dkX1_readCorners 12 rfl) rfl (by first | assumption | decide | omega) (by first | assumption | decide | omega) (fun h21 => ?_) (fun h21 => (np 24 rfl ?_))
  · skip
    have hno : ¬ (¬ Rc.1 = 0 ∨ (3 ≤ n ∧ ¬ tK t L m Rc.2 = 2)) := by omega
    refine r_aload_n (dc dkX1_readCorners 19 rfl) rfl (np 35 rfl ?_)
    have jj62 : ∀ τ4 : jS, same [1] τ τ4 ∧ rd t L m (gte (8 ≤ n) (flR t L m 4 (ckR t L m 0 (Dc 0 - 1) Rc)) (ckR t L m 0 (Dc 0 - 1) Rc)) τ4 → jR 10 miX1_readCorners (fun r τ => ∃ z, r = some (vI z) ∧ same [1, 6] σ τ ∧ rd t L m (coF t L m a 9 0 R D).1 τ ∧ ((coF t L m a 9 0 R D).1.1 = 0 → z = (coF t L m a 9 0 R D).2.2 ∧ ∀ i, 0 ≤ i → i < z → τ 6 i = 10 * (coF t L m a 9 0 R D).2.1 (a + 2 + 2 * i) + (coF t L m a 9 0 R D).2.1 (a + 1 + 2 * i))) 62 [(0, .ref 41), (1, .ref 1), (2, .ref 6), (3, vI n), (4, vI i)] [] τ4 := by
      intro τ4 hq
      obtain ⟨hS4, hR4⟩ := hq
      refine r_aload_n (dc dkX1_readCorners 36 rfl) rfl (np 63 rfl ?_)
      refine r_gI 5 (dc dkX1_readCorners 37 rfl) flX1_135 fd_1_5 rfl (np 66 rfl ?_)
      refine r_istore (lv' := [(5, _), (0, _), (1, _), (2, _), (3, _), (4, _)]) (dc dkX1_readCorners 38 rfl) (Nat.le_of_ble_eq_true rfl) rfl (np 68 rfl ?_)
      refine r_aload_n (dc dkX1_readCorners 39 rfl) rfl (np 69 rfl ?_)
      refine r_cV0 (y' := miX8_step) (dc dkX1_readCorners 40 rfl) mlX1_116 ceX8_step ob_1 (Nat.le_of_ble_eq_true rfl) (Nat.le_of_ble_eq_true rfl) (c_X8_step hR4) (fun r τ5 hp5 => (np 72 rfl ?_))
      obtain ⟨rfl, hs5, hR5⟩ := hp5
      change rd t L m (co1 t L m n Rc Dc) τ5 at hR5
      have g1 : τ5 41 1 = Dc 1 := by rw [hs5 41 (by decide), hS4 41 (by decide)]; exact f1
      refine r_aload_n (dc dkX1_readCorners 41 rfl) rfl (np 73 rfl ?_)
      refine r_iconst (dc dkX1_readCorners 42 rfl) (np 74 rfl ?_)
      refine r_aload_n (dc dkX1_readCorners 43 rfl) rfl (np 75 rfl ?_)
      refine r_gI 1 (dc dkX1_readCorners 44 rfl) flX1_15 fd_41_1 rfl (np 78 rfl ?_)
      refine r_iconst (dc dkX1_readCorners 45 rfl) (np 79 rfl ?_)
      refine r_isub (dc dkX1_readCorners 46 rfl) (np 80 rfl ?_)
      refine r_cV2 (y' := miX8_number) (dc dkX1_readCorners 47 rfl) mlX1_107 ceX8_number ob_1 (Nat.le_of_ble_eq_true rfl) (Nat.le_of_ble_eq_true rfl) (c_X8_number hR5 (by decide) (by rw [g1]; omega)) (fun r τ6 hp6 => (np 83 rfl ?_))
      obtain ⟨z6, rfl, hz6, hs6, hR6⟩ := hp6
      rw [g1] at hR6 hz6
      change rd t L m (co2 t L m n Rc Dc) τ6 at hR6
      have hS6 : same [1, 6] σ τ6 := (hS.tr (hS4.wide (by decide))).tr ((hs5.tr hs6).wide (by decide))
      refine r_istore (lv' := [(6, _), (5, _), (0, _), (1, _), (2, _), (3, _), (4, _)]) (dc dkX1_readCorners 48 rfl) (Nat.le_of_ble_eq_true rfl) rfl (np 85 rfl ?_)
      refine r_aload_n (dc dkX1_readCorners 49 rfl) rfl (np 86 rfl ?_)
      refine r_pV0 (y' := miX8_isFine) (dc dkX1_readCorners 50 rfl) mlX1_131 ceX8_isFine ob_1 (Nat.le_of_ble_eq_true rfl) (Nat.le_of_ble_eq_true rfl) (c_X8_isFine hR6) (np 89 rfl ?_)
      refine r_bz (tgt := 108) (dc dkX1_readCorners 51 rfl) rfl (fun h89 => ?_) (fun h89 => (np 92 rfl ?_))
      · skip
        refine r_iinc (lv' := [(4, _), (6, _), (5, _), (0, _), (1, _), (2, _), (3, _)]) (dc dkX1_readCorners 62 rfl) (Nat.le_of_ble_eq_true rfl) rfl rfl (np 111 rfl ?_)
        refine r_goto (tgt := 5) (dc dkX1_readCorners 63 rfl) rfl ?_
        refine r_pick [3, 4, 5, 6, 0] rfl ?_
        exact ih5 _ _ _ (by
              first
              | exact ⟨by omega, hS6, co2 t L m n Rc Dc, Dc, hR6, by rw [hF, hK, coF, gte_f hno, gte_f h89, coF_e h89], hDc, fun z => absurd z h89⟩
              | exact ⟨by omega, hS6.put (by decide), co2 t L m n Rc Dc, coD t L m a n Rc Dc, rd_ju hR6 (by decide), by rw [hF, hK, coF, gte_f hno, gte_t h89, show (9 - (n + 1)).toNat = (8 - n).toNat by omega], fun j hj => by unfold coD; rw [up_ne (by omega), up_ne (by omega), up_ne (by omega)]; exact hDc j hj, fun z => ⟨by omega, fun j j0 j1 => by
                  by_cases hj : j = n
                  · subst hj
                    unfold coD
                    rw [ju_at, up_ne (by omega), up_at, up_ne (by omega), up_ne (by omega), up_at]
                    exact hpl
                  · have q := (hI hf).2 j j0 (by omega)
                    unfold coD
                    rw [ju_ne (by omega), up_ne (by omega), up_ne (by omega), up_ne (by omega), up_ne (by omega), up_ne (by omega), up_ne (by omega), ← q]
                    rw [hs6 6 (by decide), hs5 6 (by decide), hS4 6 (by decide)]⟩⟩) (by omega)
      obtain ⟨c1, c2, c3, c4, c5, c6⟩ := co2_0 h89
      have hg8 : gte (8 ≤ n) (flR t L m 4 (ckR t L m 0 (Dc 0 - 1) Rc)) (ckR t L m 0 (Dc 0 - 1) Rc) = Rc := by rw [gte_f (by omega), ckR_y c2 (by omega)]
      rw [hg8] at hR4
      have x1 := (rd_v hR4 c2).1
      have y1 := hz6 h89
      have hd6 : okD τ6 41 := by
        have a1 := hS6 41 (by decide)
        have a2 := hS6 42 (by decide)
        unfold okD at hd ⊢
        show cB 10 (τ6 41 0) ∧ cB 10 (τ6 41 1) ∧ cB 1 (τ6 41 2) ∧ cB 12 (τ6 41 3) ∧ cB 8 (τ6 41 6) ∧ iR (τ6 41 7) ∧ ∀ j, 0 ≤ j → j < 8 → lR (τ6 42 j)
        rw [a1, a2]
        exact hd
      have hpl : plG (τ6 41 0) (τ6 41 1) (τ4 1 5) z6 = 10 * nQ t L m (co1 t L m n Rc Dc).2 + nQ t L m Rc.2 := by
        rw [plG_in, y1, x1]
        have b0 : τ6 41 0 = Dc 0 := by rw [hS6 41 (by decide), e0, d0]
        have b1 : τ6 41 1 = Dc 1 := by rw [hS6 41 (by decide), e1, d1]
        rw [b0, b1, y1, x1]
        omega
      refine r_aload_n (dc dkX1_readCorners 52 rfl) rfl (np 93 rfl ?_)
      refine r_iload_n (dc dkX1_readCorners 53 rfl) rfl (np 94 rfl ?_)
      refine r_aload_n (dc dkX1_readCorners 54 rfl) rfl (np 95 rfl ?_)
      refine r_iload (dc dkX1_readCorners 55 rfl) rfl (np 97 rfl ?_)
      refine r_i2l (dc dkX1_readCorners 56 rfl) (by first | assumption | decide | omega) (np 98 rfl ?_)
      refine r_iload (dc dkX1_readCorners 57 rfl) rfl (np 100 rfl ?_)
      refine r_i2l (dc dkX1_readCorners 58 rfl) (by first | assumption | decide | omega) (np 101 rfl ?_)
      refine r_pV2 (y' := miX1_place) (dc dkX1_readCorners 59 rfl) mlX1_138 ceX1_place ob_41 (Nat.le_of_ble_eq_true rfl) (Nat.le_of_ble_eq_true rfl) (c_X1_place isBoard_at41 hd6 (by omega) (by omega)) (np 104 rfl ?_)
      refine r_iast (dc dkX1_readCorners 60 rfl) ar_6 (by omega) (np 105 rfl ?_)
      refine r_iinc (lv' := [(3, _), (6, _), (5, _), (0, _), (1, _), (2, _), (4, _)]) (dc dkX1_readCorners 61 rfl) (Nat.le_of_ble_eq_true rfl) rfl rfl (np 108 rfl ?_)
      refine r_iinc (lv' := [(4, _), (3, _), (6, _), (5, _), (0, _), (1, _), (2, _)]) (dc dkX1_readCorners 62 rfl) (Nat.le_of_ble_eq_true rfl) rfl rfl (np 111 rfl ?_)
      refine r_goto (tgt := 5) (dc dkX1_readCorners 63 rfl) rfl ?_
      refine r_pick [4, 5, 6, 1, 0] rfl ?_
      exact ih5 _ _ _ (by
            first
            | exact ⟨by omega, hS6, co2 t L m n Rc Dc, Dc, hR6, by rw [hF, hK, coF, gte_f hno, gte_f h89, coF_e h89], hDc, fun z => absurd z h89⟩
            | exact ⟨by omega, hS6.put (by decide), co2 t L m n Rc Dc, coD t L m a n Rc Dc, rd_ju hR6 (by decide), by rw [hF, hK, coF, gte_f hno, gte_t h89, show (9 - (n + 1)).toNat = (8 - n).toNat by omega], fun j hj => by unfold coD; rw [up_ne (by omega), up_ne (by omega), up_ne (by omega)]; exact hDc j hj, fun z => ⟨by omega, fun j j0 j1 => by
                by_cases hj : j = n
                · subst hj
                  unfold coD
                  rw [ju_at, up_ne (by omega), up_at, up_ne (by omega), up_ne (by omega), up_at]
                  exact hpl
                · have q := (hI hf).2 j j0 (by omega)
                  unfold coD
                  rw [ju_ne (by omega), up_ne (by omega), up_ne (by omega), up_ne (by omega), up_ne (by omega), up_ne (by omega), up_ne (by omega), ← q]
                  rw [hs6 6 (by decide), hs5 6 (by decide), hS4 6 (by decide)]⟩⟩) (by omega)
    refine r_iconst (dc dkX1_readCorners 20 rfl) (np 36 rfl ?_)
    refine r_aload_n (dc dkX1_readCorners 21 rfl) rfl (np 37 rfl ?_)
    refine r_gI 0 (dc dkX1_readCorners 22 rfl) flX1_9 fd_41_0 rfl (np 40 rfl ?_)
    refine r_iconst (dc dkX1_readCorners 23 rfl) (np 41 rfl ?_)
    refine r_isub (dc dkX1_readCorners 24 rfl) (np 42 rfl ?_)
    refine r_cV2 (y' := miX8_checkNumber) (dc dkX1_readCorners 25 rfl) mlX1_127 ceX8_checkNumber ob_1 (Nat.le_of_ble_eq_true rfl) (Nat.le_of_ble_eq_true rfl) (c_X8_checkNumber hRc (by decide) (by rw [f0]; omega)) (fun r τ3 hp3 => (np 45 rfl ?_))
    obtain ⟨rfl, hs3, hR3⟩ := hp3
    rw [f0] at hR3
    refine r_iload_n (dc dkX1_readCorners 26 rfl) rfl (np 46 rfl ?_)
    refine r_bipush (dc dkX1_readCorners 27 rfl) bp_8 (np 48 rfl ?_)
    refine r_icmp_ge (tgt := 57) (dc dkX1_readCorners 28 rfl) rfl (by first | assumption | decide | omega) (by first | assumption | decide | omega) (fun h48 => ?_) (fun h48 => (np 51 rfl ?_))
    · skip
      refine r_aload_n (dc dkX1_readCorners 33 rfl) rfl (np 58 rfl ?_)
      refine r_iconst (dc dkX1_readCorners 34 rfl) (np 59 rfl ?_)
      refine r_cV1 (y' := miX8_fail) (dc dkX1_readCorners 35 rfl) mlX1_113 ceX8_fail ob_1 (Nat.le_of_ble_eq_true rfl) (Nat.le_of_ble_eq_true rfl) (c_X8_fail hR3 (by decide)) (fun r τ4 hp4 => (np 62 rfl ?_))
      obtain ⟨rfl, hs4, hR4⟩ := hp4
      refine r_pick [0, 1, 2, 3, 4] rfl ?_
      exact jj62 _ (by first | exact ⟨hs3.tr hs4, by rw [gte_t (by omega)]; exact hR4⟩ | exact ⟨hs3, by rw [gte_f (by omega)]; exact hR3⟩)
    refine r_iload_n (dc dkX1_readCorners 29 rfl) rfl (np 52 rfl ?_)
    refine r_aload_n (dc dkX1_readCorners 30 rfl) rfl (np 53 rfl ?_)
    refine r_alen (dc dkX1_readCorners 31 rfl) ar_6 (Nat.le_of_ble_eq_true rfl) (np 54 rfl ?_)
    refine r_icmp_lt (tgt := 62) (dc dkX1_readCorners 32 rfl) rfl (by first | assumption | decide | omega) (by first | assumption | decide | omega) (fun h54 => ?_) (fun h54 => (np 57 rfl ?_))
    · skip
      refine r_pick [0, 1, 2, 3, 4] rfl ?_
      exact jj62 _ (by first | exact ⟨hs3.tr hs4, by rw [gte_t (by omega)]; exact hR4⟩ | exact ⟨hs3, by rw [gte_f (by omega)]; exact hR3⟩)
    refine r_aload_n (dc dkX1_readCorners 33 rfl) rfl (np 58 rfl ?_)
    refine r_iconst (dc dkX1_readCorners 34 rfl) (np 59 rfl ?_)
    refine r_cV1 (y' := miX8_fail) (dc dkX1_readCorners 35 rfl) mlX1_113 ceX8_fail ob_1 (Nat.le_of_ble_eq_true rfl) (Nat.le_of_ble_eq_true rfl) (c_X8_fail hR3 (by decide)) (fun r τ4 hp4 => (np 62 rfl ?_))
    obtain ⟨rfl, hs4, hR4⟩ := hp4
    refine r_pick [0, 1, 2, 3, 4] rfl ?_
    exact jj62 _ (by first | exact ⟨hs3.tr hs4, by rw [gte_t (by omega)]; exact hR4⟩ | exact ⟨hs3, by rw [gte_f (by omega)]; exact hR3⟩)
  refine r_aload_n (dc dkX1_readCorners 13 rfl) rfl (np 25 rfl ?_)
  refine r_gI 4 (dc dkX1_readCorners 14 rfl) flX1_110 fd_1_4 rfl (np 28 rfl ?_)
  refine r_iconst (dc dkX1_readCorners 15 rfl) (np 29 rfl ?_)
  refine r_icmp_eq (tgt := 34) (dc dkX1_readCorners 16 rfl) rfl (by first | assumption | decide | omega) (by first | assumption | decide | omega) (fun h29 => ?_) (fun h29 => (np 32 rfl ?_))
  · skip
    have hno : ¬ (¬ Rc.1 = 0 ∨ (3 ≤ n ∧ ¬ tK t L m Rc.2 = 2)) := by omega
    refine r_aload_n (dc dkX1_readCorners 19 rfl) rfl (np 35 rfl ?_)
    have jj62 : ∀ τ4 : jS, same [1] τ τ4 ∧ rd t L m (gte (8 ≤ n) (flR t L m 4 (ckR t L m 0 (Dc 0 - 1) Rc)) (ckR t L m 0 (Dc 0 - 1) Rc)) τ4 → jR 10 miX1_readCorners (fun r τ => ∃ z, r = some (vI z) ∧ same [1, 6] σ τ ∧ rd t L m (coF t L m a 9 0 R D).1 τ ∧ ((coF t L m a 9 0 R D).1.1 = 0 → z = (coF t L m a 9 0 R D).2.2 ∧ ∀ i, 0 ≤ i → i < z → τ 6 i = 10 * (coF t L m a 9 0 R D).2.1 (a + 2 + 2 * i) + (coF t L m a 9 0 R D).2.1 (a + 1 + 2 * i))) 62 [(0, .ref 41), (1, .ref 1), (2, .ref 6), (3, vI n), (4, vI i)] [] τ4 := by
      intro τ4 hq
      obtain ⟨hS4, hR4⟩ := hq
      refine r_aload_n (dc dkX1_readCorners 36 rfl) rfl (np 63 rfl ?_)
      refine r_gI 5 (dc dkX1_readCorners 37 rfl) flX1_135 fd_1_5 rfl (np 66 rfl ?_)
      refine r_istore (lv' := [(5, _), (0, _), (1, _), (2, _), (3, _), (4, _)]) (dc dkX1_readCorners 38 rfl) (Nat.le_of_ble_eq_true rfl) rfl (np 68 rfl ?_)
      refine r_aload_n (dc dkX1_readCorners 39 rfl) rfl (np 69 rfl ?_)
      refine r_cV0 (y' := miX8_step) (dc dkX1_readCorners 40 rfl) mlX1_116 ceX8_step ob_1 (Nat.le_of_ble_eq_true rfl) (Nat.le_of_ble_eq_true rfl) (c_X8_step hR4) (fun r τ5 hp5 => (np 72 rfl ?_))
      obtain ⟨rfl, hs5, hR5⟩ := hp5
      change rd t L m (co1 t L m n Rc Dc) τ5 at hR5
      have g1 : τ5 41 1 = Dc 1 := by rw [hs5 41 (by decide), hS4 41 (by decide)]; exact f1
      refine r_aload_n (dc dkX1_readCorners 41 rfl) rfl (np 73 rfl ?_)
      refine r_iconst (dc dkX1_readCorners 42 rfl) (np 74 rfl ?_)
      refine r_aload_n (dc dkX1_readCorners 43 rfl) rfl (np 75 rfl ?_)
      refine r_gI 1 (dc dkX1_readCorners 44 rfl) flX1_15 fd_41_1 rfl (np 78 rfl ?_)
      refine r_iconst (dc dkX1_readCorners 45 rfl) (np 79 rfl ?_)
      refine r_isub (dc dkX1_readCorners 46 rfl) (np 80 rfl ?_)
      refine r_cV2 (y' := miX8_number) (dc dkX1_readCorners 47 rfl) mlX1_107 ceX8_number ob_1 (Nat.le_of_ble_eq_true rfl) (Nat.le_of_ble_eq_true rfl) (c_X8_number hR5 (by decide) (by rw [g1]; omega)) (fun r τ6 hp6 => (np 83 rfl ?_))
      obtain ⟨z6, rfl, hz6, hs6, hR6⟩ := hp6
      rw [g1] at hR6 hz6
      change rd t L m (co2 t L m n Rc Dc) τ6 at hR6
      have hS6 : same [1, 6] σ τ6 := (hS.tr (hS4.wide (by decide))).tr ((hs5.tr hs6).wide (by decide))
      refine r_istore (lv' := [(6, _), (5, _), (0, _), (1, _), (2, _), (3, _), (4, _)]) (dc dkX1_readCorners 48 rfl) (Nat.le_of_ble_eq_true rfl) rfl (np 85 rfl ?_)
      refine r_aload_n (dc dkX1_readCorners 49 rfl) rfl (np 86 rfl ?_)
      refine r_pV0 (y' := miX8_isFine) (dc dkX1_readCorners 50 rfl) mlX1_131 ceX8_isFine ob_1 (Nat.le_of_ble_eq_true rfl) (Nat.le_of_ble_eq_true rfl) (c_X8_isFine hR6) (np 89 rfl ?_)
      refine r_bz (tgt := 108) (dc dkX1_readCorners 51 rfl) rfl (fun h89 => ?_) (fun h89 => (np 92 rfl ?_))
      · skip
        refine r_iinc (lv' := [(4, _), (6, _), (5, _), (0, _), (1, _), (2, _), (3, _)]) (dc dkX1_readCorners 62 rfl) (Nat.le_of_ble_eq_true rfl) rfl rfl (np 111 rfl ?_)
        refine r_goto (tgt := 5) (dc dkX1_readCorners 63 rfl) rfl ?_
        refine r_pick [3, 4, 5, 6, 0] rfl ?_
        exact ih5 _ _ _ (by
              first
              | exact ⟨by omega, hS6, co2 t L m n Rc Dc, Dc, hR6, by rw [hF, hK, coF, gte_f hno, gte_f h89, coF_e h89], hDc, fun z => absurd z h89⟩
              | exact ⟨by omega, hS6.put (by decide), co2 t L m n Rc Dc, coD t L m a n Rc Dc, rd_ju hR6 (by decide), by rw [hF, hK, coF, gte_f hno, gte_t h89, show (9 - (n + 1)).toNat = (8 - n).toNat by omega], fun j hj => by unfold coD; rw [up_ne (by omega), up_ne (by omega), up_ne (by omega)]; exact hDc j hj, fun z => ⟨by omega, fun j j0 j1 => by
                  by_cases hj : j = n
                  · subst hj
                    unfold coD
                    rw [ju_at, up_ne (by omega), up_at, up_ne (by omega), up_ne (by omega), up_at]
                    exact hpl
                  · have q := (hI hf).2 j j0 (by omega)
                    unfold coD
                    rw [ju_ne (by omega), up_ne (by omega), up_ne (by omega), up_ne (by omega), up_ne (by omega), up_ne (by omega), up_ne (by omega), ← q]
                    rw [hs6 6 (by decide), hs5 6 (by decide), hS4 6 (by decide)]⟩⟩) (by omega)
      obtain ⟨c1, c2, c3, c4, c5, c6⟩ := co2_0 h89
      have hg8 : gte (8 ≤ n) (flR t L m 4 (ckR t L m 0 (Dc 0 - 1) Rc)) (ckR t L m 0 (Dc 0 - 1) Rc) = Rc := by rw [gte_f (by omega), ckR_y c2 (by omega)]
      rw [hg8] at hR4
      have x1 := (rd_v hR4 c2).1
      have y1 := hz6 h89
      have hd6 : okD τ6 41 := by
        have a1 := hS6 41 (by decide)
        have a2 := hS6 42 (by decide)
        unfold okD at hd ⊢
        show cB 10 (τ6 41 0) ∧ cB 10 (τ6 41 1) ∧ cB 1 (τ6 41 2) ∧ cB 12 (τ6 41 3) ∧ cB 8 (τ6 41 6) ∧ iR (τ6 41 7) ∧ ∀ j, 0 ≤ j → j < 8 → lR (τ6 42 j)
        rw [a1, a2]
        exact hd
      have hpl : plG (τ6 41 0) (τ6 41 1) (τ4 1 5) z6 = 10 * nQ t L m (co1 t L m n Rc Dc).2 + nQ t L m Rc.2 := by
        rw [plG_in, y1, x1]
        have b0 : τ6 41 0 = Dc 0 := by rw [hS6 41 (by decide), e0, d0]
        have b1 : τ6 41 1 = Dc 1 := by rw [hS6 41 (by decide), e1, d1]
        rw [b0, b1, y1, x1]
        omega
      refine r_aload_n (dc dkX1_readCorners 52 rfl) rfl (np 93 rfl ?_)
      refine r_iload_n (dc dkX1_readCorners 53 rfl) rfl (np 94 rfl ?_)
      refine r_aload_n (dc dkX1_readCorners 54 rfl) rfl (np 95 rfl ?_)
      refine r_iload (dc dkX1_readCorners 55 rfl) rfl (np 97 rfl ?_)
      refine r_i2l (dc dkX1_readCorners 56 rfl) (by first | assumption | decide | omega) (np 98 rfl ?_)
      refine r_iload (dc dkX1_readCorners 57 rfl) rfl (np 100 rfl ?_)
      refine r_i2l (dc dkX1_readCorners 58 rfl) (by first | assumption | decide | omega) (np 101 rfl ?_)
      refine r_pV2 (y' := miX1_place) (dc dkX1_readCorners 59 rfl) mlX1_138 ceX1_place ob_41 (Nat.le_of_ble_eq_true rfl) (Nat.le_of_ble_eq_true rfl) (c_X1_place isBoard_at41 hd6 (by omega) (by omega)) (np 104 rfl ?_)
      refine r_iast (dc dkX1_readCorners 60 rfl) ar_6 (by omega) (np 105 rfl ?_)
      refine r_iinc (lv' := [(3, _), (6, _), (5, _), (0, _), (1, _), (2, _), (4, _)]) (dc dkX1_readCorners 61 rfl) (Nat.le_of_ble_eq_true rfl) rfl rfl (np 108 rfl ?_)
      refine r_iinc (lv' := [(4, _), (3, _), (6, _), (5, _), (0, _), (1, _), (2, _)]) (dc dkX1_readCorners 62 rfl) (Nat.le_of_ble_eq_true rfl) rfl rfl (np 111 rfl ?_)
      refine r_goto (tgt := 5) (dc dkX1_readCorners 63 rfl) rfl ?_
      refine r_pick [4, 5, 6, 1, 0] rfl ?_
      exact ih5 _ _ _ (by
            first
            | exact ⟨by omega, hS6, co2 t L m n Rc Dc, Dc, hR6, by rw [hF, hK, coF, gte_f hno, gte_f h89, coF_e h89], hDc, fun z => absurd z h89⟩
            | exact ⟨by omega, hS6.put (by decide), co2 t L m n Rc Dc, coD t L m a n Rc Dc, rd_ju hR6 (by decide), by rw [hF, hK, coF, gte_f hno, gte_t h89, show (9 - (n + 1)).toNat = (8 - n).toNat by omega], fun j hj => by unfold coD; rw [up_ne (by omega), up_ne (by omega), up_ne (by omega)]; exact hDc j hj, fun z => ⟨by omega, fun j j0 j1 => by
                by_cases hj : j = n
                · subst hj
                  unfold coD
                  rw [ju_at, up_ne (by omega), up_at, up_ne (by omega), up_ne (by omega), up_at]
                  exact hpl
                · have q := (hI hf).2 j j0 (by omega)
                  unfold coD
                  rw [ju_ne (by omega), up_ne (by omega), up_ne (by omega), up_ne (by omega), up_ne (by omega), up_ne (by omega), up_ne (by omega), ← q]
                  rw [hs6 6 (by decide), hs5 6 (by decide), hS4 6 (by decide)]⟩⟩) (by omega)
    refine r_iconst (dc dkX1_readCorners 20 rfl) (np 36 rfl ?_)
    refine r_aload_n (dc dkX1_readCorners 21 rfl) rfl (np 37 rfl ?_)
    refine r_gI 0 (dc dkX1_readCorners 22 rfl) flX1_9 fd_41_0 rfl (np 40 rfl ?_)
    refine r_iconst (dc dkX1_readCorners 23 rfl) (np 41 rfl ?_)
    refine r_isub (dc dkX1_readCorners 24 rfl) (np 42 rfl ?_)
    refine r_cV2 (y' := miX8_checkNumber) (dc dkX1_readCorners 25 rfl) mlX1_127 ceX8_checkNumber ob_1 (Nat.le_of_ble_eq_true rfl) (Nat.le_of_ble_eq_true rfl) (c_X8_checkNumber hRc (by decide) (by rw [f0]; omega)) (fun r τ3 hp3 => (np 45 rfl ?_))
    obtain ⟨rfl, hs3, hR3⟩ := hp3
    rw [f0] at hR3
    refine r_iload_n (dc dkX1_readCorners 26 rfl) rfl (np 46 rfl ?_)
    refine r_bipush (dc dkX1_readCorners 27 rfl) bp_8 (np 48 rfl ?_)
    refine r_icmp_ge (tgt := 57) (dc dkX1_readCorners 28 rfl) rfl (by first | assumption | decide | omega) (by first | assumption | decide | omega) (fun h48 => ?_) (fun h48 => (np 51 rfl ?_))
    · skip
      refine r_aload_n (dc dkX1_readCorners 33 rfl) rfl (np 58 rfl ?_)
      refine r_iconst (dc dkX1_readCorners 34 rfl) (np 59 rfl ?_)
      refine r_cV1 (y' := miX8_fail) (dc dkX1_readCorners 35 rfl) mlX1_113 ceX8_fail ob_1 (Nat.le_of_ble_eq_true rfl) (Nat.le_of_ble_eq_true rfl) (c_X8_fail hR3 (by decide)) (fun r τ4 hp4 => (np 62 rfl ?_))
      obtain ⟨rfl, hs4, hR4⟩ := hp4
      refine r_pick [0, 1, 2, 3, 4] rfl ?_
      exact jj62 _ (by first | exact ⟨hs3.tr hs4, by rw [gte_t (by omega)]; exact hR4⟩ | exact ⟨hs3, by rw [gte_f (by omega)]; exact hR3⟩)
    refine r_iload_n (dc dkX1_readCorners 29 rfl) rfl (np 52 rfl ?_)
    refine r_aload_n (dc dkX1_readCorners 30 rfl) rfl (np 53 rfl ?_)
    refine r_alen (dc dkX1_readCorners 31 rfl) ar_6 (Nat.le_of_ble_eq_true rfl) (np 54 rfl ?_)
    refine r_icmp_lt (tgt := 62) (dc dkX1_readCorners 32 rfl) rfl (by first | assumption | decide | omega) (by first | assumption | decide | omega) (fun h54 => ?_) (fun h54 => (np 57 rfl ?_))
    · skip
      refine r_pick [0, 1, 2, 3, 4] rfl ?_
      exact jj62 _ (by first | exact ⟨hs3.tr hs4, by rw [gte_t (by omega)]; exact hR4⟩ | exact ⟨hs3, by rw [gte_f (by omega)]; exact hR3⟩)
    refine r_aload_n (dc dkX1_readCorners 33 rfl) rfl (np 58 rfl ?_)
    refine r_iconst (dc dkX1_readCorners 34 rfl) (np 59 rfl ?_)
    refine r_cV1 (y' := miX8_fail) (dc dkX1_readCorners 35 rfl) mlX1_113 ceX8_fail ob_1 (Nat.le_of_ble_eq_true rfl) (Nat.le_of_ble_eq_true rfl) (c_X8_fail hR3 (by decide)) (fun r τ4 hp4 => (np 62 rfl ?_))
    obtain ⟨rfl, hs4, hR4⟩ := hp4
    refine r_pick [0, 1, 2, 3, 4] rfl ?_
    exact jj62 _ (by first | exact ⟨hs3.tr hs4, by rw [gte_t (by omega)]; exact hR4⟩ | exact ⟨hs3, by rw [gte_f (by omega)]; exact hR3⟩)
  refine r_iload_n (dc dkX1_readCorners 17 rfl) rfl (np 33 rfl ?_)
  exact r_iret (dc dkX1_readCorners 18 rfl) rfl ⟨n, rfl, hS, by rw [hF, hK, coF, gte_t (Or.inr ⟨by omega, by omega⟩)]; exact hRc, fun _ => by rw [hF, hK, coF, gte_t (Or.inr ⟨by omega, by omega⟩)]; exact ⟨rfl, (hI hf).2⟩⟩
