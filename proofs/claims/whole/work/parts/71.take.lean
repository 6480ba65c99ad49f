/-- the calls of a band, forward (z = 0) or back -/
def tkF (a : Int → Int) (P : Int → Int) (n z i : Int) : Int := if z = 0 then a (P (i + 1)) - a (P i) else a (P (n - i - 1)) - a (P (n - i))
def tkX (P : Int → Int) (n z i : Int) : Int := tkF (fun p => p % 10) P n z i
def tkY (P : Int → Int) (n z i : Int) : Int := tkF (fun p => p / 10) P n z i
noncomputable def sgX (f g : Int → Int) (n : Int) : Int := smI (fun i => bI (f i < 0) + bI (g i < 0)) n
/-- calls are taken from a band -/
def TK (σ τ : jS) (b z : Int) : Prop := same [47, 48, 49] σ τ ∧ τ 47 0 = σ 32 b ∧ τ 47 1 = bAt σ 30 b 0 % 10 ∧ τ 47 2 = bAt σ 30 b 0 / 10 ∧ ∀ i, 0 ≤ i → i < σ 32 b → τ 48 i = tkX (bAt σ 30 b) (σ 32 b) z i ∧ τ 49 i = tkY (bAt σ 30 b) (σ 32 b) z i
theorem TK_9 {σ τ : jS} {b z : Int} (hB : okB σ 30) (h0 : 0 ≤ b) (h1 : b < 8) (hn : 3 ≤ σ 32 b) (h : TK σ τ b z) : cB 8 (τ 47 0) ∧ (cB 9 (τ 47 1) ∧ cB 9 (τ 47 2)) ∧ ∀ i, 0 ≤ i → i < τ 47 0 → (-9 ≤ τ 48 i ∧ τ 48 i ≤ 9) ∧ (-9 ≤ τ 49 i ∧ τ 49 i ≤ 9) := by
  have s8 : σ 32 b ≤ 8 := (hB.2.1 b h0 h1).2
  have pg : ∀ i, 0 ≤ i → 0 ≤ bAt σ 30 b i ∧ bAt σ 30 b i ≤ 99 := fun i i0 => bAt_p hB h0 h1 (show 0 < σ 32 b by omega) i0
  obtain ⟨_, e0, e1, e2, e3⟩ := h
  have p0 := pg 0 (by decide)
  refine ⟨by omega, ⟨by omega, by omega⟩, fun i i0 i1 => ?_⟩
  rw [e0] at i1
  have g := e3 i i0 i1
  have q1 := pg (i + 1) (by omega)
  have q2 := pg i (by omega)
  have q3 := pg (σ 32 b - i - 1) (by omega)
  have q4 := pg (σ 32 b - i) (by omega)
  rw [g.1, g.2]
  unfold tkX tkY tkF
  dsimp only
  split <;> omega
theorem sgX_c {f g f' g' : Int → Int} {n : Int} (h : ∀ i, 0 ≤ i → i < n → f i = f' i ∧ g i = g' i) : sgX f g n = sgX f' g' n := by
  exact smI_congr (fun i i0 i1 => by rw [(h i i0 i1).1, (h i i0 i1).2])
set_option maxRecDepth 100000 in
set_option maxHeartbeats 4000000 in
theorem c_X3_take {σ : jS} (hB : okB σ 30) {b : Int} (h0 : 0 ≤ b) (h1 : b < 8) (hn : 3 ≤ σ 32 b) {z : Int} (hz : cB 1 z) : Jm 2 miX3_take [.ref 47, .ref 30, vI b, vI z] σ (fun r τ => r = none ∧ TK σ τ b z) := by
  have s8 : σ 32 b ≤ 8 := (hB.2.1 b h0 h1).2
  have pg : ∀ i, 0 ≤ i → 0 ≤ bAt σ 30 b i ∧ bAt σ 30 b i ≤ 99 := fun i i0 => bAt_p hB h0 h1 (show 0 < σ 32 b by omega) i0
  have pg0 := pg 0 (by decide)
  refine jm_ofF (Po := (fun r τ => r = none ∧ TK σ τ b z)) (plainFor_of_name (by decide)) (Nat.le_of_ble_eq_true rfl) (lv := [(0, _), (1, _), (2, _), (3, _)]) rfl ?_
  refine r_aload_n (dc dkX3_take 0 rfl) rfl (np 1 rfl ?_)
  refine r_aload_n (dc dkX3_take 1 rfl) rfl (np 2 rfl ?_)
  refine r_iload_n (dc dkX3_take 2 rfl) rfl (np 3 rfl ?_)
  refine r_pV1 (y' := miX0_sizeOf) (dc dkX3_take 3 rfl) mlX3_90 ceX0_sizeOf ob_30 (Nat.le_of_ble_eq_true rfl) (Nat.le_of_ble_eq_true rfl) (c_X0_sizeOf isBands_at30 h0 h1) (np 6 rfl ?_)
  refine r_bipush (dc dkX3_take 4 rfl) bp_8 (np 8 rfl ?_)
  show jR _ _ _ _ _ (vI 8 :: vI (σ 32 b) :: _) _
  refine r_pS2 (y' := miJ9_min_7cf53) (dc dkX3_take 5 rfl) mlX3_96 seJ9_min_7cf53 (Nat.le_of_ble_eq_true rfl) (Nat.le_of_ble_eq_true rfl) (c_J9_min_7cf53 (by omega) (by omega)) (np 11 rfl ?_)
  refine r_pI 0 (dc dkX3_take 6 rfl) fpX3_9 fd_47_0 rfl (np 14 rfl ?_)
  refine r_abs (fun ρ => same [47, 48, 49] σ ρ ∧ ρ 47 0 = σ 32 b) ⟨(same.refl [47, 48, 49] σ).put (by decide), by rw [ju_at]; omega⟩ ?_
  intro τ1 hq
  obtain ⟨S1, E1⟩ := hq
  have oB1 : okB τ1 30 := okB_t hB (S1 30 (by decide)) (S1 31 (by decide)) (S1 32 (by decide)) (S1 33 (by decide))
  have hz0 : 0 < τ1 32 b := by rw [S1 32 (by decide)]; omega
  have a1 : ∀ x y, bAt τ1 30 x y = bAt σ 30 x y := bAt_t (S1 32 (by decide)) (S1 33 (by decide))
  refine r_aload_n (dc dkX3_take 7 rfl) rfl (np 15 rfl ?_)
  refine r_aload_n (dc dkX3_take 8 rfl) rfl (np 16 rfl ?_)
  refine r_iload_n (dc dkX3_take 9 rfl) rfl (np 17 rfl ?_)
  refine r_iconst (dc dkX3_take 10 rfl) (np 18 rfl ?_)
  refine r_pV2 (y' := miX0_at) (dc dkX3_take 11 rfl) mlX3_101 ceX0_at ob_30 (Nat.le_of_ble_eq_true rfl) (Nat.le_of_ble_eq_true rfl) (c_X0_at isBands_at30 oB1 h0 h1 (by omega) hz0) (np 21 rfl ?_)
  refine r_eqI _ (a1 b 0) ?_
  refine r_bipush (dc dkX3_take 12 rfl) bp_10 (np 23 rfl ?_)
  refine r_iremn (dc dkX3_take 13 rfl) (by first | assumption | decide | omega) (by first | assumption | decide | omega) (np 24 rfl ?_)
  refine r_pI 1 (dc dkX3_take 14 rfl) fpX3_15 fd_47_1 rfl (np 27 rfl ?_)
  refine r_abs (fun ρ => same [47, 48, 49] σ ρ ∧ ρ 47 0 = σ 32 b ∧ ρ 47 1 = bAt σ 30 b 0 % 10) ⟨S1.put (by decide), by rw [ju_ne (by decide)]; exact E1, by rw [ju_at]⟩ ?_
  intro τ2 hq
  obtain ⟨S2, E2, E3⟩ := hq
  have oB2 : okB τ2 30 := okB_t hB (S2 30 (by decide)) (S2 31 (by decide)) (S2 32 (by decide)) (S2 33 (by decide))
  replace hz0 : 0 < τ2 32 b := by rw [S2 32 (by decide)]; omega
  have a2 : ∀ x y, bAt τ2 30 x y = bAt σ 30 x y := bAt_t (S2 32 (by decide)) (S2 33 (by decide))
  refine r_aload_n (dc dkX3_take 15 rfl) rfl (np 28 rfl ?_)
  refine r_aload_n (dc dkX3_take 16 rfl) rfl (np 29 rfl ?_)
  refine r_iload_n (dc dkX3_take 17 rfl) rfl (np 30 rfl ?_)
  refine r_iconst (dc dkX3_take 18 rfl) (np 31 rfl ?_)
  refine r_pV2 (y' := miX0_at) (dc dkX3_take 19 rfl) mlX3_101 ceX0_at ob_30 (Nat.le_of_ble_eq_true rfl) (Nat.le_of_ble_eq_true rfl) (c_X0_at isBands_at30 oB2 h0 h1 (by omega) hz0) (np 34 rfl ?_)
  refine r_eqI _ (a2 b 0) ?_
  refine r_bipush (dc dkX3_take 20 rfl) bp_10 (np 36 rfl ?_)
  refine r_idivn (dc dkX3_take 21 rfl) (by first | assumption | decide | omega) (by first | assumption | decide | omega) (np 37 rfl ?_)
  refine r_pI 2 (dc dkX3_take 22 rfl) fpX3_18 fd_47_2 rfl (np 40 rfl ?_)
  refine r_iconst (dc dkX3_take 23 rfl) (np 41 rfl ?_)
  refine r_istore (lv' := [(4, _), (0, _), (1, _), (2, _), (3, _)]) (dc dkX3_take 24 rfl) (Nat.le_of_ble_eq_true rfl) rfl (np 43 rfl ?_)
  refine r_pick [1, 2, 3, 4, 0] (lv' := [(0, _), (1, _), (2, _), (3, _), (4, _)]) rfl ?_
  refine jlp2 (P := fun (i : Int) (τ : jS) => jR _ _ _ 43 [(0, .ref 47), (1, .ref 30), (2, vI b), (3, vI z), (4, vI i)] [] τ) (I := fun (i : Int) (τ : jS) => (0 ≤ i ∧ i ≤ σ 32 b) ∧ same [47, 48, 49] σ τ ∧ τ 47 0 = σ 32 b ∧ τ 47 1 = bAt σ 30 b 0 % 10 ∧ τ 47 2 = bAt σ 30 b 0 / 10 ∧ ∀ j, 0 ≤ j → j < i → τ 48 j = tkX (bAt σ 30 b) (σ 32 b) z j ∧ τ 49 j = tkY (bAt σ 30 b) (σ 32 b) z j) (fun (i : Int) (τ : jS) => (σ 32 b - i).toNat) ?_ _ _ ⟨by omega, S2.put (by decide), by rw [ju_ne (by decide)]; exact E2, by rw [ju_ne (by decide)]; exact E3, by rw [ju_at], fun _ _ _ => by omega⟩
  intro i τ hI43 ih43
  have S3 := hI43.2.1
  have m3 := hI43.2.2.1
  have oB3 : okB τ 30 := okB_t hB (S3 30 (by decide)) (S3 31 (by decide)) (S3 32 (by decide)) (S3 33 (by decide))
  replace hz0 : 0 < τ 32 b := by rw [S3 32 (by decide)]; omega
  have a3 : ∀ x y, bAt τ 30 x y = bAt σ 30 x y := bAt_t (S3 32 (by decide)) (S3 33 (by decide))
  refine r_iload (dc dkX3_take 25 rfl) rfl (np 45 rfl ?_)
  refine r_aload_n (dc dkX3_take 26 rfl) rfl (np 46 rfl ?_)
  refine r_gI 0 (dc dkX3_take 27 rfl) flX3_9 fd_47_0 rfl (np 49 rfl ?_)
  refine r_icmp_ge (tgt := 144) (dc dkX3_take 28 rfl) rfl (by first | assumption | decide | omega) (by first | assumption | decide | omega) (fun h49 => ?_) (fun h49 => (np 52 rfl ?_))
  · skip
    exact r_vret (dc dkX3_take 81 rfl) rfl ⟨rfl, hI43.2.1, hI43.2.2.1, hI43.2.2.2.1, hI43.2.2.2.2.1, fun j j0 j1 => hI43.2.2.2.2.2 j j0 (by omega)⟩
  have jj70 : ∀ g : Int, (g = if z = 0 then i else σ 32 b - i) → jR 2 miX3_take (fun r τ => r = none ∧ TK σ τ b z) 70 [(0, .ref 47), (1, .ref 30), (2, vI b), (3, vI z), (4, vI i)] [vI g, vI b, .ref 30] τ := by
    intro g hg
    refine r_pV2 (y' := miX0_at) (dc dkX3_take 39 rfl) mlX3_101 ceX0_at ob_30 (Nat.le_of_ble_eq_true rfl) (Nat.le_of_ble_eq_true rfl) (c_X0_at isBands_at30 oB3 h0 h1 (by subst hg; split <;> omega) hz0) (np 73 rfl ?_)
    refine r_eqI _ (a3 b g) ?_
    refine r_istore (lv' := [(5, _), (0, _), (1, _), (2, _), (3, _), (4, _)]) (dc dkX3_take 40 rfl) (Nat.le_of_ble_eq_true rfl) rfl (np 75 rfl ?_)
    have jj97 : ∀ g2 : Int, (g2 = if z = 0 then i + 1 else σ 32 b - i - 1) → jR 2 miX3_take (fun r τ => r = none ∧ TK σ τ b z) 97 [(0, .ref 47), (1, .ref 30), (2, vI b), (3, vI z), (4, vI i), (5, vI (bAt σ 30 b g))] [vI g2, vI b, .ref 30] τ := by
      intro g2 hg2
      refine r_pV2 (y' := miX0_at) (dc dkX3_take 55 rfl) mlX3_101 ceX0_at ob_30 (Nat.le_of_ble_eq_true rfl) (Nat.le_of_ble_eq_true rfl) (c_X0_at isBands_at30 oB3 h0 h1 (by subst hg2; split <;> omega) hz0) (np 100 rfl ?_)
      refine r_eqI _ (a3 b g2) ?_
      refine r_istore (lv' := [(6, _), (0, _), (1, _), (2, _), (3, _), (4, _), (5, _)]) (dc dkX3_take 56 rfl) (Nat.le_of_ble_eq_true rfl) rfl (np 102 rfl ?_)
      have pgg := pg g (by subst hg; split <;> omega)
      have pgg2 := pg g2 (by subst hg2; split <;> omega)
      refine r_aload_n (dc dkX3_take 57 rfl) rfl (np 103 rfl ?_)
      refine r_getR (dc dkX3_take 58 rfl) flX3_21 fd_47_3 (np 106 rfl ?_)
      refine r_iload (dc dkX3_take 59 rfl) rfl (np 108 rfl ?_)
      refine r_iload (dc dkX3_take 60 rfl) rfl (np 110 rfl ?_)
      refine r_bipush (dc dkX3_take 61 rfl) bp_10 (np 112 rfl ?_)
      refine r_iremn (dc dkX3_take 62 rfl) (by first | assumption | decide | omega) (by first | assumption | decide | omega) (np 113 rfl ?_)
      refine r_iload (dc dkX3_take 63 rfl) rfl (np 115 rfl ?_)
      refine r_bipush (dc dkX3_take 64 rfl) bp_10 (np 117 rfl ?_)
      refine r_iremn (dc dkX3_take 65 rfl) (by first | assumption | decide | omega) (by first | assumption | decide | omega) (np 118 rfl ?_)
      refine r_isub (dc dkX3_take 66 rfl) (np 119 rfl ?_)
      refine r_iast (dc dkX3_take 67 rfl) ar_48 (by omega) (np 120 rfl ?_)
      refine r_aload_n (dc dkX3_take 68 rfl) rfl (np 121 rfl ?_)
      refine r_getR (dc dkX3_take 69 rfl) flX3_25 fd_47_4 (np 124 rfl ?_)
      refine r_iload (dc dkX3_take 70 rfl) rfl (np 126 rfl ?_)
      refine r_iload (dc dkX3_take 71 rfl) rfl (np 128 rfl ?_)
      refine r_bipush (dc dkX3_take 72 rfl) bp_10 (np 130 rfl ?_)
      refine r_idivn (dc dkX3_take 73 rfl) (by first | assumption | decide | omega) (by first | assumption | decide | omega) (np 131 rfl ?_)
      refine r_iload (dc dkX3_take 74 rfl) rfl (np 133 rfl ?_)
      refine r_bipush (dc dkX3_take 75 rfl) bp_10 (np 135 rfl ?_)
      refine r_idivn (dc dkX3_take 76 rfl) (by first | assumption | decide | omega) (by first | assumption | decide | omega) (np 136 rfl ?_)
      refine r_isub (dc dkX3_take 77 rfl) (np 137 rfl ?_)
      refine r_iast (dc dkX3_take 78 rfl) ar_49 (by omega) (np 138 rfl ?_)
      refine r_iinc (lv' := [(4, _), (6, _), (0, _), (1, _), (2, _), (3, _), (5, _)]) (dc dkX3_take 79 rfl) (Nat.le_of_ble_eq_true rfl) rfl rfl (np 141 rfl ?_)
      refine r_goto (tgt := 43) (dc dkX3_take 80 rfl) rfl ?_
      refine r_pick [2, 3, 4, 5, 0] rfl ?_
      exact ih43 _ _ (by
            obtain ⟨_, _, J2, J3, J4, J5⟩ := hI43
            refine ⟨by omega, (S3.put (by decide)).put (by decide), ?_, ?_, ?_, fun j j0 j1 => ?_⟩
            · rw [ju_off _ _ _ _ _ (by decide), ju_off _ _ _ _ _ (by decide)]; exact J2
            · rw [ju_off _ _ _ _ _ (by decide), ju_off _ _ _ _ _ (by decide)]; exact J3
            · rw [ju_off _ _ _ _ _ (by decide), ju_off _ _ _ _ _ (by decide)]; exact J4
            · by_cases hj : j = i
              · subst hj
                rw [ju_off _ _ _ _ _ (by decide), ju_at, ju_at, hg, hg2]
                unfold tkX tkY tkF
                by_cases q : z = 0
                · rw [if_pos q, if_pos q, if_pos q, if_pos q]; exact ⟨rfl, rfl⟩
                · rw [if_neg q, if_neg q, if_neg q, if_neg q]; exact ⟨rfl, rfl⟩
              · rw [ju_off _ _ _ _ _ (by decide), ju_ne (by omega), ju_ne (by omega), ju_off _ _ _ _ _ (by decide)]; exact J5 j j0 (by omega)) (by omega)
    refine r_aload_n (dc dkX3_take 41 rfl) rfl (np 76 rfl ?_)
    refine r_iload_n (dc dkX3_take 42 rfl) rfl (np 77 rfl ?_)
    refine r_iload_n (dc dkX3_take 43 rfl) rfl (np 78 rfl ?_)
    refine r_if_eq (tgt := 93) (dc dkX3_take 44 rfl) rfl (by first | assumption | decide | omega) (fun h78 => ?_) (fun h78 => (np 81 rfl ?_))
    · skip
      refine r_iload (dc dkX3_take 52 rfl) rfl (np 95 rfl ?_)
      refine r_iconst (dc dkX3_take 53 rfl) (np 96 rfl ?_)
      refine r_iadd (dc dkX3_take 54 rfl) (np 97 rfl ?_)
      refine r_pick [1, 2, 3, 4, 5, 0] rfl ?_
      exact jj97 _ (by first | (rw [if_pos (by omega)]; done) | (rw [if_neg (by omega), m3]; done))
    refine r_aload_n (dc dkX3_take 45 rfl) rfl (np 82 rfl ?_)
    refine r_gI 0 (dc dkX3_take 46 rfl) flX3_9 fd_47_0 rfl (np 85 rfl ?_)
    refine r_iload (dc dkX3_take 47 rfl) rfl (np 87 rfl ?_)
    refine r_isub (dc dkX3_take 48 rfl) (np 88 rfl ?_)
    refine r_iconst (dc dkX3_take 49 rfl) (np 89 rfl ?_)
    refine r_isub (dc dkX3_take 50 rfl) (np 90 rfl ?_)
    refine r_goto (tgt := 97) (dc dkX3_take 51 rfl) rfl ?_
    refine r_pick [1, 2, 3, 4, 5, 0] rfl ?_
    exact jj97 _ (by first | (rw [if_pos (by omega)]; done) | (rw [if_neg (by omega), m3]; done))
  have pi1 := pg i (by omega)
  have pi2 := pg (i + 1) (by omega)
  have pi3 := pg (σ 32 b - i) (by omega)
  have pi4 := pg (σ 32 b - i - 1) (by omega)
  refine r_aload_n (dc dkX3_take 29 rfl) rfl (np 53 rfl ?_)
  refine r_iload_n (dc dkX3_take 30 rfl) rfl (np 54 rfl ?_)
  refine r_iload_n (dc dkX3_take 31 rfl) rfl (np 55 rfl ?_)
  refine r_if_eq (tgt := 68) (dc dkX3_take 32 rfl) rfl (by first | assumption | decide | omega) (fun h55 => ?_) (fun h55 => (np 58 rfl ?_))
  · skip
    refine r_iload (dc dkX3_take 38 rfl) rfl (np 70 rfl ?_)
    refine r_pick [0, 1, 2, 3, 4] rfl ?_
    exact jj70 _ (by first | (rw [if_pos (by omega)]; done) | (rw [if_neg (by omega), m3]; done))
  refine r_aload_n (dc dkX3_take 33 rfl) rfl (np 59 rfl ?_)
  refine r_gI 0 (dc dkX3_take 34 rfl) flX3_9 fd_47_0 rfl (np 62 rfl ?_)
  refine r_iload (dc dkX3_take 35 rfl) rfl (np 64 rfl ?_)
  refine r_isub (dc dkX3_take 36 rfl) (np 65 rfl ?_)
  refine r_goto (tgt := 70) (dc dkX3_take 37 rfl) rfl ?_
  refine r_pick [0, 1, 2, 3, 4] rfl ?_
  exact jj70 _ (by first | (rw [if_pos (by omega)]; done) | (rw [if_neg (by omega), m3]; done))
set_option maxRecDepth 100000 in
set_option maxHeartbeats 4000000 in
theorem c_X3_signs {σ : jS} (h8 : cB 8 (σ 47 0)) (hb9 : ∀ i, 0 ≤ i → i < σ 47 0 → (-9 ≤ σ 48 i ∧ σ 48 i ≤ 9) ∧ (-9 ≤ σ 49 i ∧ σ 49 i ≤ 9)) : Jp 1 miX3_signs [.ref 47] σ (vI (sgX (σ 48) (σ 49) (σ 47 0))) := by
  refine jm_ofF (Po := (jP (vI (sgX (σ 48) (σ 49) (σ 47 0))) σ)) (plainFor_of_name (by decide)) (Nat.le_of_ble_eq_true rfl) (lv := [(0, _)]) rfl ?_
  refine r_iconst (dc dkX3_signs 0 rfl) (np 1 rfl ?_)
  refine r_istore_n (lv' := [(1, _), (0, _)]) (dc dkX3_signs 1 rfl) (Nat.le_of_ble_eq_true rfl) rfl (np 2 rfl ?_)
  refine r_iconst (dc dkX3_signs 2 rfl) (np 3 rfl ?_)
  refine r_istore_n (lv' := [(2, _), (1, _), (0, _)]) (dc dkX3_signs 3 rfl) (Nat.le_of_ble_eq_true rfl) rfl (np 4 rfl ?_)
  refine r_pick [2, 1, 0] (lv' := [(0, _), (1, _), (2, _)]) rfl ?_
  refine jlp2 (P := fun (s : Int) (i : Int) => jR _ _ _ 4 [(0, .ref 47), (1, vI s), (2, vI i)] [] σ) (I := fun (s : Int) (i : Int) => (0 ≤ i ∧ i ≤ σ 47 0) ∧ s = sgX (σ 48) (σ 49) i) (fun (s : Int) (i : Int) => (σ 47 0 - i).toNat) ?_ _ _ ⟨by omega, rfl⟩
  intro s i hI4 ih4
  refine r_iload_n (dc dkX3_signs 4 rfl) rfl (np 5 rfl ?_)
  refine r_aload_n (dc dkX3_signs 5 rfl) rfl (np 6 rfl ?_)
  refine r_gI 0 (dc dkX3_signs 6 rfl) flX3_9 fd_47_0 rfl (np 9 rfl ?_)
  refine r_icmp_ge (tgt := 56) (dc dkX3_signs 7 rfl) rfl (by first | assumption | decide | omega) (by first | assumption | decide | omega) (fun h9 => ?_) (fun h9 => (np 12 rfl ?_))
  · skip
    refine r_iload_n (dc dkX3_signs 33 rfl) rfl (np 57 rfl ?_)
    exact r_iret (dc dkX3_signs 34 rfl) rfl ⟨congrArg (fun z => some (vI z)) (by rw [hI4.2, show i = σ 47 0 by omega]), rfl⟩
  refine r_iload_n (dc dkX3_signs 8 rfl) rfl (np 13 rfl ?_)
  refine r_bipush (dc dkX3_signs 9 rfl) bp_8 (np 15 rfl ?_)
  refine r_icmp_ge (tgt := 56) (dc dkX3_signs 10 rfl) rfl (by first | assumption | decide | omega) (by first | assumption | decide | omega) (fun h15 => ?_) (fun h15 => (np 18 rfl ?_))
  · skip
    refine r_iload_n (dc dkX3_signs 33 rfl) rfl (np 57 rfl ?_)
    exact r_iret (dc dkX3_signs 34 rfl) rfl ⟨congrArg (fun z => some (vI z)) (by rw [hI4.2, show i = σ 47 0 by omega]), rfl⟩
  have jj33 : ∀ g : Int, (g = bI (σ 48 i < 0)) → jR 1 miX3_signs (jP (vI (sgX (σ 48) (σ 49) (σ 47 0))) σ) 33 [(0, .ref 47), (2, vI i)] [vI g, vI s] σ := by
    intro g hg
    have jj47 : ∀ g2 : Int, (g2 = bI (σ 49 i < 0)) → jR 1 miX3_signs (jP (vI (sgX (σ 48) (σ 49) (σ 47 0))) σ) 47 [(0, .ref 47), (2, vI i)] [vI g2, vI g, vI s] σ := by
      intro g2 hg2
      refine r_iadd (dc dkX3_signs 28 rfl) (np 48 rfl ?_)
      refine r_iadd (dc dkX3_signs 29 rfl) (np 49 rfl ?_)
      refine r_istore_n (lv' := [(1, _), (0, _), (2, _)]) (dc dkX3_signs 30 rfl) (Nat.le_of_ble_eq_true rfl) rfl (np 50 rfl ?_)
      refine r_iinc (lv' := [(2, _), (1, _), (0, _)]) (dc dkX3_signs 31 rfl) (Nat.le_of_ble_eq_true rfl) rfl rfl (np 53 rfl ?_)
      refine r_goto (tgt := 4) (dc dkX3_signs 32 rfl) rfl ?_
      refine r_pick [2, 1, 0] rfl ?_
      exact ih4 _ _ ⟨by omega, by unfold sgX; rw [smI_s _ (by omega), hI4.2, hg, hg2]; rfl⟩ (by omega)
    have bb := hb9 i (by omega) (by omega)
    refine r_aload_n (dc dkX3_signs 20 rfl) rfl (np 34 rfl ?_)
    refine r_getR (dc dkX3_signs 21 rfl) flX3_25 fd_47_4 (np 37 rfl ?_)
    refine r_iload_n (dc dkX3_signs 22 rfl) rfl (np 38 rfl ?_)
    refine r_iald (dc dkX3_signs 23 rfl) ar_49 (by omega) (np 39 rfl ?_)
    refine r_if_ge (tgt := 46) (dc dkX3_signs 24 rfl) rfl (by first | assumption | decide | omega) (fun h39 => ?_) (fun h39 => (np 42 rfl ?_))
    · skip
      refine r_iconst (dc dkX3_signs 27 rfl) (np 47 rfl ?_)
      refine r_pick [0, 1] rfl ?_
      exact jj47 _ (by first | (rw [bI_t (by omega)]; done) | (rw [bI_f (by omega)]; done))
    refine r_iconst (dc dkX3_signs 25 rfl) (np 43 rfl ?_)
    refine r_goto (tgt := 47) (dc dkX3_signs 26 rfl) rfl ?_
    refine r_pick [0, 1] rfl ?_
    exact jj47 _ (by first | (rw [bI_t (by omega)]; done) | (rw [bI_f (by omega)]; done))
  have bb := hb9 i (by omega) (by omega)
  refine r_iload_n (dc dkX3_signs 11 rfl) rfl (np 19 rfl ?_)
  refine r_aload_n (dc dkX3_signs 12 rfl) rfl (np 20 rfl ?_)
  refine r_getR (dc dkX3_signs 13 rfl) flX3_21 fd_47_3 (np 23 rfl ?_)
  refine r_iload_n (dc dkX3_signs 14 rfl) rfl (np 24 rfl ?_)
  refine r_iald (dc dkX3_signs 15 rfl) ar_48 (by omega) (np 25 rfl ?_)
  refine r_if_ge (tgt := 32) (dc dkX3_signs 16 rfl) rfl (by first | assumption | decide | omega) (fun h25 => ?_) (fun h25 => (np 28 rfl ?_))
  · skip
    refine r_iconst (dc dkX3_signs 19 rfl) (np 33 rfl ?_)
    refine r_pick [0, 2] rfl ?_
    exact jj33 _ (by first | (rw [bI_t (by omega)]; done) | (rw [bI_f (by omega)]; done))
  refine r_iconst (dc dkX3_signs 17 rfl) (np 29 rfl ?_)
  refine r_goto (tgt := 33) (dc dkX3_signs 18 rfl) rfl ?_
  refine r_pick [0, 2] rfl ?_
  exact jj33 _ (by first | (rw [bI_t (by omega)]; done) | (rw [bI_f (by omega)]; done))
theorem TK_m {σ ρ τ : jS} {b z : Int} (s : same [47, 48, 49] σ ρ) (h : TK ρ τ b z) : TK σ τ b z := by
  obtain ⟨h1, h2, h3, h4, h5⟩ := h
  have e2 : ρ 32 = σ 32 := s 32 (by decide)
  have ea : bAt ρ 30 = bAt σ 30 := by funext x y; exact bAt_t e2 (s 33 (by decide)) x y
  rw [e2, ea] at h5
  rw [e2] at h2
  rw [ea] at h3 h4
  exact ⟨s.tr h1, h2, h3, h4, h5⟩
theorem byT_c {f g f' g' : Int → Int} : ∀ k : Nat, (∀ i : Int, 0 ≤ i → i < k → f i = f' i ∧ g i = g' i) → byT f g k = byT f' g' k
  | 0, _ => rfl
  | k + 1, h => by rw [byT, byT, byT_c k (fun i i0 i1 => h i i0 (by omega)), (h k (by omega) (by omega)).1, (h k (by omega) (by omega)).2]
theorem sgX_b {f g : Int → Int} {n : Int} (hn : cB 8 n) : cB 16 (sgX f g n) := by
  have := smI_nn (f := fun i => bI (f i < 0) + bI (g i < 0)) (A := 2) hn.1 (fun i i0 i1 => by have := bI_b (f i < 0); have := bI_b (g i < 0); omega)
  unfold sgX
  omega
set_option maxRecDepth 100000 in
set_option maxHeartbeats 4000000 in
theorem c_X3_takeShortest {σ : jS} (hB : okB σ 30) {b : Int} (h0 : 0 ≤ b) (h1 : b < 8) (hn : 3 ≤ σ 32 b) : Jm 3 miX3_takeShortest [.ref 47, .ref 30, vI b] σ (fun r τ => r = none ∧ TK σ τ b (if sgX (tkX (bAt σ 30 b) (σ 32 b) 0) (tkY (bAt σ 30 b) (σ 32 b) 0) (σ 32 b) ≤ sgX (tkX (bAt σ 30 b) (σ 32 b) 1) (tkY (bAt σ 30 b) (σ 32 b) 1) (σ 32 b) then 0 else 1)) := by
  have n_ := hn
  have s8 : σ 32 b ≤ 8 := (hB.2.1 b h0 h1).2
  have v0 := sgX_b (f := (tkX (bAt σ 30 b) (σ 32 b) 0)) (g := (tkY (bAt σ 30 b) (σ 32 b) 0)) (n := σ 32 b) (by omega)
  have v1 := sgX_b (f := (tkX (bAt σ 30 b) (σ 32 b) 1)) (g := (tkY (bAt σ 30 b) (σ 32 b) 1)) (n := σ 32 b) (by omega)
  refine jm_ofF (Po := (fun r τ => r = none ∧ TK σ τ b (if sgX (tkX (bAt σ 30 b) (σ 32 b) 0) (tkY (bAt σ 30 b) (σ 32 b) 0) (σ 32 b) ≤ sgX (tkX (bAt σ 30 b) (σ 32 b) 1) (tkY (bAt σ 30 b) (σ 32 b) 1) (σ 32 b) then 0 else 1))) (plainFor_of_name (by decide)) (Nat.le_of_ble_eq_true rfl) (lv := [(0, _), (1, _), (2, _)]) rfl ?_
  refine r_aload_n (dc dkX3_takeShortest 0 rfl) rfl (np 1 rfl ?_)
  refine r_aload_n (dc dkX3_takeShortest 1 rfl) rfl (np 2 rfl ?_)
  refine r_iload_n (dc dkX3_takeShortest 2 rfl) rfl (np 3 rfl ?_)
  refine r_iconst (dc dkX3_takeShortest 3 rfl) (np 4 rfl ?_)
  refine r_cV3 (y' := miX3_take) (dc dkX3_takeShortest 4 rfl) mlX3_83 ceX3_take ob_47 (Nat.le_of_ble_eq_true rfl) (Nat.le_of_ble_eq_true rfl) (c_X3_take hB h0 h1 hn (by decide)) (fun r τ2 hp2 => (np 7 rfl ?_))
  obtain ⟨rfl, K2⟩ := hp2
  replace K2 : TK σ τ2 b 0 := K2
  have S2 := K2.1
  obtain ⟨c2, a2, d2⟩ := TK_9 hB h0 h1 hn K2
  have oB2 : okB τ2 30 := okB_t hB (S2 30 (by decide)) (S2 31 (by decide)) (S2 32 (by decide)) (S2 33 (by decide))
  have n2 : 3 ≤ τ2 32 b := by rw [S2 32 (by decide)]; exact hn
  have g2 : sgX (τ2 48) (τ2 49) (τ2 47 0) = sgX (tkX (bAt σ 30 b) (σ 32 b) 0) (tkY (bAt σ 30 b) (σ 32 b) 0) (σ 32 b) := by
    rw [K2.2.1]
    exact sgX_c K2.2.2.2.2
  refine r_aload_n (dc dkX3_takeShortest 5 rfl) rfl (np 8 rfl ?_)
  refine r_pV0 (y' := miX3_signs) (dc dkX3_takeShortest 6 rfl) mlX3_87 ceX3_signs ob_47 (Nat.le_of_ble_eq_true rfl) (Nat.le_of_ble_eq_true rfl) (c_X3_signs c2 d2) (np 11 rfl ?_)
  refine r_eqI _ g2 ?_
  refine r_istore_n (lv' := [(3, _), (0, _), (1, _), (2, _)]) (dc dkX3_takeShortest 7 rfl) (Nat.le_of_ble_eq_true rfl) rfl (np 12 rfl ?_)
  refine r_aload_n (dc dkX3_takeShortest 8 rfl) rfl (np 13 rfl ?_)
  refine r_aload_n (dc dkX3_takeShortest 9 rfl) rfl (np 14 rfl ?_)
  refine r_iload_n (dc dkX3_takeShortest 10 rfl) rfl (np 15 rfl ?_)
  refine r_iconst (dc dkX3_takeShortest 11 rfl) (np 16 rfl ?_)
  refine r_cV3 (y' := miX3_take) (dc dkX3_takeShortest 12 rfl) mlX3_83 ceX3_take ob_47 (Nat.le_of_ble_eq_true rfl) (Nat.le_of_ble_eq_true rfl) (c_X3_take oB2 h0 h1 n2 (by decide)) (fun r τ3 hp3 => (np 19 rfl ?_))
  obtain ⟨rfl, K3⟩ := hp3
  replace K3 : TK σ τ3 b 1 := TK_m S2 K3
  have S3 := K3.1
  obtain ⟨c3, a3, d3⟩ := TK_9 hB h0 h1 hn K3
  have oB3 : okB τ3 30 := okB_t hB (S3 30 (by decide)) (S3 31 (by decide)) (S3 32 (by decide)) (S3 33 (by decide))
  have n3 : 3 ≤ τ3 32 b := by rw [S3 32 (by decide)]; exact hn
  have g3 : sgX (τ3 48) (τ3 49) (τ3 47 0) = sgX (tkX (bAt σ 30 b) (σ 32 b) 1) (tkY (bAt σ 30 b) (σ 32 b) 1) (σ 32 b) := by
    rw [K3.2.1]
    exact sgX_c K3.2.2.2.2
  refine r_iload_n (dc dkX3_takeShortest 13 rfl) rfl (np 20 rfl ?_)
  refine r_aload_n (dc dkX3_takeShortest 14 rfl) rfl (np 21 rfl ?_)
  refine r_pV0 (y' := miX3_signs) (dc dkX3_takeShortest 15 rfl) mlX3_87 ceX3_signs ob_47 (Nat.le_of_ble_eq_true rfl) (Nat.le_of_ble_eq_true rfl) (c_X3_signs c3 d3) (np 24 rfl ?_)
  refine r_eqI _ g3 ?_
  refine r_icmp_gt (tgt := 34) (dc dkX3_takeShortest 16 rfl) rfl (by first | assumption | decide | omega) (by first | assumption | decide | omega) (fun h24 => ?_) (fun h24 => (np 27 rfl ?_))
  · skip
    exact r_vret (dc dkX3_takeShortest 22 rfl) rfl (by first | exact ⟨rfl, by rw [if_pos (by omega)]; exact K4⟩ | exact ⟨rfl, by rw [if_neg (by omega)]; exact K3⟩)
  refine r_aload_n (dc dkX3_takeShortest 17 rfl) rfl (np 28 rfl ?_)
  refine r_aload_n (dc dkX3_takeShortest 18 rfl) rfl (np 29 rfl ?_)
  refine r_iload_n (dc dkX3_takeShortest 19 rfl) rfl (np 30 rfl ?_)
  refine r_iconst (dc dkX3_takeShortest 20 rfl) (np 31 rfl ?_)
  refine r_cV3 (y' := miX3_take) (dc dkX3_takeShortest 21 rfl) mlX3_83 ceX3_take ob_47 (Nat.le_of_ble_eq_true rfl) (Nat.le_of_ble_eq_true rfl) (c_X3_take oB3 h0 h1 n3 (by decide)) (fun r τ4 hp4 => (np 34 rfl ?_))
  obtain ⟨rfl, K4⟩ := hp4
  replace K4 : TK σ τ4 b 0 := TK_m S3 K4
  have S4 := K4.1
  obtain ⟨c4, a4, d4⟩ := TK_9 hB h0 h1 hn K4
  have oB4 : okB τ4 30 := okB_t hB (S4 30 (by decide)) (S4 31 (by decide)) (S4 32 (by decide)) (S4 33 (by decide))
  have n4 : 3 ≤ τ4 32 b := by rw [S4 32 (by decide)]; exact hn
  have g4 : sgX (τ4 48) (τ4 49) (τ4 47 0) = sgX (tkX (bAt σ 30 b) (σ 32 b) 0) (tkY (bAt σ 30 b) (σ 32 b) 0) (σ 32 b) := by
    rw [K4.2.1]
    exact sgX_c K4.2.2.2.2
  exact r_vret (dc dkX3_takeShortest 22 rfl) rfl (by first | exact ⟨rfl, by rw [if_pos (by omega)]; exact K4⟩ | exact ⟨rfl, by rw [if_neg (by omega)]; exact K3⟩)
set_option maxRecDepth 100000 in
set_option maxHeartbeats 4000000 in
theorem c_X12_write {σ : jS} (hB : okB σ 30) (hn : ∀ b, 0 ≤ b → b < σ 30 0 → 3 ≤ σ 32 b) {b : Int} (hb : iR b) : Jm 4 miX12_write [.ref 0, vI b] σ (fun r τ => (¬ (0 ≤ b ∧ b < σ 30 0) → r = some (vI (-1)) ∧ τ = σ) ∧ ((0 ≤ b ∧ b < σ 30 0) → same [4, 5, 47, 48, 49] σ τ ∧ r = some (vI (τ 4 1)) ∧ TX (τ 5) (τ 4 1) (atT (bAt σ 30 b 0 % 10) (bAt σ 30 b 0 / 10) ++ byT (tkX (bAt σ 30 b) (σ 32 b) (if sgX (tkX (bAt σ 30 b) (σ 32 b) 0) (tkY (bAt σ 30 b) (σ 32 b) 0) (σ 32 b) ≤ sgX (tkX (bAt σ 30 b) (σ 32 b) 1) (tkY (bAt σ 30 b) (σ 32 b) 1) (σ 32 b) then 0 else 1)) (tkY (bAt σ 30 b) (σ 32 b) (if sgX (tkX (bAt σ 30 b) (σ 32 b) 0) (tkY (bAt σ 30 b) (σ 32 b) 0) (σ 32 b) ≤ sgX (tkX (bAt σ 30 b) (σ 32 b) 1) (tkY (bAt σ 30 b) (σ 32 b) 1) (σ 32 b) then 0 else 1)) (σ 32 b).toNat))) := by
  have m8 := hB.1
  refine jm_ofF (Po := (fun r τ => (¬ (0 ≤ b ∧ b < σ 30 0) → r = some (vI (-1)) ∧ τ = σ) ∧ ((0 ≤ b ∧ b < σ 30 0) → same [4, 5, 47, 48, 49] σ τ ∧ r = some (vI (τ 4 1)) ∧ TX (τ 5) (τ 4 1) (atT (bAt σ 30 b 0 % 10) (bAt σ 30 b 0 / 10) ++ byT (tkX (bAt σ 30 b) (σ 32 b) (if sgX (tkX (bAt σ 30 b) (σ 32 b) 0) (tkY (bAt σ 30 b) (σ 32 b) 0) (σ 32 b) ≤ sgX (tkX (bAt σ 30 b) (σ 32 b) 1) (tkY (bAt σ 30 b) (σ 32 b) 1) (σ 32 b) then 0 else 1)) (tkY (bAt σ 30 b) (σ 32 b) (if sgX (tkX (bAt σ 30 b) (σ 32 b) 0) (tkY (bAt σ 30 b) (σ 32 b) 0) (σ 32 b) ≤ sgX (tkX (bAt σ 30 b) (σ 32 b) 1) (tkY (bAt σ 30 b) (σ 32 b) 1) (σ 32 b) then 0 else 1)) (σ 32 b).toNat)))) (plainFor_of_name (by decide)) (Nat.le_of_ble_eq_true rfl) (lv := [(0, _), (1, _)]) rfl ?_
  refine r_aload_n (dc dkX12_write 0 rfl) rfl (np 1 rfl ?_)
  refine r_getR (dc dkX12_write 1 rfl) flX12_24 fd_0_2 (np 4 rfl ?_)
  refine r_getR (dc dkX12_write 2 rfl) flX12_105 fd_27_1 (np 7 rfl ?_)
  refine r_getR (dc dkX12_write 3 rfl) flX12_167 fd_28_9 (np 10 rfl ?_)
  refine r_iload_n (dc dkX12_write 4 rfl) rfl (np 11 rfl ?_)
  refine r_pV1 (y' := miX0_has) (dc dkX12_write 5 rfl) mlX12_171 ceX0_has ob_30 (Nat.le_of_ble_eq_true rfl) (Nat.le_of_ble_eq_true rfl) (c_X0_has isBands_at30 hB hb) (np 14 rfl ?_)
  refine r_bn (tgt := 19) (dc dkX12_write 6 rfl) rfl (fun h14 => ?_) (fun h14 => (np 17 rfl ?_))
  · skip
    replace h14 : 0 ≤ b ∧ b < σ 30 0 := h14
    refine r_aload_n (dc dkX12_write 9 rfl) rfl (np 20 rfl ?_)
    refine r_getR (dc dkX12_write 10 rfl) flX12_28 fd_0_3 (np 23 rfl ?_)
    refine r_getR (dc dkX12_write 11 rfl) flX12_142 fd_40_2 (np 26 rfl ?_)
    refine r_aload_n (dc dkX12_write 12 rfl) rfl (np 27 rfl ?_)
    refine r_getR (dc dkX12_write 13 rfl) flX12_24 fd_0_2 (np 30 rfl ?_)
    refine r_getR (dc dkX12_write 14 rfl) flX12_105 fd_27_1 (np 33 rfl ?_)
    refine r_getR (dc dkX12_write 15 rfl) flX12_167 fd_28_9 (np 36 rfl ?_)
    refine r_iload_n (dc dkX12_write 16 rfl) rfl (np 37 rfl ?_)
    refine r_cV2 (y' := miX3_takeShortest) (dc dkX12_write 17 rfl) mlX12_304 ceX3_takeShortest ob_47 (Nat.le_of_ble_eq_true rfl) (Nat.le_of_ble_eq_true rfl) (c_X3_takeShortest hB (by omega) (by omega) (hn b (by omega) (by omega))) (fun r τ2 hp2 => (np 40 rfl ?_))
    obtain ⟨rfl, K2⟩ := hp2
    obtain ⟨c2, a2, d2⟩ := TK_9 hB (show 0 ≤ b by omega) (show b < 8 by omega) (hn b (by omega) (by omega)) K2
    refine r_aload_n (dc dkX12_write 18 rfl) rfl (np 41 rfl ?_)
    refine r_getR (dc dkX12_write 19 rfl) flX12_28 fd_0_3 (np 44 rfl ?_)
    refine r_getR (dc dkX12_write 20 rfl) flX12_142 fd_40_2 (np 47 rfl ?_)
    refine r_aload_n (dc dkX12_write 21 rfl) rfl (np 48 rfl ?_)
    refine r_getR (dc dkX12_write 22 rfl) flX12_61 fd_0_9 (np 51 rfl ?_)
    refine r_cV1 (y' := miX3_tell) (dc dkX12_write 23 rfl) mlX12_308 ceX3_tell ob_47 (Nat.le_of_ble_eq_true rfl) (Nat.le_of_ble_eq_true rfl) (c_X3_tell c2 a2 d2) (fun r τ3 hp3 => (np 54 rfl ?_))
    obtain ⟨rfl, S3, T3⟩ := hp3
    refine r_aload_n (dc dkX12_write 24 rfl) rfl (np 55 rfl ?_)
    refine r_getR (dc dkX12_write 25 rfl) flX12_61 fd_0_9 (np 58 rfl ?_)
    refine r_gI 1 (dc dkX12_write 26 rfl) flX12_99 fd_4_1 rfl (np 61 rfl ?_)
    exact r_iret (dc dkX12_write 27 rfl) rfl (by
        refine ⟨fun z => absurd h14 z, fun _ => ⟨fun c hc => ?_, rfl, ?_⟩⟩
        · simp at hc
          rw [S3 c (by simp; omega), K2.1 c (by simp; omega)]
        · rw [K2.2.1, K2.2.2.1, K2.2.2.2.1] at T3
          rw [← byT_c (f := τ2 48) (g := τ2 49) _ (fun i i0 i1 => K2.2.2.2.2 i i0 (by omega))]
          exact T3)
  refine r_iconst (dc dkX12_write 7 rfl) (np 18 rfl ?_)
  exact r_iret (dc dkX12_write 8 rfl) rfl ⟨fun _ => ⟨rfl, rfl⟩, fun z => absurd z h14⟩
