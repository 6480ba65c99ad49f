/-- the k-th of those that fit, or how many they are -/
def nthV (Q : Int → Prop) (n k v : Int) : Prop := (∃ i, (0 ≤ i ∧ i < n) ∧ Q i ∧ smI (fun q => bI (Q q)) i = k ∧ v = i) ∨ ((∀ i, 0 ≤ i → i < n → Q i → ¬ smI (fun q => bI (Q q)) i = k) ∧ v = if k = -1 then smI (fun q => bI (Q q)) n else -1)
/-- where a call is put otherwise -/
def wkZ (f : Int → Int) (i n : Int) : Int := if i = -1 then 0 else f i - smI f n
/-- the corners that calls name -/
def lyP (σ : jS) (i c : Int) : Int := plG (σ 28 0) (σ 28 1) (σ 34 1 + wkS (σ 35) i (wkZ (σ 35) i (σ 34 0)) c) (σ 34 2 + wkS (σ 36) i (wkZ (σ 36) i (σ 34 0)) c)
theorem wkZ_b {f : Int → Int} {i n : Int} (hn : cB 8 n) (hi : i = -1 ∨ (0 ≤ i ∧ i < n)) (h : ∀ i, 0 ≤ i → i < n → -9 ≤ f i ∧ f i ≤ 9) : -81 ≤ wkZ f i n ∧ wkZ f i n ≤ 81 := by
  have g := smI_9 hn h
  unfold wkZ
  split
  · omega
  · have := h i (by omega) (by omega)
    omega
theorem wkZ_i {f : Int → Int} {i n : Int} (h : 0 ≤ i) : wkZ f i n = f i - smI f n := by unfold wkZ; rw [if_neg (by omega)]
set_option maxRecDepth 100000 in
set_option maxHeartbeats 4000000 in
theorem c_X3_layOut {σ : jS} (h8 : cB 8 (σ 34 0)) (hb9 : ∀ i, 0 ≤ i → i < σ 34 0 → (-9 ≤ σ 35 i ∧ σ 35 i ≤ 9) ∧ (-9 ≤ σ 36 i ∧ σ 36 i ≤ 9)) (hat : cB 9 (σ 34 1) ∧ cB 9 (σ 34 2)) (hD : okD σ 28) {i : Int} (hi : i = -1 ∨ (0 ≤ i ∧ i < σ 34 0)) : Jm 2 miX3_layOut [.ref 34, .ref 28, vI i, .ref 6] σ (fun r τ => r = none ∧ same [6] σ τ ∧ ∀ c, 0 ≤ c → c < σ 34 0 → τ 6 c = lyP σ i c) := by
  have b1 := smI_9 h8 (fun i i0 i1 => (hb9 i i0 i1).1)
  have b2 := smI_9 h8 (fun i i0 i1 => (hb9 i i0 i1).2)
  have z1 := wkZ_b h8 hi (fun i i0 i1 => (hb9 i i0 i1).1)
  have z2 := wkZ_b h8 hi (fun i i0 i1 => (hb9 i i0 i1).2)
  have d0 := hD.1
  have d1 := hD.2.1
  refine jm_ofF (Po := (fun r τ => r = none ∧ same [6] σ τ ∧ ∀ c, 0 ≤ c → c < σ 34 0 → τ 6 c = lyP σ i c)) (plainFor_of_name (by decide)) (Nat.le_of_ble_eq_true rfl) (lv := [(0, _), (1, _), (2, _), (3, _)]) rfl ?_
  refine r_aload_n (dc dkX3_layOut 0 rfl) rfl (np 1 rfl ?_)
  refine r_pV0 (y' := miX3_sumX) (dc dkX3_layOut 1 rfl) mlX3_77 ceX3_sumX ob_34 (Nat.le_of_ble_eq_true rfl) (Nat.le_of_ble_eq_true rfl) (c_X3_sumX h8) (np 4 rfl ?_)
  refine r_istore (lv' := [(4, _), (0, _), (1, _), (2, _), (3, _)]) (dc dkX3_layOut 2 rfl) (Nat.le_of_ble_eq_true rfl) rfl (np 6 rfl ?_)
  refine r_aload_n (dc dkX3_layOut 3 rfl) rfl (np 7 rfl ?_)
  refine r_pV0 (y' := miX3_sumY) (dc dkX3_layOut 4 rfl) mlX3_80 ceX3_sumY ob_34 (Nat.le_of_ble_eq_true rfl) (Nat.le_of_ble_eq_true rfl) (c_X3_sumY h8) (np 10 rfl ?_)
  refine r_istore (lv' := [(5, _), (4, _), (0, _), (1, _), (2, _), (3, _)]) (dc dkX3_layOut 5 rfl) (Nat.le_of_ble_eq_true rfl) rfl (np 12 rfl ?_)
  refine r_aload_n (dc dkX3_layOut 6 rfl) rfl (np 13 rfl ?_)
  refine r_gI 1 (dc dkX3_layOut 7 rfl) flX3_15 fd_34_1 rfl (np 16 rfl ?_)
  refine r_istore (lv' := [(6, _), (5, _), (4, _), (0, _), (1, _), (2, _), (3, _)]) (dc dkX3_layOut 8 rfl) (Nat.le_of_ble_eq_true rfl) rfl (np 18 rfl ?_)
  refine r_aload_n (dc dkX3_layOut 9 rfl) rfl (np 19 rfl ?_)
  refine r_gI 2 (dc dkX3_layOut 10 rfl) flX3_18 fd_34_2 rfl (np 22 rfl ?_)
  refine r_istore (lv' := [(7, _), (6, _), (5, _), (4, _), (0, _), (1, _), (2, _), (3, _)]) (dc dkX3_layOut 11 rfl) (Nat.le_of_ble_eq_true rfl) rfl (np 24 rfl ?_)
  refine r_iconst (dc dkX3_layOut 12 rfl) (np 25 rfl ?_)
  refine r_istore (lv' := [(8, _), (7, _), (6, _), (5, _), (4, _), (0, _), (1, _), (2, _), (3, _)]) (dc dkX3_layOut 13 rfl) (Nat.le_of_ble_eq_true rfl) rfl (np 27 rfl ?_)
  refine r_pick [5, 6, 7, 8, 4, 3, 2, 1, 0] (lv' := [(0, _), (1, _), (2, _), (3, _), (4, _), (5, _), (6, _), (7, _), (8, _)]) rfl ?_
  refine jlp4 (P := fun (X : Int) (Y : Int) (c : Int) (τ : jS) => jR _ _ _ 27 [(0, .ref 34), (1, .ref 28), (2, vI i), (3, .ref 6), (4, vI (smI (σ 35) (σ 34 0))), (5, vI (smI (σ 36) (σ 34 0))), (6, vI X), (7, vI Y), (8, vI c)] [] τ) (I := fun (X : Int) (Y : Int) (c : Int) (τ : jS) => (0 ≤ c ∧ c ≤ σ 34 0) ∧ same [6] σ τ ∧ X = σ 34 1 + wkS (σ 35) i (wkZ (σ 35) i (σ 34 0)) c ∧ Y = σ 34 2 + wkS (σ 36) i (wkZ (σ 36) i (σ 34 0)) c ∧ ∀ k, 0 ≤ k → k < c → τ 6 k = lyP σ i k) (fun (X : Int) (Y : Int) (c : Int) (τ : jS) => (σ 34 0 - c).toNat) ?_ _ _ _ _ ⟨by omega, same.refl _ _, by rw [wkS_0, Int.add_zero], by rw [wkS_0, Int.add_zero], fun _ _ _ => by omega⟩
  intro X Y c τ hI27 ih27
  have e34 : τ 34 = σ 34 := hI27.2.1 34 (by decide)
  have e35 : τ 35 = σ 35 := hI27.2.1 35 (by decide)
  have e36 : τ 36 = σ 36 := hI27.2.1 36 (by decide)
  have e28 : τ 28 = σ 28 := hI27.2.1 28 (by decide)
  have e340 : τ 34 0 = σ 34 0 := by rw [e34]
  have hD2 : okD τ 28 := by unfold okD; rw [e28, hI27.2.1 29 (by decide)]; exact hD
  have x1 := wkS_b (f := σ 35) (i := i) (z := wkZ (σ 35) i (σ 34 0)) (c := c) (A := 81) (by omega) (by decide) (by omega) (fun j j0 j1 => by have := hb9 j j0 (by omega); omega)
  have x2 := wkS_b (f := σ 36) (i := i) (z := wkZ (σ 36) i (σ 34 0)) (c := c) (A := 81) (by omega) (by decide) (by omega) (fun j j0 j1 => by have := hb9 j j0 (by omega); omega)
  refine r_iload (dc dkX3_layOut 14 rfl) rfl (np 29 rfl ?_)
  refine r_aload_n (dc dkX3_layOut 15 rfl) rfl (np 30 rfl ?_)
  refine r_gI 0 (dc dkX3_layOut 16 rfl) flX3_9 fd_34_0 rfl (np 33 rfl ?_)
  refine r_icmp_ge (tgt := 120) (dc dkX3_layOut 17 rfl) rfl (by first | assumption | decide | omega) (by first | assumption | decide | omega) (fun h33 => ?_) (fun h33 => (np 36 rfl ?_))
  · skip
    exact r_vret (dc dkX3_layOut 64 rfl) rfl ⟨rfl, hI27.2.1, fun k k0 k1 => hI27.2.2.2.2 k k0 (by omega)⟩
  refine r_iload (dc dkX3_layOut 18 rfl) rfl (np 38 rfl ?_)
  refine r_bipush (dc dkX3_layOut 19 rfl) bp_8 (np 40 rfl ?_)
  refine r_icmp_ge (tgt := 120) (dc dkX3_layOut 20 rfl) rfl (by first | assumption | decide | omega) (by first | assumption | decide | omega) (fun h40 => ?_) (fun h40 => (np 43 rfl ?_))
  · skip
    exact r_vret (dc dkX3_layOut 64 rfl) rfl ⟨rfl, hI27.2.1, fun k k0 k1 => hI27.2.2.2.2 k k0 (by omega)⟩
  refine r_iload (dc dkX3_layOut 21 rfl) rfl (np 45 rfl ?_)
  refine r_aload_n (dc dkX3_layOut 22 rfl) rfl (np 46 rfl ?_)
  refine r_alen (dc dkX3_layOut 23 rfl) ar_6 (Nat.le_of_ble_eq_true rfl) (np 47 rfl ?_)
  refine r_icmp_ge (tgt := 120) (dc dkX3_layOut 24 rfl) rfl (by first | assumption | decide | omega) (by first | assumption | decide | omega) (fun h47 => ?_) (fun h47 => (np 50 rfl ?_))
  · skip
    exact r_vret (dc dkX3_layOut 64 rfl) rfl ⟨rfl, hI27.2.1, fun k k0 k1 => hI27.2.2.2.2 k k0 (by omega)⟩
  refine r_aload_n (dc dkX3_layOut 25 rfl) rfl (np 51 rfl ?_)
  refine r_iload (dc dkX3_layOut 26 rfl) rfl (np 53 rfl ?_)
  refine r_aload_n (dc dkX3_layOut 27 rfl) rfl (np 54 rfl ?_)
  refine r_iload (dc dkX3_layOut 28 rfl) rfl (np 56 rfl ?_)
  refine r_i2l (dc dkX3_layOut 29 rfl) (by first | assumption | decide | omega) (np 57 rfl ?_)
  refine r_iload (dc dkX3_layOut 30 rfl) rfl (np 59 rfl ?_)
  refine r_i2l (dc dkX3_layOut 31 rfl) (by first | assumption | decide | omega) (np 60 rfl ?_)
  refine r_pV2 (y' := miX1_place) (dc dkX3_layOut 32 rfl) mlX3_115 ceX1_place ob_28 (Nat.le_of_ble_eq_true rfl) (Nat.le_of_ble_eq_true rfl) (c_X1_place isBoard_at28 hD2 (by omega) (by omega)) (np 63 rfl ?_)
  refine r_iast (dc dkX3_layOut 33 rfl) ar_6 (by omega) (np 64 rfl ?_)
  have jj85 : ∀ g : Int, (g = if c = i then smI (σ 35) (σ 34 0) else 0) → jR 2 miX3_layOut (fun r τ => r = none ∧ same [6] σ τ ∧ ∀ c, 0 ≤ c → c < σ 34 0 → τ 6 c = lyP σ i c) 85 [(0, .ref 34), (1, .ref 28), (2, vI i), (3, .ref 6), (4, vI (smI (σ 35) (σ 34 0))), (5, vI (smI (σ 36) (σ 34 0))), (7, vI Y), (8, vI c)] [vI g, vI ((ju τ 6 c (plG (τ 28 0) (τ 28 1) X Y)) 35 c), vI X] (ju τ 6 c (plG (τ 28 0) (τ 28 1) X Y)) := by
    intro g hg
    refine r_isub (dc dkX3_layOut 45 rfl) (np 86 rfl ?_)
    refine r_iadd (dc dkX3_layOut 46 rfl) (np 87 rfl ?_)
    refine r_istore (lv' := [(6, _), (0, _), (1, _), (2, _), (3, _), (4, _), (5, _), (7, _), (8, _)]) (dc dkX3_layOut 47 rfl) (Nat.le_of_ble_eq_true rfl) rfl (np 89 rfl ?_)
    have jj110 : ∀ g2 : Int, (g2 = if c = i then smI (σ 36) (σ 34 0) else 0) → jR 2 miX3_layOut (fun r τ => r = none ∧ same [6] σ τ ∧ ∀ c, 0 ≤ c → c < σ 34 0 → τ 6 c = lyP σ i c) 110 [(0, .ref 34), (1, .ref 28), (2, vI i), (3, .ref 6), (4, vI (smI (σ 35) (σ 34 0))), (5, vI (smI (σ 36) (σ 34 0))), (6, vI (X + ((ju τ 6 c (plG (τ 28 0) (τ 28 1) X Y)) 35 c - g))), (8, vI c)] [vI g2, vI ((ju τ 6 c (plG (τ 28 0) (τ 28 1) X Y)) 36 c), vI Y] (ju τ 6 c (plG (τ 28 0) (τ 28 1) X Y)) := by
      intro g2 hg2
      refine r_isub (dc dkX3_layOut 59 rfl) (np 111 rfl ?_)
      refine r_iadd (dc dkX3_layOut 60 rfl) (np 112 rfl ?_)
      refine r_istore (lv' := [(7, _), (0, _), (1, _), (2, _), (3, _), (4, _), (5, _), (6, _), (8, _)]) (dc dkX3_layOut 61 rfl) (Nat.le_of_ble_eq_true rfl) rfl (np 114 rfl ?_)
      refine r_iinc (lv' := [(8, _), (7, _), (0, _), (1, _), (2, _), (3, _), (4, _), (5, _), (6, _)]) (dc dkX3_layOut 62 rfl) (Nat.le_of_ble_eq_true rfl) rfl rfl (np 117 rfl ?_)
      refine r_goto (tgt := 27) (dc dkX3_layOut 63 rfl) rfl ?_
      refine r_pick [2, 3, 4, 5, 6, 7, 8, 1, 0] rfl ?_
      exact ih27 _ _ _ _ (by
            obtain ⟨_, J1, J2, J3, J4⟩ := hI27
            refine ⟨by omega, J1.put (by decide), ?_, ?_, fun k k0 k1 => ?_⟩
            · rw [wkS_s (by omega), ju_off _ _ _ _ _ (by decide), e35, hg, J2]
              by_cases q : c = i
              · have zz := wkZ_i (f := σ 35) (i := i) (n := σ 34 0) (by omega)
                rw [if_pos q, if_pos q, q]; omega
              · rw [if_neg q, if_neg q]; omega
            · rw [wkS_s (by omega), ju_off _ _ _ _ _ (by decide), e36, hg2, J3]
              by_cases q : c = i
              · have zz := wkZ_i (f := σ 36) (i := i) (n := σ 34 0) (by omega)
                rw [if_pos q, if_pos q, q]; omega
              · rw [if_neg q, if_neg q]; omega
            · by_cases hk : k = c
              · rw [hk, ju_at, e28, J2, J3]; rfl
              · rw [ju_ne (by omega)]; exact J4 k k0 (by omega)) (by omega)
    refine r_iload (dc dkX3_layOut 48 rfl) rfl (np 91 rfl ?_)
    refine r_aload_n (dc dkX3_layOut 49 rfl) rfl (np 92 rfl ?_)
    refine r_getR (dc dkX3_layOut 50 rfl) flX3_25 fd_34_4 (np 95 rfl ?_)
    refine r_iload (dc dkX3_layOut 51 rfl) rfl (np 97 rfl ?_)
    refine r_iald (dc dkX3_layOut 52 rfl) ar_36 (by omega) (np 98 rfl ?_)
    refine r_iload (dc dkX3_layOut 53 rfl) rfl (np 100 rfl ?_)
    refine r_iload_n (dc dkX3_layOut 54 rfl) rfl (np 101 rfl ?_)
    refine r_icmp_ne (tgt := 109) (dc dkX3_layOut 55 rfl) rfl (by first | assumption | decide | omega) (by first | assumption | decide | omega) (fun h101 => ?_) (fun h101 => (np 104 rfl ?_))
    · skip
      refine r_iconst (dc dkX3_layOut 58 rfl) (np 110 rfl ?_)
      refine r_pick [1, 2, 3, 4, 5, 6, 0, 8] rfl ?_
      exact jj110 _ (by first | (rw [if_pos (by omega)]; done) | (rw [if_neg (by omega)]; done))
    refine r_iload (dc dkX3_layOut 56 rfl) rfl (np 106 rfl ?_)
    refine r_goto (tgt := 110) (dc dkX3_layOut 57 rfl) rfl ?_
    refine r_pick [1, 2, 3, 4, 5, 6, 0, 8] rfl ?_
    exact jj110 _ (by first | (rw [if_pos (by omega)]; done) | (rw [if_neg (by omega)]; done))
  refine r_iload (dc dkX3_layOut 34 rfl) rfl (np 66 rfl ?_)
  refine r_aload_n (dc dkX3_layOut 35 rfl) rfl (np 67 rfl ?_)
  refine r_getR (dc dkX3_layOut 36 rfl) flX3_21 fd_34_3 (np 70 rfl ?_)
  refine r_iload (dc dkX3_layOut 37 rfl) rfl (np 72 rfl ?_)
  refine r_iald (dc dkX3_layOut 38 rfl) ar_35 (by omega) (np 73 rfl ?_)
  refine r_iload (dc dkX3_layOut 39 rfl) rfl (np 75 rfl ?_)
  refine r_iload_n (dc dkX3_layOut 40 rfl) rfl (np 76 rfl ?_)
  refine r_icmp_ne (tgt := 84) (dc dkX3_layOut 41 rfl) rfl (by first | assumption | decide | omega) (by first | assumption | decide | omega) (fun h76 => ?_) (fun h76 => (np 79 rfl ?_))
  · skip
    refine r_iconst (dc dkX3_layOut 44 rfl) (np 85 rfl ?_)
    refine r_pick [0, 1, 2, 3, 4, 5, 7, 8] rfl ?_
    exact jj85 _ (by first | (rw [if_pos (by omega)]; done) | (rw [if_neg (by omega)]; done))
  refine r_iload (dc dkX3_layOut 42 rfl) rfl (np 81 rfl ?_)
  refine r_goto (tgt := 85) (dc dkX3_layOut 43 rfl) rfl ?_
  refine r_pick [0, 1, 2, 3, 4, 5, 7, 8] rfl ?_
  exact jj85 _ (by first | (rw [if_pos (by omega)]; done) | (rw [if_neg (by omega)]; done))
