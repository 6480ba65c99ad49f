theorem mR_10 {t : Int → Int} {L m : Int} {R : Int × Int} {σ : jS} (h : mR t L m R σ) : σ 111 10 = R.1 := by
  by_cases h0 : R.1 = 0
  · rw [(h.1 h0).2.2.2.2.2.2.2.2.2.2.2.2, h0]
  · exact (h.2 h0).1
theorem mR_11 {t : Int → Int} {L m : Int} {R : Int × Int} {σ : jS} (h : mR t L m R σ) (h0 : ¬ R.1 = 0) : σ 111 11 = R.2 := (h.2 h0).2
theorem km_0 {t : Int → Int} {L m q : Int} {σ : jS} (h : md t L m q σ) : σ 111 7 = 0 ↔ tK t L m q = 0 := by
  rw [h.2.2.2.2.2.2.2.2.1]
  unfold kM
  split <;> (try split) <;> (try split) <;> (try split) <;> omega
theorem md_q {t : Int → Int} {L m q : Int} {σ : jS} (h : md t L m q σ) : 0 ≤ q ∧ q ≤ L := h.2.2.2.2.2.1
set_option maxRecDepth 100000 in
set_option maxHeartbeats 4000000 in
theorem c_X13_board {σ : jS} {t : Int → Int} {L : Int} (hL : σ 111 2 = L) (hL2 : cB 640 L) (hT : mTp t L σ) {N : Int → Int} (hN : σ 119 = N) (hl : ∀ j, 0 ≤ j → j < 8 → lR (N j)) : Jm 9 miX13_board [.ref 111] σ (fun r τ => (mdT [0, 2, 3, 4, 5, 6, 7, 8, 9, 10, 11, 12, 13, 14, 27] [113, 114, 118, 119] σ τ ∧ τ 111 0 = 0 ∧ τ 111 2 = 0 ∧ (∀ j, 0 ≤ j → j < 8 → lR (τ 119 j)) ∧ τ 111 10 = (bdF t L N).1.1 ∧ τ 111 12 = (if (bdF t L N).1.1 = 5 then (bdF t L N).2.2.2.2 else σ 111 12)) ∧ ((bdF t L N).1.1 = 0 → r = some (vI (bdF t L N).2.2.2.1) ∧ (∀ j, 0 ≤ j → j < 241 → τ 113 j = (bdF t L N).2.1 j) ∧ (∀ j, 241 ≤ j → j < 512 → τ 113 j = 0) ∧ (∀ j, 0 ≤ j → j < 8 → τ 118 j = (bdF t L N).2.2.1 j) ∧ τ 111 27 = 0) ∧ (¬ (bdF t L N).1.1 = 0 → r = some (vI (-1 - (bdF t L N).1.2)) ∧ τ 113 = σ 113 ∧ τ 118 = σ 118 ∧ τ 111 27 = σ 111 27)) := by
  refine jm_ofF (Po := (fun r τ => (mdT [0, 2, 3, 4, 5, 6, 7, 8, 9, 10, 11, 12, 13, 14, 27] [113, 114, 118, 119] σ τ ∧ τ 111 0 = 0 ∧ τ 111 2 = 0 ∧ (∀ j, 0 ≤ j → j < 8 → lR (τ 119 j)) ∧ τ 111 10 = (bdF t L N).1.1 ∧ τ 111 12 = (if (bdF t L N).1.1 = 5 then (bdF t L N).2.2.2.2 else σ 111 12)) ∧ ((bdF t L N).1.1 = 0 → r = some (vI (bdF t L N).2.2.2.1) ∧ (∀ j, 0 ≤ j → j < 241 → τ 113 j = (bdF t L N).2.1 j) ∧ (∀ j, 241 ≤ j → j < 512 → τ 113 j = 0) ∧ (∀ j, 0 ≤ j → j < 8 → τ 118 j = (bdF t L N).2.2.1 j) ∧ τ 111 27 = 0) ∧ (¬ (bdF t L N).1.1 = 0 → r = some (vI (-1 - (bdF t L N).1.2)) ∧ τ 113 = σ 113 ∧ τ 118 = σ 118 ∧ τ 111 27 = σ 111 27))) (plainFor_of_name (by decide)) (Nat.le_of_ble_eq_true rfl) (lv := [(0, _)]) rfl ?_
  refine r_aload_n (dc dkX13_board 0 rfl) rfl (np 1 rfl ?_)
  refine r_sipush (dc dkX13_board 1 rfl) sp_600 (np 4 rfl ?_)
  refine r_cV1 (y' := miX13_begin) (dc dkX13_board 2 rfl) mlX13_258 ceX13_begin ob_111 (Nat.le_of_ble_eq_true rfl) (Nat.le_of_ble_eq_true rfl) (c_X13_begin (by decide) hL hL2 hT) (fun r τ1 hp1 => (np 7 rfl ?_))
  obtain ⟨rfl, hs1, h01, h21, h101, hM1⟩ := hp1
  have fr1 : mdT [0, 2, 3, 4, 5, 6, 7, 8, 9, 10, 11, 12, 13, 14] [114, 119] σ τ1 := mdT.of hs1 (by decide)
  have N1 : τ1 119 = N := by rw [hs1.1 119 (by decide)]; exact hN
  have w1 : τ1 111 12 = σ 111 12 := hs1.2 12 (by decide)
  refine r_iconst (dc dkX13_board 3 rfl) (np 8 rfl ?_)
  refine r_istore_n (lv' := [(1, _), (0, _)]) (dc dkX13_board 4 rfl) (Nat.le_of_ble_eq_true rfl) rfl (np 9 rfl ?_)
  refine r_pick [1, 0] (lv' := [(0, _), (1, _)]) rfl ?_
  refine jlp2 (P := fun (i : Int) (τ : jS) => jR _ _ _ 9 [(0, .ref 111), (1, vI i)] [] τ) (I := fun (i : Int) (τ : jS) => (0 ≤ i ∧ i ≤ 241) ∧ (∀ j, 0 ≤ j → j < i → τ 114 j = 0) ∧ (∀ c, ¬ c = 114 → τ c = τ1 c)) (fun (i : Int) (τ : jS) => (241 - i).toNat) ?_ _ _ ⟨by omega, fun j _ _ => by omega, fun _ _ => rfl⟩
  intro i τ hI9 ih9
  refine r_iload_n (dc dkX13_board 5 rfl) rfl (np 10 rfl ?_)
  refine r_sipush (dc dkX13_board 6 rfl) sp_241 (np 13 rfl ?_)
  refine r_icmp_ge (tgt := 29) (dc dkX13_board 7 rfl) rfl (by first | assumption | decide | omega) (by first | assumption | decide | omega) (fun h13 => ?_) (fun h13 => (np 16 rfl ?_))
  · skip
    have hz9 := hI9.2.1
    have fra : mdT [0, 2, 3, 4, 5, 6, 7, 8, 9, 10, 11, 12, 13, 14] [114, 119] σ τ := ⟨fun c h1 h2 => by rw [hI9.2.2 c (by simp at h2; omega)]; exact fr1.1 c h1 h2, fun j hj => by rw [hI9.2.2 111 (by decide)]; exact fr1.2 j hj⟩
    have Na : τ 119 = N := by rw [hI9.2.2 119 (by decide)]; exact N1
    have wa : τ 111 12 = σ 111 12 := by rw [hI9.2.2 111 (by decide)]; exact w1
    have hMa : md t L 600 0 τ := md_c hM1 (hI9.2.2 111 (by decide)) (hI9.2.2 112 (by decide))
    have z0a : τ 111 0 = 0 := by rw [hI9.2.2 111 (by decide)]; exact h01
    have z2a : τ 111 2 = 0 := by rw [hI9.2.2 111 (by decide)]; exact h21
    refine r_aload_n (dc dkX13_board 15 rfl) rfl (np 30 rfl ?_)
    refine r_cV0 (y' := miX13_readHead) (dc dkX13_board 16 rfl) mlX13_261 ceX13_readHead ob_111 (Nat.le_of_ble_eq_true rfl) (Nat.le_of_ble_eq_true rfl) (c_X13_readHead hMa (D := fun _ => 0) (fun j j0 j1 => hz9 j j0 (by omega))) (fun r τ2 hp2 => (np 33 rfl ?_))
    obtain ⟨rfl, hs2, hM2, hE2⟩ := hp2
    have fr2 : mdT [0, 2, 3, 4, 5, 6, 7, 8, 9, 10, 11, 12, 13, 14] [114, 119] σ τ2 := fra.tr (hs2.wide (by decide) (by decide))
    have N2 : τ2 119 = N := by rw [hs2.1 119 (by decide) (by decide)]; exact Na
    have w2 : τ2 111 12 = σ 111 12 := (hs2.2 12 (by decide)).trans wa
    have z02 : τ2 111 0 = 0 := (hs2.2 0 (by decide)).trans z0a
    have z22 : τ2 111 2 = 0 := (hs2.2 2 (by decide)).trans z2a
    refine r_bn (tgt := 43) (dc dkX13_board 17 rfl) rfl (fun h33 => ?_) (fun h33 => (np 36 rfl ?_))
    · skip
      refine r_iconst (dc dkX13_board 23 rfl) (np 44 rfl ?_)
      refine r_istore_n (lv' := [(1, _), (0, _)]) (dc dkX13_board 24 rfl) (Nat.le_of_ble_eq_true rfl) rfl (np 45 rfl ?_)
      refine r_pick [1, 0] (lv' := [(0, _), (1, _)]) rfl ?_
      refine jlp2 (P := fun (n : Int) (τ : jS) => jR _ _ _ 45 [(0, .ref 111), (1, vI n)] [] τ) (I := fun (n : Int) (τ : jS) => ∃ (Rc : Int × Int) (Dc Nc : Int → Int), (0 < n ∧ 2 * (n - 1) ≤ Rc.2) ∧ Rc.1 = 0 ∧ md t L 600 Rc.2 τ ∧ eqD τ Dc ∧ τ 119 = Nc ∧ (∀ j, 0 ≤ j → j < 8 → lR (Nc j)) ∧ okV Dc ∧ okT2 Dc ∧ bdF t L N = lnF t L 600 (642 - n).toNat Rc Dc Nc n ∧ mdT [0, 2, 3, 4, 5, 6, 7, 8, 9, 10, 11, 12, 13, 14] [114, 119] σ τ ∧ τ 111 12 = σ 111 12 ∧ τ 111 0 = 0 ∧ τ 111 2 = 0) (fun (n : Int) (τ : jS) => (642 - n).toNat) ?_ _ _ (by
            have v := okV_hd (D := fun _ => 0) (fun _ _ _ => rfl) h33
            have mq := md_q (hM2.1 h33)
            exact ⟨_, hdD t L 600 (0, 0) (fun _ => 0), N, by omega, h33, hM2.1 h33, hE2 h33, N2, hl, v.1, v.2.1, rfl, fr2, w2, z02, z22⟩)
      intro n τ hI45 ih45
      obtain ⟨Rc, Dc, Nc, hnb, hRc, hMc, hEc, hNc, hlc, hVc, hTc, hF, frc, w12, z0, z2⟩ := hI45
      have mq := md_q hMc
      have k0 := km_0 hMc
      have kmb := kM_b (t := t) (L := L) (m := 600) (q := Rc.2)
      have m7 := hMc.2.2.2.2.2.2.2.2.1
      have hK : (642 - n).toNat = (642 - (n + 1)).toNat + 1 := by omega
      refine r_aload_n (dc dkX13_board 25 rfl) rfl (np 46 rfl ?_)
      refine r_gI 7 (dc dkX13_board 26 rfl) flX13_120 fd_111_7 rfl (np 49 rfl ?_)
      refine r_if_eq (tgt := 127) (dc dkX13_board 27 rfl) rfl (by rw [m7]; omega) (fun h49 => ?_) (fun h49 => (np 52 rfl ?_))
      · skip
        have hFe : bdF t L N = (Rc, Dc, Nc, n, 0) := by rw [hF, lnF_e (Or.inr (k0.mp h49))]
        refine r_iconst (dc dkX13_board 65 rfl) (np 128 rfl ?_)
        refine r_istore_n (lv' := [(2, _), (0, _), (1, _)]) (dc dkX13_board 66 rfl) (Nat.le_of_ble_eq_true rfl) rfl (np 129 rfl ?_)
        refine r_pick [1, 2, 0] (lv' := [(0, _), (1, _), (2, _)]) rfl ?_
        refine jlp2 (P := fun (i : Int) (τ5 : jS) => jR _ _ _ 129 [(0, .ref 111), (1, vI n), (2, vI i)] [] τ5) (I := fun (i : Int) (τ5 : jS) => (0 ≤ i ∧ i ≤ 241) ∧ (∀ j, 0 ≤ j → j < i → τ5 113 j = τ 114 j) ∧ (∀ c, ¬ c = 113 → τ5 c = τ c)) (fun (i : Int) (τ5 : jS) => (241 - i).toNat) ?_ _ _ ⟨by omega, fun j _ _ => by omega, fun _ _ => rfl⟩
        intro i τ5 hI129 ih129
        refine r_iload_n (dc dkX13_board 67 rfl) rfl (np 130 rfl ?_)
        refine r_sipush (dc dkX13_board 68 rfl) sp_241 (np 133 rfl ?_)
        refine r_icmp_ge (tgt := 154) (dc dkX13_board 69 rfl) rfl (by first | assumption | decide | omega) (by first | assumption | decide | omega) (fun h133 => ?_) (fun h133 => (np 136 rfl ?_))
        · skip
          refine r_sipush (dc dkX13_board 80 rfl) sp_241 (np 157 rfl ?_)
          refine r_istore_n (lv' := [(2, _), (0, _), (1, _)]) (dc dkX13_board 81 rfl) (Nat.le_of_ble_eq_true rfl) rfl (np 158 rfl ?_)
          refine r_pick [1, 2, 0] (lv' := [(0, _), (1, _), (2, _)]) rfl ?_
          refine jlp2 (P := fun (i : Int) (τ6 : jS) => jR _ _ _ 158 [(0, .ref 111), (1, vI n), (2, vI i)] [] τ6) (I := fun (i : Int) (τ6 : jS) => (241 ≤ i ∧ i ≤ 512) ∧ (∀ j, 0 ≤ j → j < 241 → τ6 113 j = τ 114 j) ∧ (∀ j, 241 ≤ j → j < i → τ6 113 j = 0) ∧ (∀ c, ¬ c = 113 → τ6 c = τ c)) (fun (i : Int) (τ6 : jS) => (512 - i).toNat) ?_ _ _ ⟨by omega, fun j j0 j1 => hI129.2.1 j j0 (by omega), fun j _ _ => by omega, hI129.2.2⟩
          intro i τ6 hI158 ih158
          refine r_iload_n (dc dkX13_board 82 rfl) rfl (np 159 rfl ?_)
          refine r_sipush (dc dkX13_board 83 rfl) sp_512 (np 162 rfl ?_)
          refine r_icmp_ge (tgt := 178) (dc dkX13_board 84 rfl) rfl (by first | assumption | decide | omega) (by first | assumption | decide | omega) (fun h162 => ?_) (fun h162 => (np 165 rfl ?_))
          · skip
            refine r_iconst (dc dkX13_board 92 rfl) (np 179 rfl ?_)
            refine r_istore_n (lv' := [(2, _), (0, _), (1, _)]) (dc dkX13_board 93 rfl) (Nat.le_of_ble_eq_true rfl) rfl (np 180 rfl ?_)
            refine r_pick [1, 2, 0] (lv' := [(0, _), (1, _), (2, _)]) rfl ?_
            refine jlp2 (P := fun (i : Int) (τ7 : jS) => jR _ _ _ 180 [(0, .ref 111), (1, vI n), (2, vI i)] [] τ7) (I := fun (i : Int) (τ7 : jS) => (0 ≤ i ∧ i ≤ 8) ∧ (∀ j, 0 ≤ j → j < i → τ7 118 j = τ 119 j) ∧ (∀ c, ¬ c = 118 → τ7 c = τ6 c)) (fun (i : Int) (τ7 : jS) => (8 - i).toNat) ?_ _ _ ⟨by omega, fun j _ _ => by omega, fun _ _ => rfl⟩
            intro i τ7 hI180 ih180
            refine r_iload_n (dc dkX13_board 94 rfl) rfl (np 181 rfl ?_)
            refine r_bipush (dc dkX13_board 95 rfl) bp_8 (np 183 rfl ?_)
            refine r_icmp_ge (tgt := 204) (dc dkX13_board 96 rfl) rfl (by first | assumption | decide | omega) (by first | assumption | decide | omega) (fun h183 => ?_) (fun h183 => (np 186 rfl ?_))
            · skip
              refine r_aload_n (dc dkX13_board 107 rfl) rfl (np 205 rfl ?_)
              refine r_iconst (dc dkX13_board 108 rfl) (np 206 rfl ?_)
              refine r_pI 27 (dc dkX13_board 109 rfl) fpX13_273 fd_111_27 rfl (np 209 rfl ?_)
              refine r_iload_n (dc dkX13_board 110 rfl) rfl (np 210 rfl ?_)
              exact r_iret (dc dkX13_board 111 rfl) rfl (by
                  rw [hFe]
                  have k7 : ∀ c, ¬ c = 113 → ¬ c = 118 → τ7 c = τ c := fun c h1 h2 => by rw [hI180.2.2 c h2, hI158.2.2.2 c h1]
                  have k1 := k7 111 (by decide) (by decide)
                  refine ⟨⟨⟨fun c h1 h2 => ?_, fun j hj => ?_⟩, ?_, ?_, fun j j0 j1 => ?_, ?_, ?_⟩, fun _ => ⟨rfl, fun j j0 j1 => ?_, fun j j0 j1 => ?_, fun j j0 j1 => ?_, ju_at _ _ _ _⟩, fun z => absurd hRc z⟩
                  · rw [ju_off _ _ _ _ _ h1]
                    simp at h2
                    rw [k7 c (by omega) (by omega)]
                    exact frc.1 c h1 (by simp; omega)
                  · rw [ju_ne (fun z => hj (by rw [z.2]; decide)), k1]
                    exact (frc.wide (X' := [0, 2, 3, 4, 5, 6, 7, 8, 9, 10, 11, 12, 13, 14, 27]) (Y' := [114, 119]) (by decide) (by decide)).2 j hj
                  · rw [ju_ne (by decide), k1]; exact z0
                  · rw [ju_ne (by decide), k1]; exact z2
                  · rw [ju_off _ _ _ _ _ (by decide), k7 119 (by decide) (by decide), hNc]; exact hlc j j0 j1
                  · rw [ju_ne (by decide), k1]
                    have := hMc.2.2.2.2.2.2.2.2.2.2.2.2
                    show τ 111 10 = Rc.1
                    omega
                  · rw [ju_ne (by decide), k1, if_neg (show ¬ Rc.1 = 5 by omega)]; exact w12
                  · rw [ju_off _ _ _ _ _ (by decide), hI180.2.2 113 (by decide), hI158.2.1 j j0 j1]; exact hEc j j0 j1
                  · rw [ju_off _ _ _ _ _ (by decide), hI180.2.2 113 (by decide), hI158.2.2.1 j j0 (by omega)]
                  · rw [ju_off _ _ _ _ _ (by decide), hI180.2.1 j j0 (by omega), hNc])
            refine r_aload_n (dc dkX13_board 97 rfl) rfl (np 187 rfl ?_)
            refine r_getR (dc dkX13_board 98 rfl) flX13_28 fd_111_20 (np 190 rfl ?_)
            refine r_iload_n (dc dkX13_board 99 rfl) rfl (np 191 rfl ?_)
            refine r_aload_n (dc dkX13_board 100 rfl) rfl (np 192 rfl ?_)
            refine r_getR (dc dkX13_board 101 rfl) flX13_32 fd_111_21 (np 195 rfl ?_)
            refine r_iload_n (dc dkX13_board 102 rfl) rfl (np 196 rfl ?_)
            refine r_lald (dc dkX13_board 103 rfl) ar_119 (by omega) (np 197 rfl ?_)
            refine r_last (dc dkX13_board 104 rfl) ar_118 (by omega) (np 198 rfl ?_)
            refine r_iinc (lv' := [(2, _), (0, _), (1, _)]) (dc dkX13_board 105 rfl) (Nat.le_of_ble_eq_true rfl) rfl rfl (np 201 rfl ?_)
            refine r_goto (tgt := 180) (dc dkX13_board 106 rfl) rfl ?_
            refine r_pick [1, 2, 0] rfl ?_
            exact ih180 _ _ ⟨by omega, fun j j0 j1 => by rcases (show j < i ∨ j = i by omega) with z | z; rw [ju_ne (by omega)]; exact hI180.2.1 j j0 z; rw [z, ju_at, hI180.2.2 119 (by decide), hI158.2.2.2 119 (by decide)], fun c hc => by rw [ju_off _ _ _ _ _ hc]; exact hI180.2.2 c hc⟩ (by omega)
          refine r_aload_n (dc dkX13_board 85 rfl) rfl (np 166 rfl ?_)
          refine r_getR (dc dkX13_board 86 rfl) flX13_13 fd_111_15 (np 169 rfl ?_)
          refine r_iload_n (dc dkX13_board 87 rfl) rfl (np 170 rfl ?_)
          refine r_iconst (dc dkX13_board 88 rfl) (np 171 rfl ?_)
          refine r_iast (dc dkX13_board 89 rfl) ar_113 (by omega) (np 172 rfl ?_)
          refine r_iinc (lv' := [(2, _), (0, _), (1, _)]) (dc dkX13_board 90 rfl) (Nat.le_of_ble_eq_true rfl) rfl rfl (np 175 rfl ?_)
          refine r_goto (tgt := 158) (dc dkX13_board 91 rfl) rfl ?_
          refine r_pick [1, 2, 0] rfl ?_
          exact ih158 _ _ ⟨by omega, fun j j0 j1 => by rw [ju_ne (by omega)]; exact hI158.2.1 j j0 j1, fun j j0 j1 => by rcases (show j < i ∨ j = i by omega) with z | z; rw [ju_ne (by omega)]; exact hI158.2.2.1 j j0 z; rw [z, ju_at], fun c hc => by rw [ju_off _ _ _ _ _ hc]; exact hI158.2.2.2 c hc⟩ (by omega)
        refine r_aload_n (dc dkX13_board 70 rfl) rfl (np 137 rfl ?_)
        refine r_getR (dc dkX13_board 71 rfl) flX13_13 fd_111_15 (np 140 rfl ?_)
        refine r_iload_n (dc dkX13_board 72 rfl) rfl (np 141 rfl ?_)
        refine r_aload_n (dc dkX13_board 73 rfl) rfl (np 142 rfl ?_)
        refine r_getR (dc dkX13_board 74 rfl) flX13_16 fd_111_16 (np 145 rfl ?_)
        refine r_iload_n (dc dkX13_board 75 rfl) rfl (np 146 rfl ?_)
        refine r_iald (dc dkX13_board 76 rfl) ar_114 (by omega) (np 147 rfl ?_)
        refine r_iast (dc dkX13_board 77 rfl) ar_113 (by omega) (np 148 rfl ?_)
        refine r_iinc (lv' := [(2, _), (0, _), (1, _)]) (dc dkX13_board 78 rfl) (Nat.le_of_ble_eq_true rfl) rfl rfl (np 151 rfl ?_)
        refine r_goto (tgt := 129) (dc dkX13_board 79 rfl) rfl ?_
        refine r_pick [1, 2, 0] rfl ?_
        exact ih129 _ _ ⟨by omega, fun j j0 j1 => by rcases (show j < i ∨ j = i by omega) with z | z; rw [ju_ne (by omega)]; exact hI129.2.1 j j0 z; rw [z, ju_at, hI129.2.2 114 (by decide)], fun c hc => by rw [ju_off _ _ _ _ _ hc]; exact hI129.2.2 c hc⟩ (by omega)
      have hno : ¬ (¬ Rc.1 = 0 ∨ tK t L 600 Rc.2 = 0) := fun z => z.elim (fun z => z hRc) (fun z => h49 (k0.mpr z))
      refine r_aload_n (dc dkX13_board 28 rfl) rfl (np 53 rfl ?_)
      refine r_iconst (dc dkX13_board 29 rfl) (np 54 rfl ?_)
      have jj102 : ∀ τ3 : jS, mdT [0, 2, 3, 4, 5, 6, 7, 8, 9, 10, 11, 12, 13, 14] [114, 119] σ τ3 ∧ mR t L 600 (ln0 t L 600 Rc Dc Nc) τ3 ∧ ((ln0 t L 600 Rc Dc Nc).1 = 0 → eqD τ3 (lnD t L 600 Rc Dc Nc) ∧ τ3 119 = lnN t L 600 Rc Dc Nc) ∧ (∀ j, 0 ≤ j → j < 8 → lR (τ3 119 j)) ∧ τ3 111 12 = (if (ln0 t L 600 Rc Dc Nc).1 = 5 then bnW t L 600 Rc Dc Nc else σ 111 12) ∧ τ3 111 0 = 0 ∧ τ3 111 2 = 0 → jR 9 miX13_board (fun r τ => (mdT [0, 2, 3, 4, 5, 6, 7, 8, 9, 10, 11, 12, 13, 14, 27] [113, 114, 118, 119] σ τ ∧ τ 111 0 = 0 ∧ τ 111 2 = 0 ∧ (∀ j, 0 ≤ j → j < 8 → lR (τ 119 j)) ∧ τ 111 10 = (bdF t L N).1.1 ∧ τ 111 12 = (if (bdF t L N).1.1 = 5 then (bdF t L N).2.2.2.2 else σ 111 12)) ∧ ((bdF t L N).1.1 = 0 → r = some (vI (bdF t L N).2.2.2.1) ∧ (∀ j, 0 ≤ j → j < 241 → τ 113 j = (bdF t L N).2.1 j) ∧ (∀ j, 241 ≤ j → j < 512 → τ 113 j = 0) ∧ (∀ j, 0 ≤ j → j < 8 → τ 118 j = (bdF t L N).2.2.1 j) ∧ τ 111 27 = 0) ∧ (¬ (bdF t L N).1.1 = 0 → r = some (vI (-1 - (bdF t L N).1.2)) ∧ τ 113 = σ 113 ∧ τ 118 = σ 118 ∧ τ 111 27 = σ 111 27)) 102 [(0, .ref 111), (1, vI n)] [vI (bI ((ln0 t L 600 Rc Dc Nc).1 = 0))] τ3 := by
        intro τ3 hq
        obtain ⟨F3, hM3, hQ3, hl3, hw3, z03, z23⟩ := hq
        refine r_istore_n (lv' := [(2, _), (0, _), (1, _)]) (dc dkX13_board 52 rfl) (Nat.le_of_ble_eq_true rfl) rfl (np 103 rfl ?_)
        refine r_iload_n (dc dkX13_board 53 rfl) rfl (np 104 rfl ?_)
        refine r_bz (tgt := 114) (dc dkX13_board 54 rfl) rfl (fun h104 => ?_) (fun h104 => (np 107 rfl ?_))
        · skip
          refine r_iconst (dc dkX13_board 58 rfl) (np 115 rfl ?_)
          refine r_aload_n (dc dkX13_board 59 rfl) rfl (np 116 rfl ?_)
          refine r_gI 11 (dc dkX13_board 60 rfl) flX13_162 fd_111_11 rfl (np 119 rfl ?_)
          refine r_isub (dc dkX13_board 61 rfl) (np 120 rfl ?_)
          exact r_iret (dc dkX13_board 62 rfl) rfl (by
              first
              | (have x1 : lnR t L 600 Rc Dc Nc = ln0 t L 600 Rc Dc Nc := by rw [lnR, xpR_e h104]
                 have hFe : bdF t L N = (ln0 t L 600 Rc Dc Nc, Dc, Nc, n + 1, bnW t L 600 Rc Dc Nc) := by rw [hF, hK, lnF_n hno (by rw [x1]; exact h104), x1]
                 rw [hFe]
                 exact ⟨⟨F3.wide (by decide) (by decide), z03, z23, hl3, mR_10 hM3, hw3⟩, fun z => absurd z h104, fun _ => ⟨by rw [mR_11 hM3 h104], F3.1 113 (by decide) (by decide), F3.1 118 (by decide) (by decide), F3.2 27 (by decide)⟩⟩)
              | (have hFe : bdF t L N = (lnR t L 600 Rc Dc Nc, Dc, Nc, n + 1, bnW t L 600 Rc Dc Nc) := by rw [hF, hK, lnF_n hno h111]
                 have F4 := F3.trS hs4 (X' := [5, 6, 7, 8, 9, 10, 11, 13, 14]) (by decide)
                 rw [hFe]
                 refine ⟨⟨F4.wide (by decide) (by decide), (hs4.2 0 (by decide)).trans z03, (hs4.2 2 (by decide)).trans z23, fun j j0 j1 => by rw [hs4.1 119 (by decide)]; exact hl3 j j0 j1, mR_10 hM4, ?_⟩, fun z => absurd z h111, fun _ => ⟨by rw [mR_11 hM4 h111], F4.1 113 (by decide) (by decide), F4.1 118 (by decide) (by decide), F4.2 27 (by decide)⟩⟩
                 have n5 : ¬ (lnR t L 600 Rc Dc Nc).1 = 5 := fun z => by have := xp_5 z; omega
                 rw [if_neg n5, hs4.2 12 (by decide), hw3, if_neg (by omega)]))
        refine r_aload_n (dc dkX13_board 55 rfl) rfl (np 108 rfl ?_)
        refine r_cV0 (y' := miX13_readEnd) (dc dkX13_board 56 rfl) mlX13_255 ceX13_readEnd ob_111 (Nat.le_of_ble_eq_true rfl) (Nat.le_of_ble_eq_true rfl) (c_xpE h104 (hM3.1 h104)) (fun r τ4 hp4 => (np 111 rfl ?_))
        obtain ⟨rfl, hs4, hM4⟩ := hp4
        change mR t L 600 (lnR t L 600 Rc Dc Nc) τ4 at hM4
        change jR _ _ _ _ _ [vI (bI ((lnR t L 600 Rc Dc Nc).1 = 0))] _
        refine r_bn (tgt := 121) (dc dkX13_board 57 rfl) rfl (fun h111 => ?_) (fun h111 => (np 114 rfl ?_))
        · skip
          refine r_iinc (lv' := [(1, _), (2, _), (0, _)]) (dc dkX13_board 63 rfl) (Nat.le_of_ble_eq_true rfl) rfl rfl (np 124 rfl ?_)
          refine r_goto (tgt := 45) (dc dkX13_board 64 rfl) rfl ?_
          refine r_pick [2, 0] rfl ?_
          exact ih45 _ _ (by
                have v := okV_ln hVc hTc hRc h111
                have p := ln_2 mq.2 h111
                have x0 := (xpR_f h111).1.1
                have q3 := hQ3 x0
                refine ⟨_, lnD t L 600 Rc Dc Nc, lnN t L 600 Rc Dc Nc, by omega, h111, hM4.1 h111, eqD_s q3.1 hs4, by rw [hs4.1 119 (by decide)]; exact q3.2, ?_, v.1, v.2.1, ?_, F3.trS hs4 (by decide), ?_, (hs4.2 0 (by decide)).trans z03, (hs4.2 2 (by decide)).trans z23⟩
                · rw [← q3.2]; exact hl3
                · rw [hF, hK, lnF_y hno h111]
                · rw [hs4.2 12 (by decide), hw3, if_neg (by omega)]) (by omega)
        refine r_iconst (dc dkX13_board 58 rfl) (np 115 rfl ?_)
        refine r_aload_n (dc dkX13_board 59 rfl) rfl (np 116 rfl ?_)
        refine r_gI 11 (dc dkX13_board 60 rfl) flX13_162 fd_111_11 rfl (np 119 rfl ?_)
        refine r_isub (dc dkX13_board 61 rfl) (np 120 rfl ?_)
        exact r_iret (dc dkX13_board 62 rfl) rfl (by
            first
            | (have x1 : lnR t L 600 Rc Dc Nc = ln0 t L 600 Rc Dc Nc := by rw [lnR, xpR_e h104]
               have hFe : bdF t L N = (ln0 t L 600 Rc Dc Nc, Dc, Nc, n + 1, bnW t L 600 Rc Dc Nc) := by rw [hF, hK, lnF_n hno (by rw [x1]; exact h104), x1]
               rw [hFe]
               exact ⟨⟨F3.wide (by decide) (by decide), z03, z23, hl3, mR_10 hM3, hw3⟩, fun z => absurd z h104, fun _ => ⟨by rw [mR_11 hM3 h104], F3.1 113 (by decide) (by decide), F3.1 118 (by decide) (by decide), F3.2 27 (by decide)⟩⟩)
            | (have hFe : bdF t L N = (lnR t L 600 Rc Dc Nc, Dc, Nc, n + 1, bnW t L 600 Rc Dc Nc) := by rw [hF, hK, lnF_n hno h111]
               have F4 := F3.trS hs4 (X' := [5, 6, 7, 8, 9, 10, 11, 13, 14]) (by decide)
               rw [hFe]
               refine ⟨⟨F4.wide (by decide) (by decide), (hs4.2 0 (by decide)).trans z03, (hs4.2 2 (by decide)).trans z23, fun j j0 j1 => by rw [hs4.1 119 (by decide)]; exact hl3 j j0 j1, mR_10 hM4, ?_⟩, fun z => absurd z h111, fun _ => ⟨by rw [mR_11 hM4 h111], F4.1 113 (by decide) (by decide), F4.1 118 (by decide) (by decide), F4.2 27 (by decide)⟩⟩
               have n5 : ¬ (lnR t L 600 Rc Dc Nc).1 = 5 := fun z => by have := xp_5 z; omega
               rw [if_neg n5, hs4.2 12 (by decide), hw3, if_neg (by omega)]))
      refine r_pV1 (y' := miX13_isWord) (dc dkX13_board 30 rfl) mlX13_252 ceX13_isWord ob_111 (Nat.le_of_ble_eq_true rfl) (Nat.le_of_ble_eq_true rfl) (c_X13_isWord hMc (by decide)) (np 57 rfl ?_)
      refine r_bz (tgt := 67) (dc dkX13_board 31 rfl) rfl (fun h57 => ?_) (fun h57 => (np 60 rfl ?_))
      · skip
        refine r_aload_n (dc dkX13_board 35 rfl) rfl (np 68 rfl ?_)
        refine r_iconst (dc dkX13_board 36 rfl) (np 69 rfl ?_)
        refine r_pV1 (y' := miX13_isWord) (dc dkX13_board 37 rfl) mlX13_252 ceX13_isWord ob_111 (Nat.le_of_ble_eq_true rfl) (Nat.le_of_ble_eq_true rfl) (c_X13_isWord hMc (by decide)) (np 72 rfl ?_)
        refine r_bz (tgt := 82) (dc dkX13_board 38 rfl) rfl (fun h72 => ?_) (fun h72 => (np 75 rfl ?_))
        · skip
          refine r_aload_n (dc dkX13_board 42 rfl) rfl (np 83 rfl ?_)
          refine r_iconst (dc dkX13_board 43 rfl) (np 84 rfl ?_)
          refine r_pV1 (y' := miX13_isWord) (dc dkX13_board 44 rfl) mlX13_252 ceX13_isWord ob_111 (Nat.le_of_ble_eq_true rfl) (Nat.le_of_ble_eq_true rfl) (c_X13_isWord hMc (by decide)) (np 87 rfl ?_)
          refine r_bz (tgt := 97) (dc dkX13_board 45 rfl) rfl (fun h87 => ?_) (fun h87 => (np 90 rfl ?_))
          · skip
            refine r_aload_n (dc dkX13_board 49 rfl) rfl (np 98 rfl ?_)
            refine r_iconst (dc dkX13_board 50 rfl) (np 99 rfl ?_)
            refine r_cV1 (y' := miX13_bad) (dc dkX13_board 51 rfl) mlX13_165 ceX13_bad ob_111 (Nat.le_of_ble_eq_true rfl) (Nat.le_of_ble_eq_true rfl) (c_bdR hRc hMc (by decide) (fun _ => rfl)) (fun r τ3 hp3 => (np 102 rfl ?_))
            obtain ⟨rfl, hs3, hM3⟩ := hp3
            have l0 : ln0 t L 600 Rc Dc Nc = flR t L 600 1 Rc := by rw [ln0, gte_f (by omega), gte_f (by omega), gte_f (by omega)]
            refine r_eqI (bI ((ln0 t L 600 Rc Dc Nc).1 = 0)) (by rw [l0, bI_f (flR_f (by decide))]) ?_
            refine r_pick [0, 1] rfl ?_
            exact jj102 _ (by
                   first
                   | (rw [l0, l2, l3]
                      refine ⟨frc.tr (hs3.wide (by decide) (by decide)), hM3, hE3, hl3, ?_, (hs3.2 0 (by decide)).trans z0, (hs3.2 2 (by decide)).trans z2⟩
                      rw [hw3, w12])
                   | (rw [l0, l2, l3]
                      refine ⟨frc.tr (hs3.wide (by decide) (by decide)), hM3, fun z => ⟨hE3 z, ?_⟩, fun j j0 j1 => ?_, ?_, (hs3.2 0 (by decide)).trans z0, (hs3.2 2 (by decide)).trans z2⟩
                      · rw [hs3.1 119 (by decide) (by decide)]; exact hNc
                      · rw [hs3.1 119 (by decide) (by decide), hNc]; exact hlc j j0 j1
                      · rw [if_neg (by first | exact n5_bl (show ¬ Rc.1 = 5 by omega) | exact n5_ot (show ¬ Rc.1 = 5 by omega)), hs3.2 12 (by decide)]; exact w12)
                   | (rw [l0]
                      refine ⟨frc.trS hs3 (by decide), hM3, fun z => absurd z (flR_f (by decide)), fun j j0 j1 => ?_, ?_, (hs3.2 0 (by decide)).trans z0, (hs3.2 2 (by decide)).trans z2⟩
                      · rw [hs3.1 119 (by decide), hNc]; exact hlc j j0 j1
                      · rw [if_neg (n5_fl (by decide) (show ¬ Rc.1 = 5 by omega)), hs3.2 12 (by decide)]; exact w12))
          refine r_aload_n (dc dkX13_board 46 rfl) rfl (np 91 rfl ?_)
          refine r_cV0 (y' := miX13_readBand) (dc dkX13_board 47 rfl) mlX13_270 ceX13_readBand ob_111 (Nat.le_of_ble_eq_true rfl) (Nat.le_of_ble_eq_true rfl) (c_X13_readBand hMc hEc hNc hlc (by omega) hVc hTc) (fun r τ3 hp3 => (np 94 rfl ?_))
          obtain ⟨rfl, hs3, hM3, hE3, hl3, hw3⟩ := hp3
          rw [pr0 hRc] at hM3 hE3 hw3
          have l0 : ln0 t L 600 Rc Dc Nc = bnR t L 600 Rc Dc Nc := by rw [ln0, gte_f (by omega), gte_f (by omega), gte_t (by omega)]
          have l2 : lnD t L 600 Rc Dc Nc = bnD t L 600 Rc Dc Nc := by rw [lnD, gte_f (by omega), gte_f (by omega)]
          have l3 : lnN t L 600 Rc Dc Nc = bnN t L 600 Rc Dc Nc := by rw [lnN, gte_t (by omega)]
          refine r_eqI (bI ((ln0 t L 600 Rc Dc Nc).1 = 0)) (by rw [l0, pr0 hRc]) ?_
          refine r_goto (tgt := 102) (dc dkX13_board 48 rfl) rfl ?_
          refine r_pick [0, 1] rfl ?_
          exact jj102 _ (by
                 first
                 | (rw [l0, l2, l3]
                    refine ⟨frc.tr (hs3.wide (by decide) (by decide)), hM3, hE3, hl3, ?_, (hs3.2 0 (by decide)).trans z0, (hs3.2 2 (by decide)).trans z2⟩
                    rw [hw3, w12])
                 | (rw [l0, l2, l3]
                    refine ⟨frc.tr (hs3.wide (by decide) (by decide)), hM3, fun z => ⟨hE3 z, ?_⟩, fun j j0 j1 => ?_, ?_, (hs3.2 0 (by decide)).trans z0, (hs3.2 2 (by decide)).trans z2⟩
                    · rw [hs3.1 119 (by decide) (by decide)]; exact hNc
                    · rw [hs3.1 119 (by decide) (by decide), hNc]; exact hlc j j0 j1
                    · rw [if_neg (by first | exact n5_bl (show ¬ Rc.1 = 5 by omega) | exact n5_ot (show ¬ Rc.1 = 5 by omega)), hs3.2 12 (by decide)]; exact w12)
                 | (rw [l0]
                    refine ⟨frc.trS hs3 (by decide), hM3, fun z => absurd z (flR_f (by decide)), fun j j0 j1 => ?_, ?_, (hs3.2 0 (by decide)).trans z0, (hs3.2 2 (by decide)).trans z2⟩
                    · rw [hs3.1 119 (by decide), hNc]; exact hlc j j0 j1
                    · rw [if_neg (n5_fl (by decide) (show ¬ Rc.1 = 5 by omega)), hs3.2 12 (by decide)]; exact w12))
        refine r_aload_n (dc dkX13_board 39 rfl) rfl (np 76 rfl ?_)
        refine r_cV0 (y' := miX13_readOut) (dc dkX13_board 40 rfl) mlX13_267 ceX13_readOut ob_111 (Nat.le_of_ble_eq_true rfl) (Nat.le_of_ble_eq_true rfl) (c_X13_readOut hMc hEc (by omega) hVc hTc) (fun r τ3 hp3 => (np 79 rfl ?_))
        obtain ⟨rfl, hs3, hM3, hE3⟩ := hp3
        rw [pr0 hRc] at hM3 hE3
        have l0 : ln0 t L 600 Rc Dc Nc = otR t L 600 Rc Dc := by rw [ln0, gte_f (by omega), gte_t (by omega)]
        have l2 : lnD t L 600 Rc Dc Nc = otD t L 600 Rc Dc := by rw [lnD, gte_f (by omega), gte_t (by omega)]
        have l3 : lnN t L 600 Rc Dc Nc = Nc := by rw [lnN, gte_f (by omega)]
        refine r_eqI (bI ((ln0 t L 600 Rc Dc Nc).1 = 0)) (by rw [l0, pr0 hRc]) ?_
        refine r_goto (tgt := 102) (dc dkX13_board 41 rfl) rfl ?_
        refine r_pick [0, 1] rfl ?_
        exact jj102 _ (by
               first
               | (rw [l0, l2, l3]
                  refine ⟨frc.tr (hs3.wide (by decide) (by decide)), hM3, hE3, hl3, ?_, (hs3.2 0 (by decide)).trans z0, (hs3.2 2 (by decide)).trans z2⟩
                  rw [hw3, w12])
               | (rw [l0, l2, l3]
                  refine ⟨frc.tr (hs3.wide (by decide) (by decide)), hM3, fun z => ⟨hE3 z, ?_⟩, fun j j0 j1 => ?_, ?_, (hs3.2 0 (by decide)).trans z0, (hs3.2 2 (by decide)).trans z2⟩
                  · rw [hs3.1 119 (by decide) (by decide)]; exact hNc
                  · rw [hs3.1 119 (by decide) (by decide), hNc]; exact hlc j j0 j1
                  · rw [if_neg (by first | exact n5_bl (show ¬ Rc.1 = 5 by omega) | exact n5_ot (show ¬ Rc.1 = 5 by omega)), hs3.2 12 (by decide)]; exact w12)
               | (rw [l0]
                  refine ⟨frc.trS hs3 (by decide), hM3, fun z => absurd z (flR_f (by decide)), fun j j0 j1 => ?_, ?_, (hs3.2 0 (by decide)).trans z0, (hs3.2 2 (by decide)).trans z2⟩
                  · rw [hs3.1 119 (by decide), hNc]; exact hlc j j0 j1
                  · rw [if_neg (n5_fl (by decide) (show ¬ Rc.1 = 5 by omega)), hs3.2 12 (by decide)]; exact w12))
      refine r_aload_n (dc dkX13_board 32 rfl) rfl (np 61 rfl ?_)
      refine r_cV0 (y' := miX13_readBell) (dc dkX13_board 33 rfl) mlX13_264 ceX13_readBell ob_111 (Nat.le_of_ble_eq_true rfl) (Nat.le_of_ble_eq_true rfl) (c_X13_readBell hMc hEc (by omega) hVc.2.1) (fun r τ3 hp3 => (np 64 rfl ?_))
      obtain ⟨rfl, hs3, hM3, hE3⟩ := hp3
      rw [pr0 hRc] at hM3 hE3
      have l0 : ln0 t L 600 Rc Dc Nc = blR t L 600 Rc Dc := by rw [ln0, gte_t (by omega)]
      have l2 : lnD t L 600 Rc Dc Nc = blD Dc := by rw [lnD, gte_t (by omega)]
      have l3 : lnN t L 600 Rc Dc Nc = Nc := by rw [lnN, gte_f (by omega)]
      refine r_eqI (bI ((ln0 t L 600 Rc Dc Nc).1 = 0)) (by rw [l0, pr0 hRc]) ?_
      refine r_goto (tgt := 102) (dc dkX13_board 34 rfl) rfl ?_
      refine r_pick [0, 1] rfl ?_
      exact jj102 _ (by
             first
             | (rw [l0, l2, l3]
                refine ⟨frc.tr (hs3.wide (by decide) (by decide)), hM3, hE3, hl3, ?_, (hs3.2 0 (by decide)).trans z0, (hs3.2 2 (by decide)).trans z2⟩
                rw [hw3, w12])
             | (rw [l0, l2, l3]
                refine ⟨frc.tr (hs3.wide (by decide) (by decide)), hM3, fun z => ⟨hE3 z, ?_⟩, fun j j0 j1 => ?_, ?_, (hs3.2 0 (by decide)).trans z0, (hs3.2 2 (by decide)).trans z2⟩
                · rw [hs3.1 119 (by decide) (by decide)]; exact hNc
                · rw [hs3.1 119 (by decide) (by decide), hNc]; exact hlc j j0 j1
                · rw [if_neg (by first | exact n5_bl (show ¬ Rc.1 = 5 by omega) | exact n5_ot (show ¬ Rc.1 = 5 by omega)), hs3.2 12 (by decide)]; exact w12)
             | (rw [l0]
                refine ⟨frc.trS hs3 (by decide), hM3, fun z => absurd z (flR_f (by decide)), fun j j0 j1 => ?_, ?_, (hs3.2 0 (by decide)).trans z0, (hs3.2 2 (by decide)).trans z2⟩
                · rw [hs3.1 119 (by decide), hNc]; exact hlc j j0 j1
                · rw [if_neg (n5_fl (by decide) (show ¬ Rc.1 = 5 by omega)), hs3.2 12 (by decide)]; exact w12))
    refine r_iconst (dc dkX13_board 18 rfl) (np 37 rfl ?_)
    refine r_aload_n (dc dkX13_board 19 rfl) rfl (np 38 rfl ?_)
    refine r_gI 11 (dc dkX13_board 20 rfl) flX13_162 fd_111_11 rfl (np 41 rfl ?_)
    refine r_isub (dc dkX13_board 21 rfl) (np 42 rfl ?_)
    exact r_iret (dc dkX13_board 22 rfl) rfl (by
        have hF : bdF t L N = (hdR t L 600 (0, 0), hdD t L 600 (0, 0) (fun _ => 0), N, 1, 0) := by rw [bdF, lnF_e (Or.inl h33)]
        rw [hF]
        refine ⟨⟨fr2.wide (by decide) (by decide), z02, z22, fun j j0 j1 => by rw [N2]; exact hl j j0 j1, mR_10 hM2, by rw [if_neg (hd_5 rfl)]; exact w2⟩, fun z => absurd z h33, fun _ => ⟨by rw [mR_11 hM2 h33], fr2.1 113 (by decide) (by decide), fr2.1 118 (by decide) (by decide), fr2.2 27 (by decide)⟩⟩)
  refine r_aload_n (dc dkX13_board 8 rfl) rfl (np 17 rfl ?_)
  refine r_getR (dc dkX13_board 9 rfl) flX13_16 fd_111_16 (np 20 rfl ?_)
  refine r_iload_n (dc dkX13_board 10 rfl) rfl (np 21 rfl ?_)
  refine r_iconst (dc dkX13_board 11 rfl) (np 22 rfl ?_)
  refine r_iast (dc dkX13_board 12 rfl) ar_114 (by omega) (np 23 rfl ?_)
  refine r_iinc (lv' := [(1, _), (0, _)]) (dc dkX13_board 13 rfl) (Nat.le_of_ble_eq_true rfl) rfl rfl (np 26 rfl ?_)
  refine r_goto (tgt := 9) (dc dkX13_board 14 rfl) rfl ?_
  refine r_pick [1, 0] rfl ?_
  exact ih9 _ _ ⟨by omega, fun j j0 j1 => by rcases (show j < i ∨ j = i by omega) with z | z; rw [ju_ne (by omega)]; exact hI9.2.1 j j0 z; rw [z, ju_at], fun c hc => by rw [ju_off _ _ _ _ _ hc]; exact hI9.2.2 c hc⟩ (by omega)
