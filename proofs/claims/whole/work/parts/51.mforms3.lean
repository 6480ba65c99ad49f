theorem cn_c {σ τ : jS} (e : τ 113 = σ 113) (b : Int) : cn τ 113 b = cn σ 113 b := by unfold cn; rw [e]
set_option maxRecDepth 100000 in
set_option maxHeartbeats 4000000 in
theorem c_X13_layForm {σ : jS} (hN : okN σ) {b : Int} (h0 : 0 ≤ b) (h1 : b < σ 113 4) {w : Int} (hw : 0 ≤ w ∧ w ≤ 2) : Jm 5 miX13_layForm [.ref 111, vI b, vI w] σ (fun r τ => r = none ∧ same [125, 126, 127] σ τ ∧ (∀ j, 0 ≤ j → j < 2 * cn σ 113 b → cB 18 (τ 127 j)) ∧ lsO (2 * cn σ 113 b) (VV (cn σ 113 b) 0 (lPs w)) (rwV (cn σ 113 b) (rP σ 113 b)) (τ 127)) := by
  have hv := hN.2 b h0 h1
  have n1 := hv.1
  have m1 := hN.1.2.2.2.2.1
  have hPg : ∀ i, 0 ≤ i → isPg (rP σ 113 b i) := fun i _ => rP_p hv i
  have lb := lPs_b w
  refine jm_ofF (Po := (fun r τ => r = none ∧ same [125, 126, 127] σ τ ∧ (∀ j, 0 ≤ j → j < 2 * cn σ 113 b → cB 18 (τ 127 j)) ∧ lsO (2 * cn σ 113 b) (VV (cn σ 113 b) 0 (lPs w)) (rwV (cn σ 113 b) (rP σ 113 b)) (τ 127))) (plainFor_of_name (by decide)) (Nat.le_of_ble_eq_true rfl) (lv := [(0, _), (1, _), (2, _)]) rfl ?_
  refine r_iconst (dc dkX13_layForm 0 rfl) (np 1 rfl ?_)
  refine r_istore_n (lv' := [(3, _), (0, _), (1, _), (2, _)]) (dc dkX13_layForm 1 rfl) (Nat.le_of_ble_eq_true rfl) rfl (np 2 rfl ?_)
  refine r_pick [1, 2, 3, 0] (lv' := [(0, _), (1, _), (2, _), (3, _)]) rfl ?_
  refine jlp2 (P := fun (q : Int) (τ : jS) => jR _ _ _ 2 [(0, .ref 111), (1, vI b), (2, vI w), (3, vI q)] [] τ) (I := fun (q : Int) (τ : jS) => (0 ≤ q ∧ q ≤ (if w = 0 then 1 else 4)) ∧ same [125, 126, 127] σ τ ∧ (q = 0 ∨ ((∀ j, 0 ≤ j → j < 2 * cn σ 113 b → cB 18 (τ 127 j)) ∧ lsO (2 * cn σ 113 b) (fun p2 i2 => ((0 ≤ p2 ∧ p2 < q) ∨ (w = 2 ∧ 4 ≤ p2 ∧ p2 < 4 + q)) ∧ 0 ≤ i2 ∧ i2 < 2 * cn σ 113 b) (rwV (cn σ 113 b) (rP σ 113 b)) (τ 127)))) (fun (q : Int) (τ : jS) => ((if w = 0 then 1 else 4 : Int) - q).toNat) ?_ _ _ ⟨by split <;> omega, same.refl _ _, Or.inl rfl⟩
  intro q τ hI2 ih2
  have e113 : τ 113 = σ 113 := hI2.2.1 113 (by decide)
  have hNt := okN_c hN e113
  have h1t : b < τ 113 4 := by rw [e113]; exact h1
  have ecn := cn_c e113 b
  have hqb := hI2.1
  refine r_iload_n (dc dkX13_layForm 2 rfl) rfl (np 3 rfl ?_)
  have jj12 : ∀ c : Int, c = (if w = 0 then 1 else 4) → jR 5 miX13_layForm (fun r τ => r = none ∧ same [125, 126, 127] σ τ ∧ (∀ j, 0 ≤ j → j < 2 * cn σ 113 b → cB 18 (τ 127 j)) ∧ lsO (2 * cn σ 113 b) (VV (cn σ 113 b) 0 (lPs w)) (rwV (cn σ 113 b) (rP σ 113 b)) (τ 127)) 12 [(0, .ref 111), (1, vI b), (2, vI w), (3, vI q)] [vI c, vI q] τ := by
    intro c hc
    refine r_icmp_ge (tgt := 71) (dc dkX13_layForm 8 rfl) rfl (by omega) (by omega) (fun h12 => ?_) (fun h12 => (np 15 rfl ?_))
    · skip
      exact r_vret (dc dkX13_layForm 41 rfl) rfl (by
          rcases hI2.2.2 with z | z
          · exfalso; split at hc <;> omega
          · refine ⟨rfl, hI2.2.1, z.1, lsO_V z.2 (fun p2 i2 => ?_)⟩
            unfold VV lPs
            by_cases w0 : w = 0
            · rw [if_pos w0] at hc hqb ⊢
              constructor <;> intro y <;> omega
            · rw [if_neg w0] at hc hqb ⊢
              by_cases w1 : w = 1
              · rw [if_pos w1]; constructor <;> intro y <;> omega
              · rw [if_neg w1]; constructor <;> intro y <;> omega)
    refine r_aload_n (dc dkX13_layForm 9 rfl) rfl (np 16 rfl ?_)
    refine r_iload_n (dc dkX13_layForm 10 rfl) rfl (np 17 rfl ?_)
    refine r_iload_n (dc dkX13_layForm 11 rfl) rfl (np 18 rfl ?_)
    refine r_iconst (dc dkX13_layForm 12 rfl) (np 19 rfl ?_)
    refine r_cV3 (y' := miX13_turnBand) (dc dkX13_layForm 13 rfl) mlX13_340 ceX13_turnBand ob_111 (Nat.le_of_ble_eq_true rfl) (Nat.le_of_ble_eq_true rfl) (c_X13_turnBand hNt h0 h1t (by omega) (by omega)) (fun r τ1 hp1 => (np 22 rfl ?_))
    obtain ⟨rfl, hs1, hT1⟩ := hp1
    rw [cn_c e113 b, rP_c2 e113 b] at hT1
    refine r_aload_n (dc dkX13_layForm 14 rfl) rfl (np 23 rfl ?_)
    refine r_aload_n (dc dkX13_layForm 15 rfl) rfl (np 24 rfl ?_)
    refine r_iload_n (dc dkX13_layForm 16 rfl) rfl (np 25 rfl ?_)
    refine r_pV1 (y' := miX13_corners) (dc dkX13_layForm 17 rfl) mlX13_279 ceX13_corners ob_111 (Nat.le_of_ble_eq_true rfl) (Nat.le_of_ble_eq_true rfl) (c_X13_corners (by omega)) (np 28 rfl ?_)
    have jj37 : ∀ x : Int, (x = 1 ∧ q = 0) ∨ (x = 0 ∧ ¬ q = 0) → jR 5 miX13_layForm (fun r τ => r = none ∧ same [125, 126, 127] σ τ ∧ (∀ j, 0 ≤ j → j < 2 * cn σ 113 b → cB 18 (τ 127 j)) ∧ lsO (2 * cn σ 113 b) (VV (cn σ 113 b) 0 (lPs w)) (rwV (cn σ 113 b) (rP σ 113 b)) (τ 127)) 37 [(0, .ref 111), (1, vI b), (2, vI w), (3, vI q)] [vI x, vI (cn σ 113 b), .ref 111] τ1 := by
      intro x hx
      refine r_cV2 (y' := miX13_leastRow) (dc dkX13_layForm 23 rfl) mlX13_344 ceX13_leastRow ob_111 (Nat.le_of_ble_eq_true rfl) (Nat.le_of_ble_eq_true rfl) (c_X13_leastRow (p := q) (Q := rP σ 113 b) (V := (fun p2 i2 => ((0 ≤ p2 ∧ p2 < q) ∨ (w = 2 ∧ 4 ≤ p2 ∧ p2 < 4 + q)) ∧ 0 ≤ i2 ∧ i2 < 2 * cn σ 113 b)) (by omega) hPg (fun i i0 i1 => by have := hT1 i i0 i1; rw [show q + 4 * 0 = q by omega] at this; exact this) (by rcases hx with z | z; exact Or.inl z.1; rcases hI2.2.2 with y | y; omega; exact Or.inr ⟨z.1, fun j j0 j1 => by rw [hs1 127 (by decide)]; exact y.1 j j0 j1, by rw [hs1 127 (by decide)]; exact y.2⟩)) (fun r τ2 hp2 => (np 40 rfl ?_))
      obtain ⟨rfl, hs2, hc2, hl2⟩ := hp2
      refine r_iload_n (dc dkX13_layForm 24 rfl) rfl (np 41 rfl ?_)
      refine r_iconst (dc dkX13_layForm 25 rfl) (np 42 rfl ?_)
      refine r_icmp_ge (tgt := 48) (dc dkX13_layForm 26 rfl) rfl (by first | assumption | decide | omega) (by first | assumption | decide | omega) (fun h42 => ?_) (fun h42 => (np 45 rfl ?_))
      · skip
        have e2 : τ2 113 = σ 113 := by rw [hs2 113 (by decide), hs1 113 (by decide)]; exact e113
        have hN2 := okN_c hN e2
        have h12 : b < τ2 113 4 := by rw [e2]; exact h1
        refine r_aload_n (dc dkX13_layForm 28 rfl) rfl (np 49 rfl ?_)
        refine r_iload_n (dc dkX13_layForm 29 rfl) rfl (np 50 rfl ?_)
        refine r_iload_n (dc dkX13_layForm 30 rfl) rfl (np 51 rfl ?_)
        refine r_iconst (dc dkX13_layForm 31 rfl) (np 52 rfl ?_)
        refine r_cV3 (y' := miX13_turnBand) (dc dkX13_layForm 32 rfl) mlX13_340 ceX13_turnBand ob_111 (Nat.le_of_ble_eq_true rfl) (Nat.le_of_ble_eq_true rfl) (c_X13_turnBand hN2 h0 h12 (by omega) (by omega)) (fun r τ3 hp3 => (np 55 rfl ?_))
        obtain ⟨rfl, hs3, hT3⟩ := hp3
        rw [cn_c e2 b, rP_c2 e2 b] at hT3
        refine r_aload_n (dc dkX13_layForm 33 rfl) rfl (np 56 rfl ?_)
        refine r_aload_n (dc dkX13_layForm 34 rfl) rfl (np 57 rfl ?_)
        refine r_iload_n (dc dkX13_layForm 35 rfl) rfl (np 58 rfl ?_)
        refine r_pV1 (y' := miX13_corners) (dc dkX13_layForm 36 rfl) mlX13_279 ceX13_corners ob_111 (Nat.le_of_ble_eq_true rfl) (Nat.le_of_ble_eq_true rfl) (c_X13_corners (by omega)) (np 61 rfl ?_)
        refine r_eqI (cn σ 113 b) (by rw [cn_c (show τ3 113 = σ 113 by rw [hs3 113 (by decide)]; exact e2)]) ?_
        refine r_iconst (dc dkX13_layForm 37 rfl) (np 62 rfl ?_)
        refine r_cV2 (y' := miX13_leastRow) (dc dkX13_layForm 38 rfl) mlX13_344 ceX13_leastRow ob_111 (Nat.le_of_ble_eq_true rfl) (Nat.le_of_ble_eq_true rfl) (c_X13_leastRow (p := q + 4 * 1) (Q := rP σ 113 b) (V := (fun p2 i2 => (x = 0 ∧ (fun p2 i2 => ((0 ≤ p2 ∧ p2 < q) ∨ (w = 2 ∧ 4 ≤ p2 ∧ p2 < 4 + q)) ∧ 0 ≤ i2 ∧ i2 < 2 * cn σ 113 b) p2 i2) ∨ (p2 = q ∧ 0 ≤ i2 ∧ i2 < 2 * cn σ 113 b))) (by omega) hPg hT3 (Or.inr ⟨rfl, fun j j0 j1 => by rw [hs3 127 (by decide)]; exact hc2 j j0 j1, by rw [hs3 127 (by decide)]; exact hl2⟩)) (fun r τ4 hp4 => (np 65 rfl ?_))
        obtain ⟨rfl, hs4, hc4, hl4⟩ := hp4
        refine r_iinc (lv' := [(3, _), (0, _), (1, _), (2, _)]) (dc dkX13_layForm 39 rfl) (Nat.le_of_ble_eq_true rfl) rfl rfl (np 68 rfl ?_)
        refine r_goto (tgt := 2) (dc dkX13_layForm 40 rfl) rfl ?_
        refine r_pick [1, 2, 3, 0] rfl ?_
        exact ih2 _ _ (by
              first
              | (refine ⟨by omega, ((hI2.2.1.tr (hs1.wide (by decide))).tr (hs2.wide (by decide))), Or.inr ⟨hc2, lsO_V hl2 (fun p2 i2 => ?_)⟩⟩
                 constructor
                 · intro z
                   by_cases zz : p2 = q
                   · exact Or.inr ⟨by omega, by omega, by omega⟩
                   · exact Or.inl ⟨by omega, by omega⟩
                 · intro z
                   rcases z with z | z <;> omega)
              | (refine ⟨by omega, ((((hI2.2.1.tr (hs1.wide (by decide))).tr (hs2.wide (by decide))).tr (hs3.wide (by decide))).tr (hs4.wide (by decide))), Or.inr ⟨hc4, lsO_V hl4 (fun p2 i2 => ?_)⟩⟩
                 constructor
                 · intro z
                   by_cases zz : p2 = q + 4 * 1
                   · exact Or.inr ⟨by omega, by omega, by omega⟩
                   · refine Or.inl ⟨rfl, ?_⟩
                     by_cases z2 : p2 = q
                     · exact Or.inr ⟨by omega, by omega, by omega⟩
                     · exact Or.inl ⟨by omega, by omega⟩
                 · intro z
                   rcases z with ⟨_, z | z⟩ | z <;> omega)) (by omega)
      refine r_goto (tgt := 65) (dc dkX13_layForm 27 rfl) rfl ?_
      refine r_iinc (lv' := [(3, _), (0, _), (1, _), (2, _)]) (dc dkX13_layForm 39 rfl) (Nat.le_of_ble_eq_true rfl) rfl rfl (np 68 rfl ?_)
      refine r_goto (tgt := 2) (dc dkX13_layForm 40 rfl) rfl ?_
      refine r_pick [1, 2, 3, 0] rfl ?_
      exact ih2 _ _ (by
            first
            | (refine ⟨by omega, ((hI2.2.1.tr (hs1.wide (by decide))).tr (hs2.wide (by decide))), Or.inr ⟨hc2, lsO_V hl2 (fun p2 i2 => ?_)⟩⟩
               constructor
               · intro z
                 by_cases zz : p2 = q
                 · exact Or.inr ⟨by omega, by omega, by omega⟩
                 · exact Or.inl ⟨by omega, by omega⟩
               · intro z
                 rcases z with z | z <;> omega)
            | (refine ⟨by omega, ((((hI2.2.1.tr (hs1.wide (by decide))).tr (hs2.wide (by decide))).tr (hs3.wide (by decide))).tr (hs4.wide (by decide))), Or.inr ⟨hc4, lsO_V hl4 (fun p2 i2 => ?_)⟩⟩
               constructor
               · intro z
                 by_cases zz : p2 = q + 4 * 1
                 · exact Or.inr ⟨by omega, by omega, by omega⟩
                 · refine Or.inl ⟨rfl, ?_⟩
                   by_cases z2 : p2 = q
                   · exact Or.inr ⟨by omega, by omega, by omega⟩
                   · exact Or.inl ⟨by omega, by omega⟩
               · intro z
                 rcases z with ⟨_, z | z⟩ | z <;> omega)) (by omega)
    refine r_eqI (cn σ 113 b) (by rw [cn_c (show τ1 113 = σ 113 by rw [hs1 113 (by decide)]; exact e113)]) ?_
    refine r_iload_n (dc dkX13_layForm 18 rfl) rfl (np 29 rfl ?_)
    refine r_if_ne (tgt := 36) (dc dkX13_layForm 19 rfl) rfl (by first | assumption | decide | omega) (fun h29 => ?_) (fun h29 => (np 32 rfl ?_))
    · skip
      refine r_iconst (dc dkX13_layForm 22 rfl) (np 37 rfl ?_)
      refine r_pick [0, 1, 2, 3] rfl ?_
      exact jj37 _ (by omega)
    refine r_iconst (dc dkX13_layForm 20 rfl) (np 33 rfl ?_)
    refine r_goto (tgt := 37) (dc dkX13_layForm 21 rfl) rfl ?_
    refine r_pick [0, 1, 2, 3] rfl ?_
    exact jj37 _ (by omega)
  refine r_iload_n (dc dkX13_layForm 3 rfl) rfl (np 4 rfl ?_)
  refine r_if_ne (tgt := 11) (dc dkX13_layForm 4 rfl) rfl (by first | assumption | decide | omega) (fun h4 => ?_) (fun h4 => (np 7 rfl ?_))
  · skip
    refine r_iconst (dc dkX13_layForm 7 rfl) (np 12 rfl ?_)
    refine r_pick [0, 1, 2, 3] rfl ?_
    exact jj12 _ (by first | (rw [if_neg (by omega)]; done) | (rw [if_pos (by omega)]; done))
  refine r_iconst (dc dkX13_layForm 5 rfl) (np 8 rfl ?_)
  refine r_goto (tgt := 12) (dc dkX13_layForm 6 rfl) rfl ?_
  refine r_pick [0, 1, 2, 3] rfl ?_
  exact jj12 _ (by first | (rw [if_neg (by omega)]; done) | (rw [if_pos (by omega)]; done))
