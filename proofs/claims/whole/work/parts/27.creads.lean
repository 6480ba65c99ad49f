theorem rd_ju {t : Int → Int} {L m : Int} {R : Int × Int} {σ : jS} {c : Nat} {j z : Int} (h : rd t L m R σ) (hc : 3 < c) : rd t L m R (ju σ c j z) := rd_t h (ju_off _ _ _ _ _ (by omega)) (ju_off _ _ _ _ _ (by omega)) (ju_off _ _ _ _ _ (by omega))
theorem rd_s {t : Int → Int} {L m : Int} {R : Int × Int} {σ τ : jS} {X : List Nat} (h : rd t L m R σ) (hs : same X σ τ) (h1 : 1 ∉ X) (h2 : 2 ∉ X) (h3 : 3 ∉ X) : rd t L m R τ := rd_t h (hs 1 h1) (hs 2 h2) (hs 3 h3)
theorem okA_41 {σ τ : jS} (h : okA σ 41) (e1 : τ 42 = σ 42) (e2 : τ 44 = σ 44) (e3 : τ 45 = σ 45) (e4 : τ 46 = σ 46) (hm : cB 8 (τ 43 0)) (hn : cB 8 (τ 41 6)) (hw : cB 5 (τ 41 7)) : okA τ 41 := by
  obtain ⟨⟨_, b1, b2, b3⟩, a1, a2, a3⟩ := h
  refine ⟨⟨hm, ?_, ?_, ?_⟩, ?_, hn, hw⟩
  · intro b h0 h1
    show 0 ≤ τ 45 b ∧ τ 45 b ≤ 8
    rw [e3]; exact b1 b h0 h1
  · intro b h0 h1
    show isPg (τ 46 b)
    rw [e4]; exact b2 b h0 h1
  · intro b h0 h1
    show -1 ≤ τ 44 b ∧ τ 44 b ≤ 7
    rw [e2]; exact b3 b h0 h1
  · intro b h0 h1
    show 0 ≤ τ 42 b ∧ τ 42 b < 10460353203
    rw [e1]; exact a1 b h0 h1
set_option maxRecDepth 100000 in
set_option maxHeartbeats 4000000 in
theorem c_X1_readSize {σ : jS} {t : Int → Int} {L m : Int} {R : Int × Int} (hR : rd t L m R σ) (hA : okA σ 41) {D N : Int → Int} (hD : ∀ j, 0 ≤ j → j < 241 → D j = 0) : Jm 10 miX1_readSize [.ref 41, .ref 1] σ (fun r τ => r = none ∧ same [1, 6, 41, 42, 43, 44, 45, 46] σ τ ∧ okA τ 41 ∧ rd t L m (hdR t L m R) τ ∧ ((hdR t L m R).1 = 0 → RC τ 41 (hdD t L m R D) ∧ nmD τ 41 (hdD t L m R D) N)) := by
  refine jm_ofF (Po := (fun r τ => r = none ∧ same [1, 6, 41, 42, 43, 44, 45, 46] σ τ ∧ okA τ 41 ∧ rd t L m (hdR t L m R) τ ∧ ((hdR t L m R).1 = 0 → RC τ 41 (hdD t L m R D) ∧ nmD τ 41 (hdD t L m R D) N))) (plainFor_of_name (by decide)) (Nat.le_of_ble_eq_true rfl) (lv := [(0, _), (1, _)]) rfl ?_
  refine r_aload_n (dc dkX1_readSize 0 rfl) rfl (np 1 rfl ?_)
  refine r_iconst (dc dkX1_readSize 1 rfl) (np 2 rfl ?_)
  refine r_pZ 2 (by first | exact Or.inl rfl | exact Or.inr rfl | omega) (dc dkX1_readSize 2 rfl) fpX1_18 fd_41_2 rfl (np 5 rfl ?_)
  refine r_aload_n (dc dkX1_readSize 3 rfl) rfl (np 6 rfl ?_)
  refine r_iconst (dc dkX1_readSize 4 rfl) (np 7 rfl ?_)
  refine r_pI 3 (dc dkX1_readSize 5 rfl) fpX1_22 fd_41_3 rfl (np 10 rfl ?_)
  refine r_aload_n (dc dkX1_readSize 6 rfl) rfl (np 11 rfl ?_)
  refine r_lconst (dc dkX1_readSize 7 rfl) lc_0 (np 12 rfl ?_)
  refine r_pL 4 (dc dkX1_readSize 8 rfl) fpX1_25 fd_41_4 rfl (np 15 rfl ?_)
  refine r_aload_n (dc dkX1_readSize 9 rfl) rfl (np 16 rfl ?_)
  refine r_lconst (dc dkX1_readSize 10 rfl) lc_0 (np 17 rfl ?_)
  refine r_pL 5 (dc dkX1_readSize 11 rfl) fpX1_29 fd_41_5 rfl (np 20 rfl ?_)
  refine r_aload_n (dc dkX1_readSize 12 rfl) rfl (np 21 rfl ?_)
  refine r_iconst (dc dkX1_readSize 13 rfl) (np 22 rfl ?_)
  refine r_pI 6 (dc dkX1_readSize 14 rfl) fpX1_32 fd_41_6 rfl (np 25 rfl ?_)
  refine r_aload_n (dc dkX1_readSize 15 rfl) rfl (np 26 rfl ?_)
  refine r_getR (dc dkX1_readSize 16 rfl) flX1_45 fd_41_9 (np 29 rfl ?_)
  refine r_iconst (dc dkX1_readSize 17 rfl) (np 30 rfl ?_)
  refine r_pI 0 (dc dkX1_readSize 18 rfl) fpX1_91 fd_43_0 rfl (np 33 rfl ?_)
  refine r_abs (fun ρ => same [41, 43] σ ρ ∧ ρ 41 2 = 0 ∧ ρ 41 3 = 0 ∧ ρ 41 4 = 0 ∧ ρ 41 5 = 0 ∧ ρ 41 6 = 0 ∧ ρ 43 0 = 0 ∧ ρ 41 7 = σ 41 7) ⟨?_, rfl, rfl, rfl, rfl, rfl, rfl, rfl⟩ ?_
  · exact ((((((same.refl _ _).put (by decide)).put (by decide)).put (by decide)).put (by decide)).put (by decide)).put (by decide)
  intro ρ hF
  obtain ⟨F1, f2, f3, f4, f5, f6, f0, f7⟩ := hF
  have hR1 := rd_s hR F1 (by decide) (by decide) (by decide)
  refine r_aload_n (dc dkX1_readSize 19 rfl) rfl (np 34 rfl ?_)
  refine r_bipush (dc dkX1_readSize 20 rfl) bp_100 (np 36 rfl ?_)
  refine r_cV1 (y' := miX8_expect) (dc dkX1_readSize 21 rfl) mlX1_101 ceX8_expect ob_1 (Nat.le_of_ble_eq_true rfl) (Nat.le_of_ble_eq_true rfl) (c_X8_expect hR1 (by decide)) (fun r τ2 hp2 => (np 39 rfl ?_))
  obtain ⟨rfl, hs2, hR2⟩ := hp2
  refine r_aload_n (dc dkX1_readSize 22 rfl) rfl (np 40 rfl ?_)
  refine r_aload_n (dc dkX1_readSize 23 rfl) rfl (np 41 rfl ?_)
  refine r_iconst (dc dkX1_readSize 24 rfl) (np 42 rfl ?_)
  refine r_bipush (dc dkX1_readSize 25 rfl) bp_10 (np 44 rfl ?_)
  refine r_cV2 (y' := miX8_number) (dc dkX1_readSize 26 rfl) mlX1_107 ceX8_number ob_1 (Nat.le_of_ble_eq_true rfl) (Nat.le_of_ble_eq_true rfl) (c_X8_number hR2 (by decide) (by decide)) (fun r τ3 hp3 => (np 47 rfl ?_))
  obtain ⟨z3, rfl, hz3, hs3, hR3⟩ := hp3
  refine r_pI 0 (dc dkX1_readSize 27 rfl) fpX1_9 fd_41_0 rfl (np 50 rfl ?_)
  refine r_aload_n (dc dkX1_readSize 28 rfl) rfl (np 51 rfl ?_)
  refine r_aload_n (dc dkX1_readSize 29 rfl) rfl (np 52 rfl ?_)
  refine r_iconst (dc dkX1_readSize 30 rfl) (np 53 rfl ?_)
  refine r_bipush (dc dkX1_readSize 31 rfl) bp_10 (np 55 rfl ?_)
  refine r_cV2 (y' := miX8_number) (dc dkX1_readSize 32 rfl) mlX1_107 ceX8_number ob_1 (Nat.le_of_ble_eq_true rfl) (Nat.le_of_ble_eq_true rfl) (c_X8_number (rd_ju hR3 (by decide)) (by decide) (by decide)) (fun r τ4 hp4 => (np 58 rfl ?_))
  obtain ⟨z4, rfl, hz4, hs4, hR4⟩ := hp4
  refine r_pI 1 (dc dkX1_readSize 33 rfl) fpX1_15 fd_41_1 rfl (np 61 rfl ?_)
  refine r_aload_n (dc dkX1_readSize 34 rfl) rfl (np 62 rfl ?_)
  refine r_bipush (dc dkX1_readSize 35 rfl) bp_59 (np 64 rfl ?_)
  refine r_cV1 (y' := miX8_expect) (dc dkX1_readSize 36 rfl) mlX1_101 ceX8_expect ob_1 (Nat.le_of_ble_eq_true rfl) (Nat.le_of_ble_eq_true rfl) (c_X8_expect (rd_ju hR4 (by decide)) (by decide)) (fun r τ5 hp5 => (np 67 rfl ?_))
  obtain ⟨rfl, hs5, hR5⟩ := hp5
  exact r_vret (dc dkX1_readSize 37 rfl) rfl (by
      have v : ∀ c j, ¬ c = 1 → ¬ (c = 41 ∧ (j = 0 ∨ j = 1)) → τ5 c j = ρ c j := by
        intro c j h1 h2
        have n1 : c ∉ [1] := by simpa using h1
        rw [hs5 c n1, ju_ne (by omega), hs4 c n1, ju_ne (by omega), hs3 c n1, hs2 c n1]
      have v0 : τ5 41 0 = z3 := by rw [hs5 41 (by decide), ju_ne (by decide), hs4 41 (by decide), ju_at]
      have v1 : τ5 41 1 = z4 := by rw [hs5 41 (by decide), ju_at]
      have vc : ∀ c, ¬ c = 1 → ¬ c = 41 → τ5 c = ρ c := fun c h1 h2 => funext (fun j => v c j h1 (by omega))
      have vs : ∀ c, c ∉ [1, 41, 43] → τ5 c = σ c := by
        intro c hc
        have hc1 : ¬ c = 1 ∧ ¬ c = 41 ∧ ¬ c = 43 := by simpa using hc
        rw [vc c hc1.1 hc1.2.1, F1 c (by simp; omega)]
      have w2 := v 41 2 (by decide) (by decide)
      have w3 := v 41 3 (by decide) (by decide)
      have w4 := v 41 4 (by decide) (by decide)
      have w5 := v 41 5 (by decide) (by decide)
      have w6 := v 41 6 (by decide) (by decide)
      have w7 := v 41 7 (by decide) (by decide)
      have w0 := v 43 0 (by decide) (by decide)
      have a7 := hA.2.2.2
      refine ⟨rfl, same.wide vs (by decide), okA_41 hA (vs 42 (by decide)) (vs 44 (by decide)) (vs 45 (by decide)) (vs 46 (by decide)) (by omega) (by omega) (by omega), hR5, fun hz => ?_⟩
      obtain ⟨x1, -⟩ := xpR_f hz
      have y3 := hz4 x1.1
      obtain ⟨x2, -⟩ := nmR_f x1.1
      have y2 := hz3 x2.1
      have d0 : hdD t L m R D 0 = z3 := by unfold hdD; rw [up_ne (by decide), up_at, y2]
      have d1 : hdD t L m R D 1 = z4 := by unfold hdD; rw [up_at, y3]
      have dn : ∀ j, 2 ≤ j → j < 241 → hdD t L m R D j = 0 := fun j j0 j1 => by unfold hdD; rw [up_ne (by omega), up_ne (by omega), hD j (by omega) j1]
      have e2 := dn 2 (by decide) (by decide)
      have e3 := dn 3 (by decide) (by decide)
      have e4 := dn 4 (by decide) (by decide)
      refine ⟨⟨by omega, by omega, by omega, by omega, ?_, fun p p0 p1 => ?_, fun b b0 b1 => by omega⟩, ?_, fun b b0 b1 => by omega⟩
      · show τ5 43 0 = _; omega
      · have ep := dn (5 + p) (by omega) (by omega)
        refine ⟨fun z => ?_, fun z => absurd ep z⟩
        unfold outB at z
        rw [w4, f4, w5, f5] at z
        split at z <;> exact absurd z bt_0
      · omega)
