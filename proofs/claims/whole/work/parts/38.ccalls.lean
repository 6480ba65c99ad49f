/-! ===== calls ===== -/
section
variable (t : Int → Int) (L m : Int)
noncomputable def atR (w h : Int) (R : Int × Int) : Int × Int := xpR t L m 59 (nmR t L m 0 (h - 1) (nmR t L m 0 (w - 1) (xpR t L m 104 R)))
noncomputable def atC (w : Int) (R : Int × Int) (C : Int → Int) : Int → Int := up (up C 0 (nQ t L m (xpR t L m 104 R).2)) 1 (nQ t L m (nmR t L m 0 (w - 1) (xpR t L m 104 R)).2)
noncomputable def by0 (k : Int) (R : Int × Int) : Int × Int := stR t L m (gte (snR t L m 105 R) (gte (8 ≤ k) (flR t L m 4 R) R) (flR t L m 1 R))
noncomputable def by1 (k : Int) (R : Int × Int) : Int × Int := sdR t L m (by0 t L m k R)
noncomputable def by2 (k : Int) (R : Int × Int) : Int × Int := sdR t L m (by1 t L m k R)
noncomputable def byR (k : Int) (R : Int × Int) : Int × Int := xpR t L m 59 (by2 t L m k R)
noncomputable def byC (k : Int) (R : Int × Int) (C : Int → Int) : Int → Int := up (up C (2 + 2 * k) (sdV t L m (by0 t L m k R))) (3 + 2 * k) (sdV t L m (by1 t L m k R))
noncomputable def byF : Nat → Int → (Int × Int) → (Int → Int) → (Int × Int) × (Int → Int) × Int
  | 0, k, R, C => (R, C, k)
  | f + 1, k, R, C => gte (¬ R.1 = 0 ∨ (3 ≤ k ∧ tK t L m R.2 = 0)) (R, C, k) (gte ((byR t L m k R).1 = 0) (byF f (k + 1) (byR t L m k R) (byC t L m k R C)) (byR t L m k R, C, k))
noncomputable def caF (w h : Int) (C : Int → Int) : (Int × Int) × (Int → Int) × Int := byF t L m 9 0 (atR t L m w h (0, 0)) (atC t L m w (0, 0) C)
end
section
variable {t : Int → Int} {L m : Int}
theorem byF_e {f : Nat} {k : Int} {R : Int × Int} {C : Int → Int} (h : ¬ R.1 = 0 ∨ (3 ≤ k ∧ tK t L m R.2 = 0)) : byF t L m f k R C = (R, C, k) := by
  cases f with
  | zero => rfl
  | succ f => rw [byF, gte_t h]
theorem byF_y {f : Nat} {k : Int} {R : Int × Int} {C : Int → Int} (h : ¬ (¬ R.1 = 0 ∨ (3 ≤ k ∧ tK t L m R.2 = 0))) (g : (byR t L m k R).1 = 0) : byF t L m (f + 1) k R C = byF t L m f (k + 1) (byR t L m k R) (byC t L m k R C) := by rw [byF, gte_f h, gte_t g]
theorem byF_n {f : Nat} {k : Int} {R : Int × Int} {C : Int → Int} (h : ¬ (¬ R.1 = 0 ∨ (3 ≤ k ∧ tK t L m R.2 = 0))) (g : ¬ (byR t L m k R).1 = 0) : byF t L m (f + 1) k R C = (byR t L m k R, C, k) := by rw [byF, gte_f h, gte_f g]
theorem sdR_e {R : Int × Int} (h : ¬ R.1 = 0) : sdR t L m R = R := by rw [sdR, sgR_n (fun z => h z.1), nmR_e h]
theorem sd_0 {R : Int × Int} (h : (sdR t L m R).1 = 0) : R.1 = 0 ∧ (sgR t L m R).1 = 0 ∧ -9 ≤ sdV t L m R ∧ sdV t L m R ≤ 9 := by
  have h0 : R.1 = 0 := Classical.byContradiction (fun z => by rw [sdR_e z] at h; exact z h)
  unfold sdR at h
  obtain ⟨h1, h2, h3, -⟩ := nmR_f h
  refine ⟨h0, h1.1, ?_⟩
  unfold sdV
  by_cases g : snR t L m 45 R
  · rw [bite_t g]; omega
  · rw [bite_f g]; omega
theorem by0_0 {k : Int} {R : Int × Int} (h : (by0 t L m k R).1 = 0) : snR t L m 105 R ∧ k < 8 ∧ by0 t L m k R = stR t L m R := by
  unfold by0 at h ⊢
  rw [stR_f] at h
  by_cases g : snR t L m 105 R
  · rw [gte_t g] at h ⊢
    by_cases g2 : 8 ≤ k
    · rw [gte_t g2] at h; exact absurd h (flR_f (by decide))
    · rw [gte_f g2]; exact ⟨g, by omega, rfl⟩
  · rw [gte_f g] at h; exact absurd h (flR_f (by decide))
theorem byR_0 {k : Int} {R : Int × Int} (h : (byR t L m k R).1 = 0) : k < 8 ∧ R.1 = 0 ∧ (by0 t L m k R).1 = 0 ∧ (by1 t L m k R).1 = 0 ∧ (by2 t L m k R).1 = 0 ∧ (-9 ≤ sdV t L m (by0 t L m k R) ∧ sdV t L m (by0 t L m k R) ≤ 9) ∧ (-9 ≤ sdV t L m (by1 t L m k R) ∧ sdV t L m (by1 t L m k R) ≤ 9) := by
  have h2 := (xpR_f h).1.1
  have h1 := sd_0 h2
  have h0 := sd_0 h1.1
  have hb := by0_0 h0.1
  exact ⟨hb.2.1, hb.1.1, h0.1, h1.1, h2, h0.2.2, h1.2.2⟩
/-- what calls hold -/
def okK (w h : Int) (C : Int → Int) (n : Int) : Prop := (0 ≤ C 0 ∧ C 0 < w) ∧ (0 ≤ C 1 ∧ C 1 < h) ∧ ∀ i, 0 ≤ i → i < n → (-9 ≤ C (2 + 2 * i) ∧ C (2 + 2 * i) ≤ 9) ∧ (-9 ≤ C (3 + 2 * i) ∧ C (3 + 2 * i) ≤ 9)
theorem byC_K {w h k : Int} {R : Int × Int} {C : Int → Int} (hk : 0 ≤ k) (hK : okK w h C k) (g : (byR t L m k R).1 = 0) : okK w h (byC t L m k R C) (k + 1) := by
  obtain ⟨g1, g2, g3, g4, g5, g6, g7⟩ := byR_0 g
  unfold byC
  refine ⟨by rw [up_ne (by omega), up_ne (by omega)]; exact hK.1, by rw [up_ne (by omega), up_ne (by omega)]; exact hK.2.1, fun i i0 i1 => ?_⟩
  by_cases hi : i = k
  · subst hi
    rw [up_ne (by omega), up_at, up_at]
    exact ⟨g6, g7⟩
  · have q := hK.2.2 i i0 (by omega)
    rw [up_ne (by omega), up_ne (by omega), up_ne (by omega), up_ne (by omega)]
    exact q
theorem byF_ok {w h : Int} : ∀ (f : Nat) (k : Int) (R : Int × Int) (C : Int → Int), 0 ≤ k → k ≤ 8 → k + f = 9 → (R.1 = 0 → okK w h C k) → (byF t L m f k R C).1.1 = 0 → 3 ≤ (byF t L m f k R C).2.2 ∧ (byF t L m f k R C).2.2 ≤ 8 ∧ okK w h (byF t L m f k R C).2.1 (byF t L m f k R C).2.2
  | 0, k, R, C, h0, h8, h9, hK => by omega
  | f + 1, k, R, C, h0, h8, h9, hK => by
    by_cases h1 : ¬ R.1 = 0 ∨ (3 ≤ k ∧ tK t L m R.2 = 0)
    · rw [byF_e h1]
      intro z
      have z2 : R.1 = 0 := z
      exact ⟨by show 3 ≤ k; omega, h8, hK z2⟩
    · by_cases h2 : (byR t L m k R).1 = 0
      · rw [byF_y h1 h2]
        have := byR_0 h2
        exact byF_ok f (k + 1) _ _ (by omega) (by omega) (by omega) (fun _ => byC_K h0 (hK this.2.1) h2)
      · rw [byF_n h1 h2]
        exact fun z => absurd z h2
theorem at_0 {w h : Int} {R : Int × Int} (g : (atR t L m w h R).1 = 0) : (xpR t L m 104 R).1 = 0 ∧ (nmR t L m 0 (w - 1) (xpR t L m 104 R)).1 = 0 ∧ (nmR t L m 0 (h - 1) (nmR t L m 0 (w - 1) (xpR t L m 104 R))).1 = 0 ∧ (0 ≤ nQ t L m (xpR t L m 104 R).2 ∧ nQ t L m (xpR t L m 104 R).2 ≤ w - 1) ∧ (0 ≤ nQ t L m (nmR t L m 0 (w - 1) (xpR t L m 104 R)).2 ∧ nQ t L m (nmR t L m 0 (w - 1) (xpR t L m 104 R)).2 ≤ h - 1) := by
  have g1 := (xpR_f g).1.1
  obtain ⟨g2, g3, g4, -⟩ := nmR_f g1
  obtain ⟨g5, g6, g7, -⟩ := nmR_f g2.1
  exact ⟨g5.1, g2.1, g1, ⟨g6, g7⟩, g3, g4⟩
theorem atC_K {w h : Int} {R : Int × Int} {C : Int → Int} (g : (atR t L m w h R).1 = 0) : okK w h (atC t L m w R C) 0 := by
  obtain ⟨g1, g2, g3, g4, g5⟩ := at_0 g
  unfold atC
  exact ⟨by rw [up_ne (by decide), up_at]; omega, by rw [up_at]; omega, fun i i0 i1 => by omega⟩
theorem caF_ok {w h : Int} {C : Int → Int} (z : (caF t L m w h C).1.1 = 0) : 3 ≤ (caF t L m w h C).2.2 ∧ (caF t L m w h C).2.2 ≤ 8 ∧ okK w h (caF t L m w h C).2.1 (caF t L m w h C).2.2 := byF_ok 9 0 _ _ (by decide) (by decide) rfl (fun g => atC_K g) z
end
/-- the class' calls at cell k are a row's first n -/
def CR (σ : jS) (k : Nat) (C : Int → Int) (n : Int) : Prop := σ k 0 = n ∧ σ k 1 = C 0 ∧ σ k 2 = C 1 ∧ ∀ i, 0 ≤ i → i < n → σ (k + 1) i = C (2 + 2 * i) ∧ σ (k + 2) i = C (3 + 2 * i)
theorem CR_t {σ τ : jS} {k : Nat} {C : Int → Int} {n : Int} (h : CR σ k C n) (e0 : τ k = σ k) (e1 : τ (k + 1) = σ (k + 1)) (e2 : τ (k + 2) = σ (k + 2)) : CR τ k C n := by
  unfold CR at h ⊢
  rw [e0, e1, e2]
  exact h
theorem CR_cp {σ τ : jS} {k o : Nat} {C : Int → Int} {n : Int} (h : CR σ o C n) (hn : n ≤ 8) (c : cpK σ τ k o) : CR τ k C n := by
  obtain ⟨c1, c2, c3⟩ := c
  refine ⟨by rw [c1 0 (by decide) (by decide)]; exact h.1, by rw [c1 1 (by decide) (by decide)]; exact h.2.1, by rw [c1 2 (by decide) (by decide)]; exact h.2.2.1, fun i i0 i1 => ?_⟩
  rw [c2 i i0 (by omega), c3 i i0 (by omega)]
  exact h.2.2.2 i i0 i1
set_option maxRecDepth 100000 in
set_option maxHeartbeats 4000000 in
theorem c_X3_readBy {σ : jS} {t : Int → Int} {L m : Int} {R : Int × Int} (hR : rd t L m R σ) (h8 : cB 8 (σ 47 0)) {C : Int → Int} (hC : CR σ 47 C (σ 47 0)) : Jm 11 miX3_readBy [.ref 47, .ref 1] σ (fun r τ => r = none ∧ same [1, 47, 48, 49] σ τ ∧ cB 8 (τ 47 0) ∧ rd t L m (byR t L m (σ 47 0) R) τ ∧ ((byR t L m (σ 47 0) R).1 = 0 → CR τ 47 (byC t L m (σ 47 0) R C) (σ 47 0 + 1))) := by
  refine jm_ofF (Po := (fun r τ => r = none ∧ same [1, 47, 48, 49] σ τ ∧ cB 8 (τ 47 0) ∧ rd t L m (byR t L m (σ 47 0) R) τ ∧ ((byR t L m (σ 47 0) R).1 = 0 → CR τ 47 (byC t L m (σ 47 0) R C) (σ 47 0 + 1)))) (plainFor_of_name (by decide)) (Nat.le_of_ble_eq_true rfl) (lv := [(0, _), (1, _)]) rfl ?_
  refine r_aload_n (dc dkX3_readBy 0 rfl) rfl (np 1 rfl ?_)
  refine r_bipush (dc dkX3_readBy 1 rfl) bp_105 (np 3 rfl ?_)
  refine r_pV1 (y' := miX8_sees) (dc dkX3_readBy 2 rfl) mlX3_63 ceX8_sees ob_1 (Nat.le_of_ble_eq_true rfl) (Nat.le_of_ble_eq_true rfl) (c_X8_sees hR (by decide)) (np 6 rfl ?_)
  have jj31 : ∀ τ2 : jS, same [1] σ τ2 ∧ rd t L m (gte (snR t L m 105 R) (gte (8 ≤ σ 47 0) (flR t L m 4 R) R) (flR t L m 1 R)) τ2 → jR 11 miX3_readBy (fun r τ => r = none ∧ same [1, 47, 48, 49] σ τ ∧ cB 8 (τ 47 0) ∧ rd t L m (byR t L m (σ 47 0) R) τ ∧ ((byR t L m (σ 47 0) R).1 = 0 → CR τ 47 (byC t L m (σ 47 0) R C) (σ 47 0 + 1))) 31 [(0, .ref 47), (1, .ref 1)] [] τ2 := by
    intro τ2 hq
    obtain ⟨hs2, hR2⟩ := hq
    refine r_aload_n (dc dkX3_readBy 15 rfl) rfl (np 32 rfl ?_)
    refine r_cV0 (y' := miX8_step) (dc dkX3_readBy 16 rfl) mlX3_70 ceX8_step ob_1 (Nat.le_of_ble_eq_true rfl) (Nat.le_of_ble_eq_true rfl) (c_X8_step hR2) (fun r τ3 hp3 => (np 35 rfl ?_))
    obtain ⟨rfl, hs3, hR3⟩ := hp3
    change rd t L m (by0 t L m (σ 47 0) R) τ3 at hR3
    refine r_aload_n (dc dkX3_readBy 17 rfl) rfl (np 36 rfl ?_)
    refine r_cV0 (y' := miX8_signedDigit) (dc dkX3_readBy 18 rfl) mlX3_73 ceX8_signedDigit ob_1 (Nat.le_of_ble_eq_true rfl) (Nat.le_of_ble_eq_true rfl) (c_X8_signedDigit hR3) (fun r τ4 hp4 => (np 39 rfl ?_))
    obtain ⟨z4, rfl, hz4, hs4, hR4⟩ := hp4
    change rd t L m (by1 t L m (σ 47 0) R) τ4 at hR4
    refine r_istore_n (lv' := [(2, _), (0, _), (1, _)]) (dc dkX3_readBy 19 rfl) (Nat.le_of_ble_eq_true rfl) rfl (np 40 rfl ?_)
    refine r_aload_n (dc dkX3_readBy 20 rfl) rfl (np 41 rfl ?_)
    refine r_cV0 (y' := miX8_signedDigit) (dc dkX3_readBy 21 rfl) mlX3_73 ceX8_signedDigit ob_1 (Nat.le_of_ble_eq_true rfl) (Nat.le_of_ble_eq_true rfl) (c_X8_signedDigit hR4) (fun r τ5 hp5 => (np 44 rfl ?_))
    obtain ⟨z5, rfl, hz5, hs5, hR5⟩ := hp5
    change rd t L m (by2 t L m (σ 47 0) R) τ5 at hR5
    refine r_istore_n (lv' := [(3, _), (2, _), (0, _), (1, _)]) (dc dkX3_readBy 22 rfl) (Nat.le_of_ble_eq_true rfl) rfl (np 45 rfl ?_)
    refine r_aload_n (dc dkX3_readBy 23 rfl) rfl (np 46 rfl ?_)
    refine r_bipush (dc dkX3_readBy 24 rfl) bp_59 (np 48 rfl ?_)
    refine r_cV1 (y' := miX8_expect) (dc dkX3_readBy 25 rfl) mlX3_34 ceX8_expect ob_1 (Nat.le_of_ble_eq_true rfl) (Nat.le_of_ble_eq_true rfl) (c_X8_expect hR5 (by decide)) (fun r τ6 hp6 => (np 51 rfl ?_))
    obtain ⟨rfl, hs6, hR6⟩ := hp6
    change rd t L m (byR t L m (σ 47 0) R) τ6 at hR6
    have S6 : same [1] σ τ6 := (((hs2.tr hs3).tr hs4).tr hs5).tr hs6
    have m6 : τ6 47 0 = σ 47 0 := by rw [S6 47 (by decide)]
    refine r_aload_n (dc dkX3_readBy 26 rfl) rfl (np 52 rfl ?_)
    refine r_pV0 (y' := miX8_isFine) (dc dkX3_readBy 27 rfl) mlX3_52 ceX8_isFine ob_1 (Nat.le_of_ble_eq_true rfl) (Nat.le_of_ble_eq_true rfl) (c_X8_isFine hR6) (np 55 rfl ?_)
    refine r_bz (tgt := 97) (dc dkX3_readBy 28 rfl) rfl (fun h55 => ?_) (fun h55 => (np 58 rfl ?_))
    · skip
      exact r_vret (dc dkX3_readBy 51 rfl) rfl (by
          first
          | exact ⟨rfl, S6.wide (by decide), by rw [m6]; exact h8, hR6, fun z => absurd z h55⟩
          | (have m1 : ju (ju τ6 48 (τ6 47 0) z4) 49 (ju τ6 48 (τ6 47 0) z4 47 0) z5 47 0 = σ 47 0 := by rw [ju_ne (by omega), ju_ne (by omega)]; exact m6
             have m2 : ju τ6 48 (τ6 47 0) z4 47 0 = σ 47 0 := by rw [ju_ne (by omega)]; exact m6
             rw [m1, m2, m6]
             refine ⟨rfl, (((S6.wide (by decide)).put (by decide)).put (by decide)).put (by decide), by rw [ju_at]; omega, rd_ju (rd_ju (rd_ju hR6 (by decide)) (by decide)) (by decide), fun _ => ⟨by rw [ju_at], ?_, ?_, fun i i0 i1 => ?_⟩⟩
             · rw [ju_ne (by decide), ju_ne (by omega), ju_ne (by omega), S6 47 (by decide), hC.2.1]
               unfold byC
               rw [up_ne (by omega), up_ne (by omega)]
             · rw [ju_ne (by decide), ju_ne (by omega), ju_ne (by omega), S6 47 (by decide), hC.2.2.1]
               unfold byC
               rw [up_ne (by omega), up_ne (by omega)]
             · unfold byC
               by_cases hi : i = σ 47 0
               · rw [hi]
                 exact ⟨by rw [ju_ne (by omega), ju_ne (by omega), ju_at, up_ne (by omega), up_at, x4], by rw [ju_ne (by omega), ju_at, up_at, x5]⟩
               · have q := hC.2.2.2 i i0 (by omega)
                 exact ⟨by rw [ju_ne (by omega), ju_ne (by omega), ju_ne (by omega), S6 48 (by decide), up_ne (by omega), up_ne (by omega)]; exact q.1, by rw [ju_ne (by omega), ju_ne (by omega), ju_ne (by omega), S6 49 (by decide), up_ne (by omega), up_ne (by omega)]; exact q.2⟩))
    obtain ⟨b1, b2, b3, b4, b5, b6, b7⟩ := byR_0 h55
    have x4 := hz4 b4
    have x5 := hz5 b5
    refine r_aload_n (dc dkX3_readBy 29 rfl) rfl (np 59 rfl ?_)
    refine r_gI 0 (dc dkX3_readBy 30 rfl) flX3_9 fd_47_0 rfl (np 62 rfl ?_)
    refine r_bipush (dc dkX3_readBy 31 rfl) bp_8 (np 64 rfl ?_)
    refine r_icmp_ge (tgt := 97) (dc dkX3_readBy 32 rfl) rfl (by first | assumption | decide | omega) (by first | assumption | decide | omega) (fun h64 => ?_) (fun h64 => (np 67 rfl ?_))
    · skip
      exact absurd b1 (by omega)
    refine r_aload_n (dc dkX3_readBy 33 rfl) rfl (np 68 rfl ?_)
    refine r_getR (dc dkX3_readBy 34 rfl) flX3_21 fd_47_3 (np 71 rfl ?_)
    refine r_aload_n (dc dkX3_readBy 35 rfl) rfl (np 72 rfl ?_)
    refine r_gI 0 (dc dkX3_readBy 36 rfl) flX3_9 fd_47_0 rfl (np 75 rfl ?_)
    refine r_iload_n (dc dkX3_readBy 37 rfl) rfl (np 76 rfl ?_)
    refine r_iast (dc dkX3_readBy 38 rfl) ar_48 (by omega) (np 77 rfl ?_)
    refine r_aload_n (dc dkX3_readBy 39 rfl) rfl (np 78 rfl ?_)
    refine r_getR (dc dkX3_readBy 40 rfl) flX3_25 fd_47_4 (np 81 rfl ?_)
    refine r_aload_n (dc dkX3_readBy 41 rfl) rfl (np 82 rfl ?_)
    refine r_gI 0 (dc dkX3_readBy 42 rfl) flX3_9 fd_47_0 rfl (np 85 rfl ?_)
    refine r_iload_n (dc dkX3_readBy 43 rfl) rfl (np 86 rfl ?_)
    refine r_iast (dc dkX3_readBy 44 rfl) ar_49 (by rw [ju_ne (by omega)]; omega) (np 87 rfl ?_)
    refine r_aload_n (dc dkX3_readBy 45 rfl) rfl (np 88 rfl ?_)
    refine r_dup (dc dkX3_readBy 46 rfl) rfl (np 89 rfl ?_)
    refine r_gI 0 (dc dkX3_readBy 47 rfl) flX3_9 fd_47_0 rfl (np 92 rfl ?_)
    refine r_iconst (dc dkX3_readBy 48 rfl) (np 93 rfl ?_)
    refine r_iadd (dc dkX3_readBy 49 rfl) (np 94 rfl ?_)
    refine r_pI 0 (dc dkX3_readBy 50 rfl) fpX3_9 fd_47_0 rfl (np 97 rfl ?_)
    exact r_vret (dc dkX3_readBy 51 rfl) rfl (by
        first
        | exact ⟨rfl, S6.wide (by decide), by rw [m6]; exact h8, hR6, fun z => absurd z h55⟩
        | (have m1 : ju (ju τ6 48 (τ6 47 0) z4) 49 (ju τ6 48 (τ6 47 0) z4 47 0) z5 47 0 = σ 47 0 := by rw [ju_ne (by omega), ju_ne (by omega)]; exact m6
           have m2 : ju τ6 48 (τ6 47 0) z4 47 0 = σ 47 0 := by rw [ju_ne (by omega)]; exact m6
           rw [m1, m2, m6]
           refine ⟨rfl, (((S6.wide (by decide)).put (by decide)).put (by decide)).put (by decide), by rw [ju_at]; omega, rd_ju (rd_ju (rd_ju hR6 (by decide)) (by decide)) (by decide), fun _ => ⟨by rw [ju_at], ?_, ?_, fun i i0 i1 => ?_⟩⟩
           · rw [ju_ne (by decide), ju_ne (by omega), ju_ne (by omega), S6 47 (by decide), hC.2.1]
             unfold byC
             rw [up_ne (by omega), up_ne (by omega)]
           · rw [ju_ne (by decide), ju_ne (by omega), ju_ne (by omega), S6 47 (by decide), hC.2.2.1]
             unfold byC
             rw [up_ne (by omega), up_ne (by omega)]
           · unfold byC
             by_cases hi : i = σ 47 0
             · rw [hi]
               exact ⟨by rw [ju_ne (by omega), ju_ne (by omega), ju_at, up_ne (by omega), up_at, x4], by rw [ju_ne (by omega), ju_at, up_at, x5]⟩
             · have q := hC.2.2.2 i i0 (by omega)
               exact ⟨by rw [ju_ne (by omega), ju_ne (by omega), ju_ne (by omega), S6 48 (by decide), up_ne (by omega), up_ne (by omega)]; exact q.1, by rw [ju_ne (by omega), ju_ne (by omega), ju_ne (by omega), S6 49 (by decide), up_ne (by omega), up_ne (by omega)]; exact q.2⟩))
  refine r_bn (tgt := 17) (dc dkX3_readBy 3 rfl) rfl (fun h6 => ?_) (fun h6 => (np 9 rfl ?_))
  · skip
    refine r_aload_n (dc dkX3_readBy 8 rfl) rfl (np 18 rfl ?_)
    refine r_gI 0 (dc dkX3_readBy 9 rfl) flX3_9 fd_47_0 rfl (np 21 rfl ?_)
    refine r_bipush (dc dkX3_readBy 10 rfl) bp_8 (np 23 rfl ?_)
    refine r_icmp_lt (tgt := 31) (dc dkX3_readBy 11 rfl) rfl (by first | assumption | decide | omega) (by first | assumption | decide | omega) (fun h23 => ?_) (fun h23 => (np 26 rfl ?_))
    · skip
      refine r_pick [0, 1] rfl ?_
      exact jj31 _ (by first | exact ⟨hs2, by rw [gte_f h6]; exact hR2⟩ | exact ⟨hs2, by rw [gte_t h6, gte_t (by omega)]; exact hR2⟩ | exact ⟨same.refl _ _, by rw [gte_t h6, gte_f (by omega)]; exact hR⟩)
    refine r_aload_n (dc dkX3_readBy 12 rfl) rfl (np 27 rfl ?_)
    refine r_iconst (dc dkX3_readBy 13 rfl) (np 28 rfl ?_)
    refine r_cV1 (y' := miX8_fail) (dc dkX3_readBy 14 rfl) mlX3_67 ceX8_fail ob_1 (Nat.le_of_ble_eq_true rfl) (Nat.le_of_ble_eq_true rfl) (c_X8_fail hR (by decide)) (fun r τ2 hp2 => (np 31 rfl ?_))
    obtain ⟨rfl, hs2, hR2⟩ := hp2
    refine r_pick [0, 1] rfl ?_
    exact jj31 _ (by first | exact ⟨hs2, by rw [gte_f h6]; exact hR2⟩ | exact ⟨hs2, by rw [gte_t h6, gte_t (by omega)]; exact hR2⟩ | exact ⟨same.refl _ _, by rw [gte_t h6, gte_f (by omega)]; exact hR⟩)
  refine r_aload_n (dc dkX3_readBy 4 rfl) rfl (np 10 rfl ?_)
  refine r_iconst (dc dkX3_readBy 5 rfl) (np 11 rfl ?_)
  refine r_cV1 (y' := miX8_fail) (dc dkX3_readBy 6 rfl) mlX3_67 ceX8_fail ob_1 (Nat.le_of_ble_eq_true rfl) (Nat.le_of_ble_eq_true rfl) (c_X8_fail hR (by decide)) (fun r τ2 hp2 => (np 14 rfl ?_))
  obtain ⟨rfl, hs2, hR2⟩ := hp2
  refine r_goto (tgt := 31) (dc dkX3_readBy 7 rfl) rfl ?_
  refine r_pick [0, 1] rfl ?_
  exact jj31 _ (by first | exact ⟨hs2, by rw [gte_f h6]; exact hR2⟩ | exact ⟨hs2, by rw [gte_t h6, gte_t (by omega)]; exact hR2⟩ | exact ⟨same.refl _ _, by rw [gte_t h6, gte_f (by omega)]; exact hR⟩)
set_option maxRecDepth 100000 in
set_option maxHeartbeats 4000000 in
theorem c_X3_readFrom {σ : jS} {t : Int → Int} {L m : Int} {R : Int × Int} (hR : rd t L m R σ) {w h : Int} (hw : σ 28 0 = w) (hh : σ 28 1 = h) (hwb : cB 10 w) (hhb : cB 10 h) {C : Int → Int} : Jm 12 miX3_readFrom [.ref 47, .ref 1, .ref 28] σ (fun r τ => r = none ∧ same [1, 47, 48, 49] σ τ ∧ cB 8 (τ 47 0) ∧ rd t L m (byF t L m 9 0 (atR t L m w h R) (atC t L m w R C)).1 τ ∧ ((byF t L m 9 0 (atR t L m w h R) (atC t L m w R C)).1.1 = 0 → CR τ 47 (byF t L m 9 0 (atR t L m w h R) (atC t L m w R C)).2.1 (byF t L m 9 0 (atR t L m w h R) (atC t L m w R C)).2.2)) := by
  refine jm_ofF (Po := (fun r τ => r = none ∧ same [1, 47, 48, 49] σ τ ∧ cB 8 (τ 47 0) ∧ rd t L m (byF t L m 9 0 (atR t L m w h R) (atC t L m w R C)).1 τ ∧ ((byF t L m 9 0 (atR t L m w h R) (atC t L m w R C)).1.1 = 0 → CR τ 47 (byF t L m 9 0 (atR t L m w h R) (atC t L m w R C)).2.1 (byF t L m 9 0 (atR t L m w h R) (atC t L m w R C)).2.2))) (plainFor_of_name (by decide)) (Nat.le_of_ble_eq_true rfl) (lv := [(0, _), (1, _), (2, _)]) rfl ?_
  refine r_aload_n (dc dkX3_readFrom 0 rfl) rfl (np 1 rfl ?_)
  refine r_iconst (dc dkX3_readFrom 1 rfl) (np 2 rfl ?_)
  refine r_pI 0 (dc dkX3_readFrom 2 rfl) fpX3_9 fd_47_0 rfl (np 5 rfl ?_)
  refine r_aload_n (dc dkX3_readFrom 3 rfl) rfl (np 6 rfl ?_)
  refine r_bipush (dc dkX3_readFrom 4 rfl) bp_104 (np 8 rfl ?_)
  refine r_cV1 (y' := miX8_expect) (dc dkX3_readFrom 5 rfl) mlX3_34 ceX8_expect ob_1 (Nat.le_of_ble_eq_true rfl) (Nat.le_of_ble_eq_true rfl) (c_X8_expect (rd_ju hR (by decide)) (by decide)) (fun r τ2 hp2 => (np 11 rfl ?_))
  obtain ⟨rfl, hs2, hR2⟩ := hp2
  have v2 : τ2 28 0 = w := by rw [hs2 28 (by decide), ju_off _ _ _ _ _ (by decide)]; exact hw
  refine r_aload_n (dc dkX3_readFrom 6 rfl) rfl (np 12 rfl ?_)
  refine r_aload_n (dc dkX3_readFrom 7 rfl) rfl (np 13 rfl ?_)
  refine r_iconst (dc dkX3_readFrom 8 rfl) (np 14 rfl ?_)
  refine r_aload_n (dc dkX3_readFrom 9 rfl) rfl (np 15 rfl ?_)
  refine r_gI 0 (dc dkX3_readFrom 10 rfl) flX3_40 fd_28_0 rfl (np 18 rfl ?_)
  refine r_iconst (dc dkX3_readFrom 11 rfl) (np 19 rfl ?_)
  refine r_isub (dc dkX3_readFrom 12 rfl) (np 20 rfl ?_)
  refine r_cV2 (y' := miX8_number) (dc dkX3_readFrom 13 rfl) mlX3_45 ceX8_number ob_1 (Nat.le_of_ble_eq_true rfl) (Nat.le_of_ble_eq_true rfl) (c_X8_number hR2 (by decide) (by rw [v2]; omega)) (fun r τ3 hp3 => (np 23 rfl ?_))
  obtain ⟨z3, rfl, hz3, hs3, hR3⟩ := hp3
  rw [v2] at hR3 hz3
  have v3 : ju τ3 47 1 z3 28 1 = h := by rw [ju_ne (by omega), hs3 28 (by decide), hs2 28 (by decide), ju_off _ _ _ _ _ (by decide)]; exact hh
  refine r_pI 1 (dc dkX3_readFrom 14 rfl) fpX3_15 fd_47_1 rfl (np 26 rfl ?_)
  refine r_aload_n (dc dkX3_readFrom 15 rfl) rfl (np 27 rfl ?_)
  refine r_aload_n (dc dkX3_readFrom 16 rfl) rfl (np 28 rfl ?_)
  refine r_iconst (dc dkX3_readFrom 17 rfl) (np 29 rfl ?_)
  refine r_aload_n (dc dkX3_readFrom 18 rfl) rfl (np 30 rfl ?_)
  refine r_gI 1 (dc dkX3_readFrom 19 rfl) flX3_49 fd_28_1 rfl (np 33 rfl ?_)
  refine r_iconst (dc dkX3_readFrom 20 rfl) (np 34 rfl ?_)
  refine r_isub (dc dkX3_readFrom 21 rfl) (np 35 rfl ?_)
  refine r_cV2 (y' := miX8_number) (dc dkX3_readFrom 22 rfl) mlX3_45 ceX8_number ob_1 (Nat.le_of_ble_eq_true rfl) (Nat.le_of_ble_eq_true rfl) (c_X8_number (rd_ju hR3 (by decide)) (by decide) (by rw [v3]; omega)) (fun r τ4 hp4 => (np 38 rfl ?_))
  obtain ⟨z4, rfl, hz4, hs4, hR4⟩ := hp4
  rw [v3] at hR4 hz4
  refine r_pI 2 (dc dkX3_readFrom 23 rfl) fpX3_18 fd_47_2 rfl (np 41 rfl ?_)
  refine r_aload_n (dc dkX3_readFrom 24 rfl) rfl (np 42 rfl ?_)
  refine r_bipush (dc dkX3_readFrom 25 rfl) bp_59 (np 44 rfl ?_)
  refine r_cV1 (y' := miX8_expect) (dc dkX3_readFrom 26 rfl) mlX3_34 ceX8_expect ob_1 (Nat.le_of_ble_eq_true rfl) (Nat.le_of_ble_eq_true rfl) (c_X8_expect (rd_ju hR4 (by decide)) (by decide)) (fun r τ5 hp5 => (np 47 rfl ?_))
  obtain ⟨rfl, hs5, hR5⟩ := hp5
  change rd t L m (atR t L m w h R) τ5 at hR5
  have S5 : same [1, 47, 48, 49] σ τ5 := by
    intro c hc
    have c1 : ¬ c = 1 ∧ ¬ c = 47 := by simp at hc; omega
    rw [hs5 c (by simpa using c1.1), ju_off _ _ _ _ _ c1.2, hs4 c (by simpa using c1.1), ju_off _ _ _ _ _ c1.2, hs3 c (by simpa using c1.1), hs2 c (by simpa using c1.1), ju_off _ _ _ _ _ c1.2]
  have a0 : τ5 47 0 = 0 := by rw [hs5 47 (by decide), ju_ne (by decide), hs4 47 (by decide), ju_ne (by decide), hs3 47 (by decide), hs2 47 (by decide), ju_at]
  have a1 : τ5 47 1 = z3 := by rw [hs5 47 (by decide), ju_ne (by decide), hs4 47 (by decide), ju_at]
  have a2 : τ5 47 2 = z4 := by rw [hs5 47 (by decide), ju_at]
  refine r_iconst (dc dkX3_readFrom 27 rfl) (np 48 rfl ?_)
  refine r_istore_n (lv' := [(3, _), (0, _), (1, _), (2, _)]) (dc dkX3_readFrom 28 rfl) (Nat.le_of_ble_eq_true rfl) rfl (np 49 rfl ?_)
  refine r_pick [1, 2, 3, 0] (lv' := [(0, _), (1, _), (2, _), (3, _)]) rfl ?_
  refine jlp2 (P := fun (i : Int) (τ : jS) => jR _ _ _ 49 [(0, .ref 47), (1, .ref 1), (2, .ref 28), (3, vI i)] [] τ) (I := fun (i : Int) (τ : jS) => (0 ≤ i ∧ i ≤ 9) ∧ cB 8 (τ 47 0) ∧ same [1, 47, 48, 49] σ τ ∧ ∃ (Rc : Int × Int) (Cc : Int → Int), rd t L m Rc τ ∧ (Rc.1 = 0 → i = τ 47 0 ∧ CR τ 47 Cc (τ 47 0) ∧ byF t L m 9 0 (atR t L m w h R) (atC t L m w R C) = byF t L m (9 - τ 47 0).toNat (τ 47 0) Rc Cc) ∧ (¬ Rc.1 = 0 → (byF t L m 9 0 (atR t L m w h R) (atC t L m w R C)).1 = Rc)) (fun (i : Int) (τ : jS) => (9 - i).toNat) ?_ _ _ (by
        refine ⟨by omega, by omega, S5, _, atC t L m w R C, hR5, fun z => ⟨by omega, ?_, by rw [a0]; rfl⟩, fun z => by rw [byF_e (Or.inl z)]⟩
        obtain ⟨g1, g2, g3, g4, g5⟩ := at_0 z
        rw [a0]
        refine ⟨a0, ?_, ?_, fun i i0 i1 => by omega⟩
        · rw [a1, hz3 g2]; unfold atC; rw [up_ne (by decide), up_at]
        · rw [a2, hz4 g3]; unfold atC; rw [up_at])
  intro i τ hI49 ih49
  obtain ⟨hb, h8c, hS, Rc, Cc, hRc, hG, hX⟩ := hI49
  refine r_iload_n (dc dkX3_readFrom 29 rfl) rfl (np 50 rfl ?_)
  refine r_bipush (dc dkX3_readFrom 30 rfl) bp_8 (np 52 rfl ?_)
  refine r_icmp_gt (tgt := 89) (dc dkX3_readFrom 31 rfl) rfl (by first | assumption | decide | omega) (by first | assumption | decide | omega) (fun h52 => ?_) (fun h52 => (np 55 rfl ?_))
  · skip
    exact r_vret (dc dkX3_readFrom 48 rfl) rfl (by
        have hf : ¬ Rc.1 = 0 := by first | assumption | (intro z; have := (hG z).1; omega)
        have x := hX hf
        exact ⟨rfl, hS, h8c, by rw [x]; exact hRc, fun z => by rw [x] at z; exact absurd z hf⟩)
  refine r_aload_n (dc dkX3_readFrom 32 rfl) rfl (np 56 rfl ?_)
  refine r_pV0 (y' := miX8_isFine) (dc dkX3_readFrom 33 rfl) mlX3_52 ceX8_isFine ob_1 (Nat.le_of_ble_eq_true rfl) (Nat.le_of_ble_eq_true rfl) (c_X8_isFine hRc) (np 59 rfl ?_)
  refine r_bz (tgt := 89) (dc dkX3_readFrom 34 rfl) rfl (fun h59 => ?_) (fun h59 => (np 62 rfl ?_))
  · skip
    exact r_vret (dc dkX3_readFrom 48 rfl) rfl (by
        have hf : ¬ Rc.1 = 0 := by first | assumption | (intro z; have := (hG z).1; omega)
        have x := hX hf
        exact ⟨rfl, hS, h8c, by rw [x]; exact hRc, fun z => by rw [x] at z; exact absurd z hf⟩)
  have hf : Rc.1 = 0 := by assumption
  have hk := rd_k hRc hf
  have hkb := tK_b (t := t) (L := L) (m := m) (p := Rc.2)
  refine r_aload_n (dc dkX3_readFrom 35 rfl) rfl (np 63 rfl ?_)
  have jj78 : ¬ (¬ Rc.1 = 0 ∨ (3 ≤ τ 47 0 ∧ tK t L m Rc.2 = 0)) → jR 12 miX3_readFrom (fun r τ => r = none ∧ same [1, 47, 48, 49] σ τ ∧ cB 8 (τ 47 0) ∧ rd t L m (byF t L m 9 0 (atR t L m w h R) (atC t L m w R C)).1 τ ∧ ((byF t L m 9 0 (atR t L m w h R) (atC t L m w R C)).1.1 = 0 → CR τ 47 (byF t L m 9 0 (atR t L m w h R) (atC t L m w R C)).2.1 (byF t L m 9 0 (atR t L m w h R) (atC t L m w R C)).2.2)) 78 [(0, .ref 47), (1, .ref 1), (2, .ref 28), (3, vI i)] [] τ := by
    intro hno
    refine r_aload_n (dc dkX3_readFrom 43 rfl) rfl (np 79 rfl ?_)
    refine r_aload_n (dc dkX3_readFrom 44 rfl) rfl (np 80 rfl ?_)
    refine r_cV1 (y' := miX3_readBy) (dc dkX3_readFrom 45 rfl) mlX3_59 ceX3_readBy ob_47 (Nat.le_of_ble_eq_true rfl) (Nat.le_of_ble_eq_true rfl) (c_X3_readBy hRc h8c (hG hf).2.1) (fun r τ6 hp6 => (np 83 rfl ?_))
    obtain ⟨rfl, hs6, h86, hR6, hC6⟩ := hp6
    refine r_iinc (lv' := [(3, _), (0, _), (1, _), (2, _)]) (dc dkX3_readFrom 46 rfl) (Nat.le_of_ble_eq_true rfl) rfl rfl (np 86 rfl ?_)
    refine r_goto (tgt := 49) (dc dkX3_readFrom 47 rfl) rfl ?_
    refine r_pick [1, 2, 3, 0] rfl ?_
    exact ih49 _ _ (by
          obtain ⟨g1, g2, g3⟩ := hG hf
          have hK : (9 - τ 47 0).toNat = (8 - τ 47 0).toNat + 1 := by omega
          refine ⟨by omega, h86, hS.tr hs6, _, byC t L m (τ 47 0) Rc Cc, hR6, fun z => ?_, fun z => ?_⟩
          · have q := hC6 z
            have q0 : τ6 47 0 = τ 47 0 + 1 := q.1
            rw [q0]
            exact ⟨by omega, q, by rw [g3, hK, byF_y hno z, show (9 - (τ 47 0 + 1)).toNat = (8 - τ 47 0).toNat by omega]⟩
          · rw [g3, hK, byF_n hno z]) (by omega)
  refine r_gI 0 (dc dkX3_readFrom 36 rfl) flX3_9 fd_47_0 rfl (np 66 rfl ?_)
  refine r_iconst (dc dkX3_readFrom 37 rfl) (np 67 rfl ?_)
  refine r_icmp_lt (tgt := 78) (dc dkX3_readFrom 38 rfl) rfl (by first | assumption | decide | omega) (by first | assumption | decide | omega) (fun h67 => ?_) (fun h67 => (np 70 rfl ?_))
  · skip
    refine r_pick [0, 1, 2, 3] rfl ?_
    exact jj78 (by omega)
  refine r_aload_n (dc dkX3_readFrom 39 rfl) rfl (np 71 rfl ?_)
  refine r_gI 4 (dc dkX3_readFrom 40 rfl) flX3_56 fd_1_4 rfl (np 74 rfl ?_)
  refine r_if_ne (tgt := 78) (dc dkX3_readFrom 41 rfl) rfl (by first | assumption | decide | omega) (fun h74 => ?_) (fun h74 => (np 77 rfl ?_))
  · skip
    refine r_pick [0, 1, 2, 3] rfl ?_
    exact jj78 (by omega)
  exact r_vret (dc dkX3_readFrom 42 rfl) rfl (by obtain ⟨g1, g2, g3⟩ := hG hf; have g4 : byF t L m (9 - τ 47 0).toNat (τ 47 0) Rc Cc = (Rc, Cc, τ 47 0) := byF_e (Or.inr ⟨by omega, by omega⟩); rw [g4] at g3; rw [g3]; exact ⟨rfl, hS, h8c, hRc, fun _ => g2⟩)
set_option maxRecDepth 100000 in
set_option maxHeartbeats 4000000 in
theorem c_X12_calls {σ : jS} (hL : cB 640 (σ 2 1)) (hwb : cB 10 (σ 28 0)) (hhb : cB 10 (σ 28 1)) {C : Int → Int} : Jm 13 miX12_calls [.ref 0] σ (fun r τ => (same [0, 1, 2, 34, 35, 36, 47, 48, 49] σ τ ∧ τ 2 1 = 0 ∧ (∀ j, ¬ j = 13 → τ 0 j = σ 0 j) ∧ τ 0 13 = (caF (tpe σ) (σ 2 1) 300 (σ 28 0) (σ 28 1) C).1.1 ∧ cB 8 (τ 47 0)) ∧ ((caF (tpe σ) (σ 2 1) 300 (σ 28 0) (σ 28 1) C).1.1 = 0 → r = some (vI (caF (tpe σ) (σ 2 1) 300 (σ 28 0) (σ 28 1) C).2.2) ∧ CR τ 34 (caF (tpe σ) (σ 2 1) 300 (σ 28 0) (σ 28 1) C).2.1 (caF (tpe σ) (σ 2 1) 300 (σ 28 0) (σ 28 1) C).2.2) ∧ (¬ (caF (tpe σ) (σ 2 1) 300 (σ 28 0) (σ 28 1) C).1.1 = 0 → r = some (vI (-1 - (caF (tpe σ) (σ 2 1) 300 (σ 28 0) (σ 28 1) C).1.2)) ∧ ∀ c, 34 ≤ c → c < 37 → τ c = σ c)) := by
  refine jm_ofF (Po := (fun r τ => (same [0, 1, 2, 34, 35, 36, 47, 48, 49] σ τ ∧ τ 2 1 = 0 ∧ (∀ j, ¬ j = 13 → τ 0 j = σ 0 j) ∧ τ 0 13 = (caF (tpe σ) (σ 2 1) 300 (σ 28 0) (σ 28 1) C).1.1 ∧ cB 8 (τ 47 0)) ∧ ((caF (tpe σ) (σ 2 1) 300 (σ 28 0) (σ 28 1) C).1.1 = 0 → r = some (vI (caF (tpe σ) (σ 2 1) 300 (σ 28 0) (σ 28 1) C).2.2) ∧ CR τ 34 (caF (tpe σ) (σ 2 1) 300 (σ 28 0) (σ 28 1) C).2.1 (caF (tpe σ) (σ 2 1) 300 (σ 28 0) (σ 28 1) C).2.2) ∧ (¬ (caF (tpe σ) (σ 2 1) 300 (σ 28 0) (σ 28 1) C).1.1 = 0 → r = some (vI (-1 - (caF (tpe σ) (σ 2 1) 300 (σ 28 0) (σ 28 1) C).1.2)) ∧ ∀ c, 34 ≤ c → c < 37 → τ c = σ c))) (plainFor_of_name (by decide)) (Nat.le_of_ble_eq_true rfl) (lv := [(0, _)]) rfl ?_
  refine r_aload_n (dc dkX12_calls 0 rfl) rfl (np 1 rfl ?_)
  refine r_getR (dc dkX12_calls 1 rfl) flX12_10 fd_0_0 (np 4 rfl ?_)
  refine r_sipush (dc dkX12_calls 2 rfl) sp_300 (np 7 rfl ?_)
  refine r_cV1 (y' := miX8_open) (dc dkX12_calls 3 rfl) mlX12_102 ceX8_open ob_1 (Nat.le_of_ble_eq_true rfl) (Nat.le_of_ble_eq_true rfl) (c_X8_open (by decide) hL) (fun r τ1 hp1 => (np 10 rfl ?_))
  obtain ⟨rfl, hs1, hR1⟩ := hp1
  refine r_aload_n (dc dkX12_calls 4 rfl) rfl (np 11 rfl ?_)
  refine r_getR (dc dkX12_calls 5 rfl) flX12_28 fd_0_3 (np 14 rfl ?_)
  refine r_getR (dc dkX12_calls 6 rfl) flX12_142 fd_40_2 (np 17 rfl ?_)
  refine r_aload_n (dc dkX12_calls 7 rfl) rfl (np 18 rfl ?_)
  refine r_getR (dc dkX12_calls 8 rfl) flX12_10 fd_0_0 (np 21 rfl ?_)
  refine r_aload_n (dc dkX12_calls 9 rfl) rfl (np 22 rfl ?_)
  refine r_getR (dc dkX12_calls 10 rfl) flX12_24 fd_0_2 (np 25 rfl ?_)
  refine r_getR (dc dkX12_calls 11 rfl) flX12_105 fd_27_1 (np 28 rfl ?_)
  refine r_cV2 (y' := miX3_readFrom) (dc dkX12_calls 12 rfl) mlX12_283 ceX3_readFrom ob_47 (Nat.le_of_ble_eq_true rfl) (Nat.le_of_ble_eq_true rfl) (c_X3_readFrom hR1 (by rw [hs1 28 (by decide)]) (by rw [hs1 28 (by decide)]) hwb hhb (C := C)) (fun r τ2 hp2 => (np 31 rfl ?_))
  obtain ⟨rfl, hs2, h82, hR2, hC2⟩ := hp2
  change rd (tpe σ) (σ 2 1) 300 (caF (tpe σ) (σ 2 1) 300 (σ 28 0) (σ 28 1) C).1 τ2 at hR2
  change (caF (tpe σ) (σ 2 1) 300 (σ 28 0) (σ 28 1) C).1.1 = 0 → CR τ2 47 (caF (tpe σ) (σ 2 1) 300 (σ 28 0) (σ 28 1) C).2.1 (caF (tpe σ) (σ 2 1) 300 (σ 28 0) (σ 28 1) C).2.2 at hC2
  have e7 := rd_e hR2
  have S2 : same [1, 47, 48, 49] σ τ2 := (hs1.wide (by decide)).tr hs2
  refine r_aload_n (dc dkX12_calls 13 rfl) rfl (np 32 rfl ?_)
  refine r_cV0 (y' := miX12_hasFault) (dc dkX12_calls 14 rfl) mlX12_132 ceX12_hasFault ob_0 (Nat.le_of_ble_eq_true rfl) (Nat.le_of_ble_eq_true rfl) (c_X12_hasFault (by rw [e7.1]; have := e7.2; omega)) (fun r τ6 hp6 => (np 35 rfl ?_))
  obtain ⟨rfl, hp6⟩ := hp6
  have t6 : ∀ c, ¬ c = 0 → ¬ c = 2 → τ6 c = τ2 c := fun c h1 h2 => by rw [hp6, ju_off _ _ _ _ _ h1, ju_off _ _ _ _ _ h2]
  have f1 := e7.1
  rw [f1]
  rw [f1] at hp6
  refine r_bz (tgt := 48) (dc dkX12_calls 15 rfl) rfl (fun h35 => ?_) (fun h35 => (np 38 rfl ?_))
  · skip
    have hz : (caF (tpe σ) (σ 2 1) 300 (σ 28 0) (σ 28 1) C).1.1 = 0 := Classical.byContradiction h35
    have hg := hC2 hz
    have hok := caF_ok hz
    refine r_aload_n (dc dkX12_calls 22 rfl) rfl (np 49 rfl ?_)
    refine r_getR (dc dkX12_calls 23 rfl) flX12_24 fd_0_2 (np 52 rfl ?_)
    refine r_getR (dc dkX12_calls 24 rfl) flX12_142 fd_27_2 (np 55 rfl ?_)
    refine r_aload_n (dc dkX12_calls 25 rfl) rfl (np 56 rfl ?_)
    refine r_getR (dc dkX12_calls 26 rfl) flX12_28 fd_0_3 (np 59 rfl ?_)
    refine r_getR (dc dkX12_calls 27 rfl) flX12_142 fd_40_2 (np 62 rfl ?_)
    refine r_cV1 (y' := miX3_copyFrom) (dc dkX12_calls 28 rfl) mlX12_287 ceX3_copyFrom ob_34 (Nat.le_of_ble_eq_true rfl) (Nat.le_of_ble_eq_true rfl) (c_X3_copyFrom isCalls_at34 isCalls_at47 (by decide)) (fun r τ7 hp7 => (np 65 rfl ?_))
    obtain ⟨rfl, hs7, hc7⟩ := hp7
    refine r_aload_n (dc dkX12_calls 29 rfl) rfl (np 66 rfl ?_)
    refine r_getR (dc dkX12_calls 30 rfl) flX12_24 fd_0_2 (np 69 rfl ?_)
    refine r_getR (dc dkX12_calls 31 rfl) flX12_142 fd_27_2 (np 72 rfl ?_)
    refine r_gI 0 (dc dkX12_calls 32 rfl) flX12_146 fd_34_0 rfl (np 75 rfl ?_)
    exact r_iret (dc dkX12_calls 33 rfl) rfl (by
        have g6 : CR τ6 47 _ _ := CR_t hg (t6 47 (by decide) (by decide)) (t6 48 (by decide) (by decide)) (t6 49 (by decide) (by decide))
        have g7 := CR_cp g6 hok.2.1 hc7
        refine ⟨⟨fun c hc => ?_, ?_, fun j j13 => ?_, ?_, ?_⟩, fun _ => ⟨by rw [g7.1], g7⟩, fun z => absurd hz z⟩
        · simp at hc
          rw [hs7 c (by omega), t6 c (by omega) (by omega), S2 c (by simp; omega)]
        · rw [hs7 2 (by decide), hp6, ju_ne (by decide), ju_at]
        · rw [hs7 0 (by decide), hp6, ju_ne (by omega), ju_ne (by omega), S2 0 (by decide)]
        · rw [hs7 0 (by decide), hp6, ju_at]
        · rw [hs7 47 (by decide), t6 47 (by decide) (by decide)]; exact h82)
  refine r_iconst (dc dkX12_calls 16 rfl) (np 39 rfl ?_)
  refine r_aload_n (dc dkX12_calls 17 rfl) rfl (np 40 rfl ?_)
  refine r_getR (dc dkX12_calls 18 rfl) flX12_10 fd_0_0 (np 43 rfl ?_)
  refine r_gI 8 (dc dkX12_calls 19 rfl) flX12_135 fd_1_8 rfl (np 46 rfl ?_)
  refine r_isub (dc dkX12_calls 20 rfl) (np 47 rfl ?_)
  exact r_iret (dc dkX12_calls 21 rfl) rfl (by
      refine ⟨⟨fun c hc => ?_, ?_, fun j j13 => ?_, ?_, ?_⟩, fun z => absurd z h35, fun _ => ⟨?_, fun c h1 h2 => ?_⟩⟩
      · simp at hc
        rw [t6 c (by omega) (by omega), S2 c (by simp; omega)]
      · rw [hp6, ju_ne (by decide), ju_at]
      · rw [hp6, ju_ne (by omega), ju_ne (by omega), S2 0 (by decide)]
      · rw [hp6, ju_at]
      · rw [t6 47 (by decide) (by decide)]; exact h82
      · rw [t6 1 (by decide) (by decide), rd_pl hR2 h35]
      · rw [t6 c (by omega) (by omega), S2 c (by simp; omega)])
