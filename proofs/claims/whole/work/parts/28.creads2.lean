theorem RC_t {σ τ : jS} {k : Nat} {D : Int → Int} (h : RC σ k D) (e0 : τ k = σ k) (e2 : τ (k + 2) = σ (k + 2)) (e4 : τ (k + 4) = σ (k + 4)) (e5 : τ (k + 5) = σ (k + 5)) : RC τ k D := by
  unfold RC outB at h ⊢
  rw [e0, e2, e4, e5]
  exact h
theorem nmD_t {σ τ : jS} {k : Nat} {D N : Int → Int} (h : nmD σ k D N) (e0 : τ k = σ k) (e1 : τ (k + 1) = σ (k + 1)) (e3 : τ (k + 3) = σ (k + 3)) : nmD τ k D N := by
  unfold nmD at h ⊢
  rw [e0, e1, e3]
  exact h
/-- the draft's board as it is read -/
def dB (σ : jS) (D N : Int → Int) : Prop := okA σ 41 ∧ RC σ 41 D ∧ nmD σ 41 D N
theorem dB_s {σ τ : jS} {D N : Int → Int} (h : dB σ D N) (e0 : τ 41 = σ 41) (e1 : τ 42 = σ 42) (e2 : τ 43 = σ 43) (e3 : τ 44 = σ 44) (e4 : τ 45 = σ 45) (e5 : τ 46 = σ 46) : dB τ D N :=
  ⟨okA_41 h.1 e1 e3 e4 e5 (by rw [e2]; exact h.1.1.1) (by rw [e0]; exact h.1.2.2.1) (by rw [e0]; exact h.1.2.2.2), RC_t h.2.1 e0 e2 e4 e5, nmD_t h.2.2 e0 e1 e3⟩
theorem dB_1 {σ τ : jS} {D N : Int → Int} (h : dB σ D N) (hs : same [1] σ τ) : dB τ D N := dB_s h (hs 41 (by decide)) (hs 42 (by decide)) (hs 43 (by decide)) (hs 44 (by decide)) (hs 45 (by decide)) (hs 46 (by decide))
/-- a board that is told -/
def okT2 (D : Int → Int) : Prop := 2 ≤ D 0 ∧ D 0 ≤ 10 ∧ 2 ≤ D 1 ∧ D 1 ≤ 10
theorem dB_D {σ : jS} {D N : Int → Int} (h : dB σ D N) (hV : okV D) : okD σ 41 := RC_D h.2.1 hV h.1
theorem outB_take {σ : jS} {k : Nat} {p q z : Int} (hp : isPg p) (hq : isPg q) : outB (ju (if p < 64 then ju σ k 4 (lOr (σ k 4) (lShl 1 p)) else ju σ k 5 (lOr (σ k 5) (lShl 1 (p - 64)))) k 3 z) k q ↔ outB σ k q ∨ q = p := by
  unfold outB
  by_cases h : p < 64
  · have e4 : ju (ju σ k 4 (lOr (σ k 4) (lShl 1 p))) k 3 z k 4 = lOr (σ k 4) (lShl 1 p) := by rw [ju_ne (by omega), ju_at]
    have e5 : ju (ju σ k 4 (lOr (σ k 4) (lShl 1 p))) k 3 z k 5 = σ k 5 := by rw [ju_ne (by omega), ju_ne (by omega)]
    rw [if_pos h, e4, e5]
    by_cases g : q < 64
    · rw [if_pos g, if_pos g, bt_or (by omega) (by omega)]
    · rw [if_neg g, if_neg g]
      exact ⟨fun z => Or.inl z, fun z => z.elim id (fun z => by omega)⟩
  · have e4 : ju (ju σ k 5 (lOr (σ k 5) (lShl 1 (p - 64)))) k 3 z k 4 = σ k 4 := by rw [ju_ne (by omega), ju_ne (by omega)]
    have e5 : ju (ju σ k 5 (lOr (σ k 5) (lShl 1 (p - 64)))) k 3 z k 5 = lOr (σ k 5) (lShl 1 (p - 64)) := by rw [ju_ne (by omega), ju_at]
    rw [if_neg h, e4, e5]
    by_cases g : q < 64
    · rw [if_pos g, if_pos g]
      exact ⟨fun z => Or.inl z, fun z => z.elim id (fun z => by omega)⟩
    · rw [if_neg g, if_neg g, bt_or (by omega) (by omega)]
      exact ⟨fun z => z.elim Or.inl (fun z => Or.inr (by omega)), fun z => z.elim Or.inl (fun z => Or.inr (by omega))⟩
theorem plG_in {w h x y : Int} (h1 : 0 ≤ x ∧ 0 ≤ y ∧ x < w ∧ y < h) : plG w h x y = 10 * y + x := if_pos h1
theorem flR_1 {t : Int → Int} {L m f : Int} {R : Int × Int} (h : R.1 = 0) : (flR t L m f R).1 = f := by rw [flR_y h]
theorem okA_x {σ τ : jS} (h : okA σ 41) (h1 : ∀ j, 0 ≤ j → j < 8 → 0 ≤ τ 42 j ∧ τ 42 j < 10460353203) (e2 : τ 44 = σ 44) (e3 : τ 45 = σ 45) (e4 : τ 46 = σ 46) (hm : cB 8 (τ 43 0)) (hn : cB 8 (τ 41 6)) (hw : cB 5 (τ 41 7)) : okA τ 41 := by
  obtain ⟨⟨_, b1, b2, b3⟩, a1, a2, a3⟩ := h
  refine ⟨⟨hm, ?_, ?_, ?_⟩, h1, hn, hw⟩
  · intro b h0 h1
    show 0 ≤ τ 45 b ∧ τ 45 b ≤ 8
    rw [e3]; exact b1 b h0 h1
  · intro b h0 h1
    show isPg (τ 46 b)
    rw [e4]; exact b2 b h0 h1
  · intro b h0 h1
    show -1 ≤ τ 44 b ∧ τ 44 b ≤ 7
    rw [e2]; exact b3 b h0 h1
set_option maxRecDepth 100000 in
set_option maxHeartbeats 4000000 in
theorem c_X1_readOut {σ : jS} {t : Int → Int} {L m : Int} {R : Int × Int} (hR : rd t L m R σ) {D N : Int → Int} (hB : dB σ D N) (hV : okV D) (hw : okT2 D) (h0 : R.1 = 0) : Jm 10 miX1_readOut [.ref 41, .ref 1] σ (fun r τ => r = none ∧ same [1, 6, 41, 42, 43, 44, 45, 46] σ τ ∧ okA τ 41 ∧ rd t L m (otR t L m R D) τ ∧ ((otR t L m R D).1 = 0 → RC τ 41 (otD t L m R D) ∧ nmD τ 41 (otD t L m R D) (N))) := by
  have c4 := hB.2.1.2.2.2.2.1
  have c3 := hB.2.1.2.2.2.1
  have v3 := hV.2.2.1
  have v4 := hV.2.2.2.1
  have hw2 := hw
  unfold okT2 at hw2
  replace c4 : σ 43 0 = D 4 := c4
  refine jm_ofF (Po := (fun r τ => r = none ∧ same [1, 6, 41, 42, 43, 44, 45, 46] σ τ ∧ okA τ 41 ∧ rd t L m (otR t L m R D) τ ∧ ((otR t L m R D).1 = 0 → RC τ 41 (otD t L m R D) ∧ nmD τ 41 (otD t L m R D) (N)))) (plainFor_of_name (by decide)) (Nat.le_of_ble_eq_true rfl) (lv := [(0, _), (1, _)]) rfl ?_
  have jj32 : ∀ τ2 : jS, same [1] σ τ2 ∧ rd t L m (gte (0 < D 4) (flR t L m 3 R) (gte (12 ≤ D 3) (flR t L m 4 R) R)) τ2 → jR 10 miX1_readOut (fun r τ => r = none ∧ same [1, 6, 41, 42, 43, 44, 45, 46] σ τ ∧ okA τ 41 ∧ rd t L m (otR t L m R D) τ ∧ ((otR t L m R D).1 = 0 → RC τ 41 (otD t L m R D) ∧ nmD τ 41 (otD t L m R D) (N))) 32 [(0, .ref 41), (1, .ref 1)] [] τ2 := by
    intro τ2 hq
    obtain ⟨hs2, hR2⟩ := hq
    have hB2 := dB_1 hB hs2
    refine r_aload_n (dc dkX1_readOut 15 rfl) rfl (np 33 rfl ?_)
    refine r_cV0 (y' := miX8_step) (dc dkX1_readOut 16 rfl) mlX1_116 ceX8_step ob_1 (Nat.le_of_ble_eq_true rfl) (Nat.le_of_ble_eq_true rfl) (c_X8_step hR2) (fun r τ3 hp3 => (np 36 rfl ?_))
    obtain ⟨rfl, hs3, hR3⟩ := hp3
    have hB3 := dB_1 hB2 hs3
    have e0 : τ3 41 0 = D 0 := hB3.2.1.1
    refine r_aload_n (dc dkX1_readOut 17 rfl) rfl (np 37 rfl ?_)
    refine r_iconst (dc dkX1_readOut 18 rfl) (np 38 rfl ?_)
    refine r_aload_n (dc dkX1_readOut 19 rfl) rfl (np 39 rfl ?_)
    refine r_gI 0 (dc dkX1_readOut 20 rfl) flX1_9 fd_41_0 rfl (np 42 rfl ?_)
    refine r_iconst (dc dkX1_readOut 21 rfl) (np 43 rfl ?_)
    refine r_isub (dc dkX1_readOut 22 rfl) (np 44 rfl ?_)
    refine r_cV2 (y' := miX8_number) (dc dkX1_readOut 23 rfl) mlX1_107 ceX8_number ob_1 (Nat.le_of_ble_eq_true rfl) (Nat.le_of_ble_eq_true rfl) (c_X8_number hR3 (by decide) (by rw [e0]; omega)) (fun r τ4 hp4 => (np 47 rfl ?_))
    obtain ⟨z4, rfl, hz4, hs4, hR4⟩ := hp4
    rw [e0] at hR4 hz4
    have hB4 := dB_1 hB3 hs4
    have e1 : τ4 41 1 = D 1 := hB4.2.1.2.1
    refine r_istore_n (lv' := [(2, _), (0, _), (1, _)]) (dc dkX1_readOut 24 rfl) (Nat.le_of_ble_eq_true rfl) rfl (np 48 rfl ?_)
    refine r_aload_n (dc dkX1_readOut 25 rfl) rfl (np 49 rfl ?_)
    refine r_iconst (dc dkX1_readOut 26 rfl) (np 50 rfl ?_)
    refine r_aload_n (dc dkX1_readOut 27 rfl) rfl (np 51 rfl ?_)
    refine r_gI 1 (dc dkX1_readOut 28 rfl) flX1_15 fd_41_1 rfl (np 54 rfl ?_)
    refine r_iconst (dc dkX1_readOut 29 rfl) (np 55 rfl ?_)
    refine r_isub (dc dkX1_readOut 30 rfl) (np 56 rfl ?_)
    refine r_cV2 (y' := miX8_checkNumber) (dc dkX1_readOut 31 rfl) mlX1_127 ceX8_checkNumber ob_1 (Nat.le_of_ble_eq_true rfl) (Nat.le_of_ble_eq_true rfl) (c_X8_checkNumber hR4 (by decide) (by rw [e1]; omega)) (fun r τ5 hp5 => (np 59 rfl ?_))
    obtain ⟨rfl, hs5, hR5⟩ := hp5
    rw [e1] at hR5
    have hB5 := dB_1 hB4 hs5
    have hS5 : same [1] σ τ5 := ((hs2.tr hs3).tr hs4).tr hs5
    change rd t L m (ot2 t L m R D) τ5 at hR5
    refine r_aload_n (dc dkX1_readOut 32 rfl) rfl (np 60 rfl ?_)
    refine r_pV0 (y' := miX8_isFine) (dc dkX1_readOut 33 rfl) mlX1_131 ceX8_isFine ob_1 (Nat.le_of_ble_eq_true rfl) (Nat.le_of_ble_eq_true rfl) (c_X8_isFine hR5) (np 63 rfl ?_)
    refine r_bz (tgt := 104) (dc dkX1_readOut 34 rfl) rfl (fun h63 => ?_) (fun h63 => (np 66 rfl ?_))
    · skip
      refine r_aload_n (dc dkX1_readOut 57 rfl) rfl (np 105 rfl ?_)
      refine r_cV0 (y' := miX8_step) (dc dkX1_readOut 58 rfl) mlX1_116 ceX8_step ob_1 (Nat.le_of_ble_eq_true rfl) (Nat.le_of_ble_eq_true rfl) (c_X8_step (by first | exact hR6 | exact hR5)) (fun r τ7 hp7 => (np 108 rfl ?_))
      obtain ⟨rfl, hs7, hR7⟩ := hp7
      exact r_vret (dc dkX1_readOut 59 rfl) rfl (by
          first
          | (have hB7 := dB_1 hB5 hs7
             refine ⟨rfl, (hS5.tr hs7).wide (by decide), hB7.1, by rw [otR, gte_flR h63]; exact hR7, fun z => ?_⟩
             exfalso
             rw [otR, gte_flR h63, stR_f] at z
             exact h63 z)
          | (have hB7 := dB_1 (dB_1 hB5 hs6) hs7
             refine ⟨rfl, ((hS5.tr hs6).tr hs7).wide (by decide), hB7.1, by rw [otR, gte_f hO]; exact hR7, fun z => ?_⟩
             exfalso
             rw [otR, gte_f hO, stR_f] at z
             exact flR_f (by decide) z)
          | (have g41 : τ7 41 = τ6 41 := hs7 41 (by decide)
             have gc : ∀ c, c ∉ [1, 41] → τ7 c = τ5 c := fun c hc => by
               have hc1 : ¬ c = 1 ∧ ¬ c = 41 := by simpa using hc
               rw [hs7 c (by simpa using hc1.1), hs6 c (by simpa using hc1.2)]
             have gj : ∀ j, ¬ j = 3 → ¬ j = 4 → ¬ j = 5 → τ7 41 j = τ5 41 j := fun j j3 j4 j5 => by
               rw [g41, hp6, ju_ne (by omega)]
               split <;> rw [ju_ne (by omega)]
             have g3 : τ7 41 3 = τ5 41 3 + 1 := by rw [g41, hp6, ju_at]
             have oA := hB5.1
             have f3 : τ5 41 3 = D 3 := hB5.2.1.2.2.2.1
             refine ⟨rfl, ?_, okA_41 oA (gc 42 (by decide)) (gc 44 (by decide)) (gc 45 (by decide)) (gc 46 (by decide)) (by rw [gc 43 (by decide)]; exact oA.1.1) (by rw [gj 6 (by decide) (by decide) (by decide)]; exact oA.2.2.1) (by rw [gj 7 (by decide) (by decide) (by decide)]; exact oA.2.2.2), by rw [otR, gte_t hO]; exact hR7, fun z => ⟨?_, ?_⟩⟩
             · intro c hc
               have hc1 : ¬ c = 1 ∧ ¬ c = 41 := by simp at hc; omega
               rw [gc c (by simp; omega), hS5 c (by simp; omega)]
             · have hC := hB5.2.1
               obtain ⟨r0, r1, r2, r3, r4, r5, r6⟩ := hC
               have uE : ∀ j, ¬ j = 3 → ¬ j = 5 + otP t L m R D → otD t L m R D j = D j := fun j a b => by unfold otD; rw [up_ne a, up_ne b]
               have u5 : otD t L m R D (5 + otP t L m R D) = 1 := by unfold otD; rw [up_ne (by omega), up_at]
               refine ⟨by rw [gj 0 (by decide) (by decide) (by decide), uE 0 (by decide) (by omega)]; exact r0, by rw [gj 1 (by decide) (by decide) (by decide), uE 1 (by decide) (by omega)]; exact r1, by rw [gj 2 (by decide) (by decide) (by decide), uE 2 (by decide) (by omega)]; exact r2, by rw [g3, f3]; unfold otD; rw [up_at], ?_, fun p p0 p1 => ?_, fun b b0 b1 => ?_⟩
               · show τ7 43 0 = _
                 rw [gc 43 (by decide), uE 4 (by decide) (by omega)]
                 exact r4
               · have e : outB τ7 41 p ↔ outB τ5 41 p ∨ p = otP t L m R D := by
                   unfold outB
                   rw [g41, hp6]
                   exact outB_take pB (by omega)
                 rw [e, r5 p p0 p1]
                 by_cases hp : p = otP t L m R D
                 · rw [hp, u5]
                   exact ⟨fun _ => by decide, fun _ => Or.inr rfl⟩
                 · rw [uE (5 + p) (by omega) (by omega)]
                   exact ⟨fun z => z.elim id (fun z => absurd z hp), Or.inl⟩
               · rw [uE 4 (by decide) (by omega)] at b1
                 show τ7 45 b = _ ∧ ∀ i, 0 ≤ i → i < _ → τ7 46 (b * 8 + i) = _
                 rw [gc 45 (by decide), gc 46 (by decide), uE (105 + 17 * b) (by omega) (by omega)]
                 refine ⟨(r6 b b0 b1).1, fun i i0 i1 => ?_⟩
                 rw [uE _ (by omega) (by omega), uE _ (by omega) (by omega)]
                 exact (r6 b b0 b1).2 i i0 i1
             · have hN := hB5.2.2
               unfold nmD at hN ⊢
               have u4 : otD t L m R D 4 = D 4 := by unfold otD; rw [up_ne (by decide), up_ne (by omega)]
               show τ7 41 6 = _ ∧ ∀ b, 0 ≤ b → b < _ → τ7 44 b = b ∧ τ7 42 b = N b
               rw [u4, gj 6 (by decide) (by decide) (by decide), gc 44 (by decide), gc 42 (by decide)]
               exact hN))
    obtain ⟨k1, k2, k3, k4⟩ := ckR_f h63
    have k1z := k1.1
    obtain ⟨j1, j2, j3, j4⟩ := nmR_f k1z
    have x1 : z4 = nQ t L m (ot0 t L m R D).2 := hz4 k1z
    have y1 : τ5 1 5 = nQ t L m (ot1 t L m R D).2 := by
      have k5 : ot2 t L m R D = ot1 t L m R D := k4
      have q := rd_v hR5 (by rw [k5]; exact k1)
      rw [k5] at q
      exact q.1
    have x2 : 0 ≤ z4 ∧ z4 ≤ D 0 - 1 := by rw [x1]; exact ⟨j2, j3⟩
    have y2 : 0 ≤ τ5 1 5 ∧ τ5 1 5 ≤ D 1 - 1 := by rw [y1]; exact ⟨k2, k3⟩
    have f0 : τ5 41 0 = D 0 := hB5.2.1.1
    have f1 : τ5 41 1 = D 1 := hB5.2.1.2.1
    have pE : otP t L m R D = 10 * τ5 1 5 + z4 := by unfold otP; rw [x1, y1]
    have pB : isPg (otP t L m R D) := by rw [pE]; omega
    refine r_aload_n (dc dkX1_readOut 35 rfl) rfl (np 67 rfl ?_)
    refine r_iload_n (dc dkX1_readOut 36 rfl) rfl (np 68 rfl ?_)
    refine r_i2l (dc dkX1_readOut 37 rfl) (by first | assumption | decide | omega) (np 69 rfl ?_)
    refine r_aload_n (dc dkX1_readOut 38 rfl) rfl (np 70 rfl ?_)
    refine r_gI 5 (dc dkX1_readOut 39 rfl) flX1_135 fd_1_5 rfl (np 73 rfl ?_)
    refine r_i2l (dc dkX1_readOut 40 rfl) (by first | assumption | decide | omega) (np 74 rfl ?_)
    refine r_pV2 (y' := miX1_place) (dc dkX1_readOut 41 rfl) mlX1_138 ceX1_place ob_41 (Nat.le_of_ble_eq_true rfl) (Nat.le_of_ble_eq_true rfl) (c_X1_place isBoard_at41 (dB_D hB5 hV) (by omega) (by omega)) (np 77 rfl ?_)
    refine r_eqI (otP t L m R D) (by rw [plG_in (by omega), pE]) ?_
    refine r_istore_n (lv' := [(3, _), (2, _), (0, _), (1, _)]) (dc dkX1_readOut 42 rfl) (Nat.le_of_ble_eq_true rfl) rfl (np 78 rfl ?_)
    refine r_aload_n (dc dkX1_readOut 43 rfl) rfl (np 79 rfl ?_)
    refine r_iload_n (dc dkX1_readOut 44 rfl) rfl (np 80 rfl ?_)
    refine r_pV1 (y' := miX1_pegAt) (dc dkX1_readOut 45 rfl) mlX1_73 ceX1_pegAt ob_41 (Nat.le_of_ble_eq_true rfl) (Nat.le_of_ble_eq_true rfl) (c_X1_pegAt isBoard_at41 (dB_D hB5 hV) (by omega)) (np 83 rfl ?_)
    have pO := hB5.2.1.2.2.2.2.2.1 (otP t L m R D) pB.1 (by omega)
    have pk : pkC τ5 41 (otP t L m R D) = bite (outB τ5 41 (otP t L m R D)) 0 1 := by unfold pkC pkG; rw [f0, f1, if_pos (by omega)]
    have pkb := pkG_b (τ5 41 0) (τ5 41 1) (outB τ5 41) (otP t L m R D)
    change -1 ≤ pkC τ5 41 (otP t L m R D) ∧ pkC τ5 41 (otP t L m R D) ≤ 1 at pkb
    refine r_if_ne (tgt := 94) (dc dkX1_readOut 46 rfl) rfl (by first | assumption | decide | omega) (fun h83 => ?_) (fun h83 => (np 86 rfl ?_))
    · skip
      have hO : D (5 + otP t L m R D) = 0 := Classical.byContradiction (fun z => by rw [bite_t (pO.mpr z)] at pk; omega)
      refine r_iload_n (dc dkX1_readOut 51 rfl) rfl (np 95 rfl ?_)
      refine r_iconst (dc dkX1_readOut 52 rfl) (np 96 rfl ?_)
      refine r_icmp_eq (tgt := 104) (dc dkX1_readOut 53 rfl) rfl (by first | assumption | decide | omega) (by first | assumption | decide | omega) (fun h96 => ?_) (fun h96 => (np 99 rfl ?_))
      · skip
        exact absurd h96 (by omega)
      refine r_aload_n (dc dkX1_readOut 54 rfl) rfl (np 100 rfl ?_)
      refine r_iload_n (dc dkX1_readOut 55 rfl) rfl (np 101 rfl ?_)
      refine r_cV1 (y' := miX1_takeOut) (dc dkX1_readOut 56 rfl) mlX1_142 ceX1_takeOut ob_41 (Nat.le_of_ble_eq_true rfl) (Nat.le_of_ble_eq_true rfl) (c_X1_takeOut isBoard_at41 (by omega)) (fun r τ6 hp6 => (np 104 rfl ?_))
      obtain ⟨rfl, hp6⟩ := hp6
      have hs6 : same [41] τ5 τ6 := by
        intro c hc
        have hc1 : ¬ c = 41 := by simpa using hc
        rw [hp6, ju_off _ _ _ _ _ hc1]
        split <;> rw [ju_off _ _ _ _ _ hc1]
      have hR6 := rd_s hR5 hs6 (by decide) (by decide) (by decide)
      refine r_aload_n (dc dkX1_readOut 57 rfl) rfl (np 105 rfl ?_)
      refine r_cV0 (y' := miX8_step) (dc dkX1_readOut 58 rfl) mlX1_116 ceX8_step ob_1 (Nat.le_of_ble_eq_true rfl) (Nat.le_of_ble_eq_true rfl) (c_X8_step (by first | exact hR6 | exact hR5)) (fun r τ7 hp7 => (np 108 rfl ?_))
      obtain ⟨rfl, hs7, hR7⟩ := hp7
      exact r_vret (dc dkX1_readOut 59 rfl) rfl (by
          first
          | (have hB7 := dB_1 hB5 hs7
             refine ⟨rfl, (hS5.tr hs7).wide (by decide), hB7.1, by rw [otR, gte_flR h63]; exact hR7, fun z => ?_⟩
             exfalso
             rw [otR, gte_flR h63, stR_f] at z
             exact h63 z)
          | (have hB7 := dB_1 (dB_1 hB5 hs6) hs7
             refine ⟨rfl, ((hS5.tr hs6).tr hs7).wide (by decide), hB7.1, by rw [otR, gte_f hO]; exact hR7, fun z => ?_⟩
             exfalso
             rw [otR, gte_f hO, stR_f] at z
             exact flR_f (by decide) z)
          | (have g41 : τ7 41 = τ6 41 := hs7 41 (by decide)
             have gc : ∀ c, c ∉ [1, 41] → τ7 c = τ5 c := fun c hc => by
               have hc1 : ¬ c = 1 ∧ ¬ c = 41 := by simpa using hc
               rw [hs7 c (by simpa using hc1.1), hs6 c (by simpa using hc1.2)]
             have gj : ∀ j, ¬ j = 3 → ¬ j = 4 → ¬ j = 5 → τ7 41 j = τ5 41 j := fun j j3 j4 j5 => by
               rw [g41, hp6, ju_ne (by omega)]
               split <;> rw [ju_ne (by omega)]
             have g3 : τ7 41 3 = τ5 41 3 + 1 := by rw [g41, hp6, ju_at]
             have oA := hB5.1
             have f3 : τ5 41 3 = D 3 := hB5.2.1.2.2.2.1
             refine ⟨rfl, ?_, okA_41 oA (gc 42 (by decide)) (gc 44 (by decide)) (gc 45 (by decide)) (gc 46 (by decide)) (by rw [gc 43 (by decide)]; exact oA.1.1) (by rw [gj 6 (by decide) (by decide) (by decide)]; exact oA.2.2.1) (by rw [gj 7 (by decide) (by decide) (by decide)]; exact oA.2.2.2), by rw [otR, gte_t hO]; exact hR7, fun z => ⟨?_, ?_⟩⟩
             · intro c hc
               have hc1 : ¬ c = 1 ∧ ¬ c = 41 := by simp at hc; omega
               rw [gc c (by simp; omega), hS5 c (by simp; omega)]
             · have hC := hB5.2.1
               obtain ⟨r0, r1, r2, r3, r4, r5, r6⟩ := hC
               have uE : ∀ j, ¬ j = 3 → ¬ j = 5 + otP t L m R D → otD t L m R D j = D j := fun j a b => by unfold otD; rw [up_ne a, up_ne b]
               have u5 : otD t L m R D (5 + otP t L m R D) = 1 := by unfold otD; rw [up_ne (by omega), up_at]
               refine ⟨by rw [gj 0 (by decide) (by decide) (by decide), uE 0 (by decide) (by omega)]; exact r0, by rw [gj 1 (by decide) (by decide) (by decide), uE 1 (by decide) (by omega)]; exact r1, by rw [gj 2 (by decide) (by decide) (by decide), uE 2 (by decide) (by omega)]; exact r2, by rw [g3, f3]; unfold otD; rw [up_at], ?_, fun p p0 p1 => ?_, fun b b0 b1 => ?_⟩
               · show τ7 43 0 = _
                 rw [gc 43 (by decide), uE 4 (by decide) (by omega)]
                 exact r4
               · have e : outB τ7 41 p ↔ outB τ5 41 p ∨ p = otP t L m R D := by
                   unfold outB
                   rw [g41, hp6]
                   exact outB_take pB (by omega)
                 rw [e, r5 p p0 p1]
                 by_cases hp : p = otP t L m R D
                 · rw [hp, u5]
                   exact ⟨fun _ => by decide, fun _ => Or.inr rfl⟩
                 · rw [uE (5 + p) (by omega) (by omega)]
                   exact ⟨fun z => z.elim id (fun z => absurd z hp), Or.inl⟩
               · rw [uE 4 (by decide) (by omega)] at b1
                 show τ7 45 b = _ ∧ ∀ i, 0 ≤ i → i < _ → τ7 46 (b * 8 + i) = _
                 rw [gc 45 (by decide), gc 46 (by decide), uE (105 + 17 * b) (by omega) (by omega)]
                 refine ⟨(r6 b b0 b1).1, fun i i0 i1 => ?_⟩
                 rw [uE _ (by omega) (by omega), uE _ (by omega) (by omega)]
                 exact (r6 b b0 b1).2 i i0 i1
             · have hN := hB5.2.2
               unfold nmD at hN ⊢
               have u4 : otD t L m R D 4 = D 4 := by unfold otD; rw [up_ne (by decide), up_ne (by omega)]
               show τ7 41 6 = _ ∧ ∀ b, 0 ≤ b → b < _ → τ7 44 b = b ∧ τ7 42 b = N b
               rw [u4, gj 6 (by decide) (by decide) (by decide), gc 44 (by decide), gc 42 (by decide)]
               exact hN))
    have hO : ¬ D (5 + otP t L m R D) = 0 := pO.mp (Classical.byContradiction (fun z => by rw [bite_f z] at pk; omega))
    refine r_aload_n (dc dkX1_readOut 47 rfl) rfl (np 87 rfl ?_)
    refine r_iconst (dc dkX1_readOut 48 rfl) (np 88 rfl ?_)
    refine r_cV1 (y' := miX8_fail) (dc dkX1_readOut 49 rfl) mlX1_113 ceX8_fail ob_1 (Nat.le_of_ble_eq_true rfl) (Nat.le_of_ble_eq_true rfl) (c_X8_fail hR5 (by decide)) (fun r τ6 hp6 => (np 91 rfl ?_))
    obtain ⟨rfl, hs6, hR6⟩ := hp6
    refine r_goto (tgt := 104) (dc dkX1_readOut 50 rfl) rfl ?_
    refine r_aload_n (dc dkX1_readOut 57 rfl) rfl (np 105 rfl ?_)
    refine r_cV0 (y' := miX8_step) (dc dkX1_readOut 58 rfl) mlX1_116 ceX8_step ob_1 (Nat.le_of_ble_eq_true rfl) (Nat.le_of_ble_eq_true rfl) (c_X8_step (by first | exact hR6 | exact hR5)) (fun r τ7 hp7 => (np 108 rfl ?_))
    obtain ⟨rfl, hs7, hR7⟩ := hp7
    exact r_vret (dc dkX1_readOut 59 rfl) rfl (by
        first
        | (have hB7 := dB_1 hB5 hs7
           refine ⟨rfl, (hS5.tr hs7).wide (by decide), hB7.1, by rw [otR, gte_flR h63]; exact hR7, fun z => ?_⟩
           exfalso
           rw [otR, gte_flR h63, stR_f] at z
           exact h63 z)
        | (have hB7 := dB_1 (dB_1 hB5 hs6) hs7
           refine ⟨rfl, ((hS5.tr hs6).tr hs7).wide (by decide), hB7.1, by rw [otR, gte_f hO]; exact hR7, fun z => ?_⟩
           exfalso
           rw [otR, gte_f hO, stR_f] at z
           exact flR_f (by decide) z)
        | (have g41 : τ7 41 = τ6 41 := hs7 41 (by decide)
           have gc : ∀ c, c ∉ [1, 41] → τ7 c = τ5 c := fun c hc => by
             have hc1 : ¬ c = 1 ∧ ¬ c = 41 := by simpa using hc
             rw [hs7 c (by simpa using hc1.1), hs6 c (by simpa using hc1.2)]
           have gj : ∀ j, ¬ j = 3 → ¬ j = 4 → ¬ j = 5 → τ7 41 j = τ5 41 j := fun j j3 j4 j5 => by
             rw [g41, hp6, ju_ne (by omega)]
             split <;> rw [ju_ne (by omega)]
           have g3 : τ7 41 3 = τ5 41 3 + 1 := by rw [g41, hp6, ju_at]
           have oA := hB5.1
           have f3 : τ5 41 3 = D 3 := hB5.2.1.2.2.2.1
           refine ⟨rfl, ?_, okA_41 oA (gc 42 (by decide)) (gc 44 (by decide)) (gc 45 (by decide)) (gc 46 (by decide)) (by rw [gc 43 (by decide)]; exact oA.1.1) (by rw [gj 6 (by decide) (by decide) (by decide)]; exact oA.2.2.1) (by rw [gj 7 (by decide) (by decide) (by decide)]; exact oA.2.2.2), by rw [otR, gte_t hO]; exact hR7, fun z => ⟨?_, ?_⟩⟩
           · intro c hc
             have hc1 : ¬ c = 1 ∧ ¬ c = 41 := by simp at hc; omega
             rw [gc c (by simp; omega), hS5 c (by simp; omega)]
           · have hC := hB5.2.1
             obtain ⟨r0, r1, r2, r3, r4, r5, r6⟩ := hC
             have uE : ∀ j, ¬ j = 3 → ¬ j = 5 + otP t L m R D → otD t L m R D j = D j := fun j a b => by unfold otD; rw [up_ne a, up_ne b]
             have u5 : otD t L m R D (5 + otP t L m R D) = 1 := by unfold otD; rw [up_ne (by omega), up_at]
             refine ⟨by rw [gj 0 (by decide) (by decide) (by decide), uE 0 (by decide) (by omega)]; exact r0, by rw [gj 1 (by decide) (by decide) (by decide), uE 1 (by decide) (by omega)]; exact r1, by rw [gj 2 (by decide) (by decide) (by decide), uE 2 (by decide) (by omega)]; exact r2, by rw [g3, f3]; unfold otD; rw [up_at], ?_, fun p p0 p1 => ?_, fun b b0 b1 => ?_⟩
             · show τ7 43 0 = _
               rw [gc 43 (by decide), uE 4 (by decide) (by omega)]
               exact r4
             · have e : outB τ7 41 p ↔ outB τ5 41 p ∨ p = otP t L m R D := by
                 unfold outB
                 rw [g41, hp6]
                 exact outB_take pB (by omega)
               rw [e, r5 p p0 p1]
               by_cases hp : p = otP t L m R D
               · rw [hp, u5]
                 exact ⟨fun _ => by decide, fun _ => Or.inr rfl⟩
               · rw [uE (5 + p) (by omega) (by omega)]
                 exact ⟨fun z => z.elim id (fun z => absurd z hp), Or.inl⟩
             · rw [uE 4 (by decide) (by omega)] at b1
               show τ7 45 b = _ ∧ ∀ i, 0 ≤ i → i < _ → τ7 46 (b * 8 + i) = _
               rw [gc 45 (by decide), gc 46 (by decide), uE (105 + 17 * b) (by omega) (by omega)]
               refine ⟨(r6 b b0 b1).1, fun i i0 i1 => ?_⟩
               rw [uE _ (by omega) (by omega), uE _ (by omega) (by omega)]
               exact (r6 b b0 b1).2 i i0 i1
           · have hN := hB5.2.2
             unfold nmD at hN ⊢
             have u4 : otD t L m R D 4 = D 4 := by unfold otD; rw [up_ne (by decide), up_ne (by omega)]
             show τ7 41 6 = _ ∧ ∀ b, 0 ≤ b → b < _ → τ7 44 b = b ∧ τ7 42 b = N b
             rw [u4, gj 6 (by decide) (by decide) (by decide), gc 44 (by decide), gc 42 (by decide)]
             exact hN))
  refine r_aload_n (dc dkX1_readOut 0 rfl) rfl (np 1 rfl ?_)
  refine r_getR (dc dkX1_readOut 1 rfl) flX1_45 fd_41_9 (np 4 rfl ?_)
  refine r_gI 0 (dc dkX1_readOut 2 rfl) flX1_91 fd_43_0 rfl (np 7 rfl ?_)
  refine r_if_le (tgt := 18) (dc dkX1_readOut 3 rfl) rfl (by first | assumption | decide | omega) (fun h7 => ?_) (fun h7 => (np 10 rfl ?_))
  · skip
    refine r_aload_n (dc dkX1_readOut 8 rfl) rfl (np 19 rfl ?_)
    refine r_gI 3 (dc dkX1_readOut 9 rfl) flX1_22 fd_41_3 rfl (np 22 rfl ?_)
    refine r_bipush (dc dkX1_readOut 10 rfl) bp_12 (np 24 rfl ?_)
    refine r_icmp_lt (tgt := 32) (dc dkX1_readOut 11 rfl) rfl (by first | assumption | decide | omega) (by first | assumption | decide | omega) (fun h24 => ?_) (fun h24 => (np 27 rfl ?_))
    · skip
      refine r_pick [0, 1] rfl ?_
      exact jj32 _ (by first | exact ⟨hs2, by rw [gte_t (by omega)]; exact hR2⟩ | exact ⟨hs2, by rw [gte_f (by omega), gte_t (by omega)]; exact hR2⟩ | exact ⟨same.refl _ _, by rw [gte_f (by omega), gte_f (by omega)]; exact hR⟩)
    refine r_aload_n (dc dkX1_readOut 12 rfl) rfl (np 28 rfl ?_)
    refine r_iconst (dc dkX1_readOut 13 rfl) (np 29 rfl ?_)
    refine r_cV1 (y' := miX8_fail) (dc dkX1_readOut 14 rfl) mlX1_113 ceX8_fail ob_1 (Nat.le_of_ble_eq_true rfl) (Nat.le_of_ble_eq_true rfl) (c_X8_fail hR (by decide)) (fun r τ2 hp2 => (np 32 rfl ?_))
    obtain ⟨rfl, hs2, hR2⟩ := hp2
    refine r_pick [0, 1] rfl ?_
    exact jj32 _ (by first | exact ⟨hs2, by rw [gte_t (by omega)]; exact hR2⟩ | exact ⟨hs2, by rw [gte_f (by omega), gte_t (by omega)]; exact hR2⟩ | exact ⟨same.refl _ _, by rw [gte_f (by omega), gte_f (by omega)]; exact hR⟩)
  refine r_aload_n (dc dkX1_readOut 4 rfl) rfl (np 11 rfl ?_)
  refine r_iconst (dc dkX1_readOut 5 rfl) (np 12 rfl ?_)
  refine r_cV1 (y' := miX8_fail) (dc dkX1_readOut 6 rfl) mlX1_113 ceX8_fail ob_1 (Nat.le_of_ble_eq_true rfl) (Nat.le_of_ble_eq_true rfl) (c_X8_fail hR (by decide)) (fun r τ2 hp2 => (np 15 rfl ?_))
  obtain ⟨rfl, hs2, hR2⟩ := hp2
  refine r_goto (tgt := 32) (dc dkX1_readOut 7 rfl) rfl ?_
  refine r_pick [0, 1] rfl ?_
  exact jj32 _ (by first | exact ⟨hs2, by rw [gte_t (by omega)]; exact hR2⟩ | exact ⟨hs2, by rw [gte_f (by omega), gte_t (by omega)]; exact hR2⟩ | exact ⟨same.refl _ _, by rw [gte_f (by omega), gte_f (by omega)]; exact hR⟩)
theorem idOf_ex {σ : jS} {D N : Int → Int} (h : nmD σ 41 D N) (hV : okV D) {w : Int} : fi (fun i => σ 42 i = w) (σ 41 6) = -1 ↔ ¬ ∃ b, 0 ≤ b ∧ b < D 4 ∧ N b = w := by
  have v4 := hV.2.2.2.1
  rw [h.1]
  rcases fi_spec (fun i => σ 42 i = w) (n := D 4) v4.1 with g | g
  · refine ⟨fun _ ⟨b, b0, b1, e⟩ => g.2 b b0 b1 ?_, fun _ => g.1⟩
    show σ 42 b = w
    have := (h.2 b b0 b1).2
    rw [← e]; exact this
  · refine ⟨fun z => by omega, fun z => absurd ⟨_, g.1, g.2.1, ?_⟩ z⟩
    have := (h.2 _ g.1 g.2.1).2
    exact this.symm.trans g.2.2.1
set_option maxRecDepth 100000 in
set_option maxHeartbeats 4000000 in
theorem c_X1_readName {σ : jS} {t : Int → Int} {L m : Int} {R : Int × Int} (hR : rd t L m R σ) {D N : Int → Int} (hB : dB σ D N) (hV : okV D) (hw : okT2 D) (h8 : R.1 = 0 → D 4 < 8) : Jm 10 miX1_readName [.ref 41, .ref 1] σ (fun r τ => r = none ∧ same [1, 41, 42] σ τ ∧ (∀ j, ¬ j = 6 → τ 41 j = σ 41 j) ∧ okA τ 41 ∧ rd t L m (nm1 t L m R (D 4) N) τ ∧ ((nm1 t L m R (D 4) N).1 = 0 → snR t L m 3 R ∧ τ 41 6 = D 4 + 1 ∧ τ 42 (D 4) = wQ t L m R.2 ∧ ∀ j, ¬ j = D 4 → τ 42 j = σ 42 j)) := by
  have v4 := hV.2.2.2.1
  have c6 := hB.2.2.1
  have oA := hB.1
  refine jm_ofF (Po := (fun r τ => r = none ∧ same [1, 41, 42] σ τ ∧ (∀ j, ¬ j = 6 → τ 41 j = σ 41 j) ∧ okA τ 41 ∧ rd t L m (nm1 t L m R (D 4) N) τ ∧ ((nm1 t L m R (D 4) N).1 = 0 → snR t L m 3 R ∧ τ 41 6 = D 4 + 1 ∧ τ 42 (D 4) = wQ t L m R.2 ∧ ∀ j, ¬ j = D 4 → τ 42 j = σ 42 j))) (plainFor_of_name (by decide)) (Nat.le_of_ble_eq_true rfl) (lv := [(0, _), (1, _)]) rfl ?_
  refine r_aload_n (dc dkX1_readName 0 rfl) rfl (np 1 rfl ?_)
  refine r_iconst (dc dkX1_readName 1 rfl) (np 2 rfl ?_)
  refine r_pV1 (y' := miX8_sees) (dc dkX1_readName 2 rfl) mlX1_152 ceX8_sees ob_1 (Nat.le_of_ble_eq_true rfl) (Nat.le_of_ble_eq_true rfl) (c_X8_sees hR (by decide)) (np 5 rfl ?_)
  refine r_bn (tgt := 16) (dc dkX1_readName 3 rfl) rfl (fun h5 => ?_) (fun h5 => (np 8 rfl ?_))
  · skip
    have w1 := rd_w hR h5
    have hE := idOf_ex hB.2.2 hV (w := σ 1 6)
    have h88 := h8 h5.1
    have hfb : iR (fi (fun i => σ (41 + 1) i = σ 1 6) (σ 41 6)) := by have := fi_spec (fun i => σ (41 + 1) i = σ 1 6) (n := σ 41 6) (by omega); omega
    refine r_aload_n (dc dkX1_readName 8 rfl) rfl (np 17 rfl ?_)
    refine r_aload_n (dc dkX1_readName 9 rfl) rfl (np 18 rfl ?_)
    refine r_gL 6 (dc dkX1_readName 10 rfl) flX1_163 fd_1_6 rfl (np 21 rfl ?_)
    refine r_pV1 (y' := miX1_idOf) (dc dkX1_readName 11 rfl) mlX1_166 ceX1_idOf ob_41 (Nat.le_of_ble_eq_true rfl) (Nat.le_of_ble_eq_true rfl) (c_X1_idOf isBoard_at41 (dB_D hB hV) (by rw [w1.1]; omega)) (np 24 rfl ?_)
    refine r_iconst (dc dkX1_readName 12 rfl) (np 25 rfl ?_)
    refine r_icmp_eq (tgt := 36) (dc dkX1_readName 13 rfl) rfl (by first | assumption | decide | omega) (by first | assumption | decide | omega) (fun h25 => ?_) (fun h25 => (np 28 rfl ?_))
    · skip
      refine r_aload_n (dc dkX1_readName 18 rfl) rfl (np 37 rfl ?_)
      refine r_gI 6 (dc dkX1_readName 19 rfl) flX1_32 fd_41_6 rfl (np 40 rfl ?_)
      refine r_bipush (dc dkX1_readName 20 rfl) bp_8 (np 42 rfl ?_)
      refine r_icmp_ge (tgt := 68) (dc dkX1_readName 21 rfl) rfl (by first | assumption | decide | omega) (by first | assumption | decide | omega) (fun h42 => ?_) (fun h42 => (np 45 rfl ?_))
      · skip
        exact absurd h88 (by omega)
      refine r_aload_n (dc dkX1_readName 22 rfl) rfl (np 46 rfl ?_)
      refine r_getR (dc dkX1_readName 23 rfl) flX1_38 fd_41_8 (np 49 rfl ?_)
      refine r_aload_n (dc dkX1_readName 24 rfl) rfl (np 50 rfl ?_)
      refine r_gI 6 (dc dkX1_readName 25 rfl) flX1_32 fd_41_6 rfl (np 53 rfl ?_)
      refine r_aload_n (dc dkX1_readName 26 rfl) rfl (np 54 rfl ?_)
      refine r_gL 6 (dc dkX1_readName 27 rfl) flX1_163 fd_1_6 rfl (np 57 rfl ?_)
      refine r_last (dc dkX1_readName 28 rfl) ar_42 (by omega) (np 58 rfl ?_)
      refine r_aload_n (dc dkX1_readName 29 rfl) rfl (np 59 rfl ?_)
      refine r_dup (dc dkX1_readName 30 rfl) rfl (np 60 rfl ?_)
      refine r_gI 6 (dc dkX1_readName 31 rfl) flX1_32 fd_41_6 rfl (np 63 rfl ?_)
      refine r_iconst (dc dkX1_readName 32 rfl) (np 64 rfl ?_)
      refine r_iadd (dc dkX1_readName 33 rfl) (np 65 rfl ?_)
      refine r_pI 6 (dc dkX1_readName 34 rfl) fpX1_32 fd_41_6 rfl (np 68 rfl ?_)
      refine r_aload_n (dc dkX1_readName 35 rfl) rfl (np 69 rfl ?_)
      refine r_cV0 (y' := miX8_step) (dc dkX1_readName 36 rfl) mlX1_116 ceX8_step ob_1 (Nat.le_of_ble_eq_true rfl) (Nat.le_of_ble_eq_true rfl) (c_X8_step (by first | exact hR2 | exact rd_ju (rd_ju hR (by decide)) (by decide))) (fun r τ7 hp7 => (np 72 rfl ?_))
      obtain ⟨rfl, hs7, hR7⟩ := hp7
      exact r_vret (dc dkX1_readName 37 rfl) rfl (by
          first
          | exact ⟨rfl, (hs2.tr hs7).wide (by decide), fun j _ => by rw [hs7 41 (by decide), hs2 41 (by decide)], (dB_1 (dB_1 hB hs2) hs7).1, by rw [nm1, gte_f h5]; exact hR7, fun z => by exfalso; rw [nm1, gte_f h5, stR_f] at z; exact flR_f (by decide) z⟩
          | (have hX : ∃ b, 0 ≤ b ∧ b < D 4 ∧ N b = wQ t L m R.2 := by rw [← w1.1]; exact Classical.byContradiction (fun z => h25 (hE.mpr z))
             exact ⟨rfl, (hs2.tr hs7).wide (by decide), fun j _ => by rw [hs7 41 (by decide), hs2 41 (by decide)], (dB_1 (dB_1 hB hs2) hs7).1, by rw [nm1, gte_t h5, gte_t hX]; exact hR7, fun z => by exfalso; rw [nm1, gte_t h5, gte_t hX, stR_f] at z; exact flR_f (by decide) z⟩)
          | (have hX : ¬ ∃ b, 0 ≤ b ∧ b < D 4 ∧ N b = wQ t L m R.2 := by rw [← w1.1]; exact hE.mp h25
             have g41 : ∀ j, ¬ j = 6 → τ7 41 j = σ 41 j := fun j hj => by rw [hs7 41 (by decide), ju_ne (by omega), ju_ne (by omega)]
             have g6 : τ7 41 6 = D 4 + 1 := by rw [hs7 41 (by decide), ju_at, ju_ne (by omega), c6]
             have g42 : τ7 42 (D 4) = wQ t L m R.2 := by rw [hs7 42 (by decide), ju_ne (by omega), c6, ju_at, w1.1]
             have g42n : ∀ j, ¬ j = D 4 → τ7 42 j = σ 42 j := fun j hj => by rw [hs7 42 (by decide), ju_ne (by omega), ju_ne (by omega)]
             have gc : ∀ c, c ∉ [1, 41, 42] → τ7 c = σ c := fun c hc => by
               have hc1 : ¬ c = 1 ∧ ¬ c = 41 ∧ ¬ c = 42 := by simpa using hc
               rw [hs7 c (by simpa using hc1.1), ju_off _ _ _ _ _ hc1.2.1, ju_off _ _ _ _ _ hc1.2.2]
             refine ⟨rfl, gc, g41, okA_x oA (fun j j0 j1 => ?_) (gc 44 (by decide)) (gc 45 (by decide)) (gc 46 (by decide)) (by rw [gc 43 (by decide)]; exact oA.1.1) (by rw [g6]; omega) (by rw [g41 7 (by decide)]; exact oA.2.2.2), by rw [nm1, gte_t h5, gte_f hX]; exact hR7, fun _ => ⟨h5, g6, g42, g42n⟩⟩
             by_cases hj : j = D 4
             · rw [hj, g42]; omega
             · rw [g42n j hj]; exact oA.2.1 j j0 j1))
    refine r_aload_n (dc dkX1_readName 14 rfl) rfl (np 29 rfl ?_)
    refine r_iconst (dc dkX1_readName 15 rfl) (np 30 rfl ?_)
    refine r_cV1 (y' := miX8_fail) (dc dkX1_readName 16 rfl) mlX1_113 ceX8_fail ob_1 (Nat.le_of_ble_eq_true rfl) (Nat.le_of_ble_eq_true rfl) (c_X8_fail hR (by decide)) (fun r τ2 hp2 => (np 33 rfl ?_))
    obtain ⟨rfl, hs2, hR2⟩ := hp2
    refine r_goto (tgt := 68) (dc dkX1_readName 17 rfl) rfl ?_
    refine r_aload_n (dc dkX1_readName 35 rfl) rfl (np 69 rfl ?_)
    refine r_cV0 (y' := miX8_step) (dc dkX1_readName 36 rfl) mlX1_116 ceX8_step ob_1 (Nat.le_of_ble_eq_true rfl) (Nat.le_of_ble_eq_true rfl) (c_X8_step (by first | exact hR2 | exact rd_ju (rd_ju hR (by decide)) (by decide))) (fun r τ7 hp7 => (np 72 rfl ?_))
    obtain ⟨rfl, hs7, hR7⟩ := hp7
    exact r_vret (dc dkX1_readName 37 rfl) rfl (by
        first
        | exact ⟨rfl, (hs2.tr hs7).wide (by decide), fun j _ => by rw [hs7 41 (by decide), hs2 41 (by decide)], (dB_1 (dB_1 hB hs2) hs7).1, by rw [nm1, gte_f h5]; exact hR7, fun z => by exfalso; rw [nm1, gte_f h5, stR_f] at z; exact flR_f (by decide) z⟩
        | (have hX : ∃ b, 0 ≤ b ∧ b < D 4 ∧ N b = wQ t L m R.2 := by rw [← w1.1]; exact Classical.byContradiction (fun z => h25 (hE.mpr z))
           exact ⟨rfl, (hs2.tr hs7).wide (by decide), fun j _ => by rw [hs7 41 (by decide), hs2 41 (by decide)], (dB_1 (dB_1 hB hs2) hs7).1, by rw [nm1, gte_t h5, gte_t hX]; exact hR7, fun z => by exfalso; rw [nm1, gte_t h5, gte_t hX, stR_f] at z; exact flR_f (by decide) z⟩)
        | (have hX : ¬ ∃ b, 0 ≤ b ∧ b < D 4 ∧ N b = wQ t L m R.2 := by rw [← w1.1]; exact hE.mp h25
           have g41 : ∀ j, ¬ j = 6 → τ7 41 j = σ 41 j := fun j hj => by rw [hs7 41 (by decide), ju_ne (by omega), ju_ne (by omega)]
           have g6 : τ7 41 6 = D 4 + 1 := by rw [hs7 41 (by decide), ju_at, ju_ne (by omega), c6]
           have g42 : τ7 42 (D 4) = wQ t L m R.2 := by rw [hs7 42 (by decide), ju_ne (by omega), c6, ju_at, w1.1]
           have g42n : ∀ j, ¬ j = D 4 → τ7 42 j = σ 42 j := fun j hj => by rw [hs7 42 (by decide), ju_ne (by omega), ju_ne (by omega)]
           have gc : ∀ c, c ∉ [1, 41, 42] → τ7 c = σ c := fun c hc => by
             have hc1 : ¬ c = 1 ∧ ¬ c = 41 ∧ ¬ c = 42 := by simpa using hc
             rw [hs7 c (by simpa using hc1.1), ju_off _ _ _ _ _ hc1.2.1, ju_off _ _ _ _ _ hc1.2.2]
           refine ⟨rfl, gc, g41, okA_x oA (fun j j0 j1 => ?_) (gc 44 (by decide)) (gc 45 (by decide)) (gc 46 (by decide)) (by rw [gc 43 (by decide)]; exact oA.1.1) (by rw [g6]; omega) (by rw [g41 7 (by decide)]; exact oA.2.2.2), by rw [nm1, gte_t h5, gte_f hX]; exact hR7, fun _ => ⟨h5, g6, g42, g42n⟩⟩
           by_cases hj : j = D 4
           · rw [hj, g42]; omega
           · rw [g42n j hj]; exact oA.2.1 j j0 j1))
  refine r_aload_n (dc dkX1_readName 4 rfl) rfl (np 9 rfl ?_)
  refine r_iconst (dc dkX1_readName 5 rfl) (np 10 rfl ?_)
  refine r_cV1 (y' := miX8_fail) (dc dkX1_readName 6 rfl) mlX1_113 ceX8_fail ob_1 (Nat.le_of_ble_eq_true rfl) (Nat.le_of_ble_eq_true rfl) (c_X8_fail hR (by decide)) (fun r τ2 hp2 => (np 13 rfl ?_))
  obtain ⟨rfl, hs2, hR2⟩ := hp2
  refine r_goto (tgt := 68) (dc dkX1_readName 7 rfl) rfl ?_
  refine r_aload_n (dc dkX1_readName 35 rfl) rfl (np 69 rfl ?_)
  refine r_cV0 (y' := miX8_step) (dc dkX1_readName 36 rfl) mlX1_116 ceX8_step ob_1 (Nat.le_of_ble_eq_true rfl) (Nat.le_of_ble_eq_true rfl) (c_X8_step (by first | exact hR2 | exact rd_ju (rd_ju hR (by decide)) (by decide))) (fun r τ7 hp7 => (np 72 rfl ?_))
  obtain ⟨rfl, hs7, hR7⟩ := hp7
  exact r_vret (dc dkX1_readName 37 rfl) rfl (by
      first
      | exact ⟨rfl, (hs2.tr hs7).wide (by decide), fun j _ => by rw [hs7 41 (by decide), hs2 41 (by decide)], (dB_1 (dB_1 hB hs2) hs7).1, by rw [nm1, gte_f h5]; exact hR7, fun z => by exfalso; rw [nm1, gte_f h5, stR_f] at z; exact flR_f (by decide) z⟩
      | (have hX : ∃ b, 0 ≤ b ∧ b < D 4 ∧ N b = wQ t L m R.2 := by rw [← w1.1]; exact Classical.byContradiction (fun z => h25 (hE.mpr z))
         exact ⟨rfl, (hs2.tr hs7).wide (by decide), fun j _ => by rw [hs7 41 (by decide), hs2 41 (by decide)], (dB_1 (dB_1 hB hs2) hs7).1, by rw [nm1, gte_t h5, gte_t hX]; exact hR7, fun z => by exfalso; rw [nm1, gte_t h5, gte_t hX, stR_f] at z; exact flR_f (by decide) z⟩)
      | (have hX : ¬ ∃ b, 0 ≤ b ∧ b < D 4 ∧ N b = wQ t L m R.2 := by rw [← w1.1]; exact hE.mp h25
         have g41 : ∀ j, ¬ j = 6 → τ7 41 j = σ 41 j := fun j hj => by rw [hs7 41 (by decide), ju_ne (by omega), ju_ne (by omega)]
         have g6 : τ7 41 6 = D 4 + 1 := by rw [hs7 41 (by decide), ju_at, ju_ne (by omega), c6]
         have g42 : τ7 42 (D 4) = wQ t L m R.2 := by rw [hs7 42 (by decide), ju_ne (by omega), c6, ju_at, w1.1]
         have g42n : ∀ j, ¬ j = D 4 → τ7 42 j = σ 42 j := fun j hj => by rw [hs7 42 (by decide), ju_ne (by omega), ju_ne (by omega)]
         have gc : ∀ c, c ∉ [1, 41, 42] → τ7 c = σ c := fun c hc => by
           have hc1 : ¬ c = 1 ∧ ¬ c = 41 ∧ ¬ c = 42 := by simpa using hc
           rw [hs7 c (by simpa using hc1.1), ju_off _ _ _ _ _ hc1.2.1, ju_off _ _ _ _ _ hc1.2.2]
         refine ⟨rfl, gc, g41, okA_x oA (fun j j0 j1 => ?_) (gc 44 (by decide)) (gc 45 (by decide)) (gc 46 (by decide)) (by rw [gc 43 (by decide)]; exact oA.1.1) (by rw [g6]; omega) (by rw [g41 7 (by decide)]; exact oA.2.2.2), by rw [nm1, gte_t h5, gte_f hX]; exact hR7, fun _ => ⟨h5, g6, g42, g42n⟩⟩
         by_cases hj : j = D 4
         · rw [hj, g42]; omega
         · rw [g42n j hj]; exact oA.2.1 j j0 j1))
