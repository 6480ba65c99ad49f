/-! ===== the reader goes on ===== -/
section
variable {t : Int → Int} {L m : Int}
def be (L : Int) (R S : Int × Int) : Prop := S.1 = 0 → R.1 = 0 ∧ (R.2 ≤ L → R.2 ≤ S.2 ∧ S.2 ≤ L)
theorem be_r (R : Int × Int) : be L R R := fun h => ⟨h, fun g => ⟨Int.le_refl _, g⟩⟩
theorem be.tr {R S T : Int × Int} (h : be L R S) (g : be L S T) : be L R T := fun z => by
  obtain ⟨a, b⟩ := g z
  obtain ⟨c, d⟩ := h a
  exact ⟨c, fun e => by have := d e; have := b this.2; omega⟩
theorem be_st (R : Int × Int) : be L R (stR t L m R) := fun h => by
  rw [stR_f] at h
  refine ⟨h, fun g => ?_⟩
  rw [stR_y h]
  exact tN_b g
theorem be_fl {f : Int} (hf : ¬ f = 0) (R : Int × Int) : be L R (flR t L m f R) := fun h => absurd h (flR_f hf)
theorem be_gt {P : Prop} {R S T : Int × Int} (h : be L R S) (g : be L R T) : be L R (gte P S T) := by
  by_cases p : P
  · rw [gte_t p]; exact h
  · rw [gte_f p]; exact g
theorem be_ck {a b : Int} (R : Int × Int) : be L R (ckR t L m a b R) := fun h => by
  have := (ckR_f h).2.2.2
  rw [this] at h ⊢
  exact be_r R h
theorem be_nm {a b : Int} (R : Int × Int) : be L R (nmR t L m a b R) := (be_ck R).tr (be_st _)
theorem be_xp {k : Int} (R : Int × Int) : be L R (xpR t L m k R) := by
  by_cases g : snR t L m k R
  · rw [xpR_y g]; exact be_st R
  · rw [xpR_n g]; exact be_fl (by decide) R
theorem be_co2 {n : Int} {D : Int → Int} (R : Int × Int) : be L R (co2 t L m n R D) := ((be_gt ((be_ck R).tr (be_fl (by decide) _)) (be_ck R)).tr (be_st _)).tr (be_nm _)
theorem be_coF {a : Int} : ∀ (k : Nat) (n : Int) (R : Int × Int) (D : Int → Int), be L R (coF t L m a k n R D).1
  | 0, _, R, _ => be_r R
  | k + 1, n, R, D => by
    rw [coF]
    by_cases h1 : ¬ R.1 = 0 ∨ (3 ≤ n ∧ ¬ tK t L m R.2 = 2)
    · rw [gte_t h1]; exact be_r R
    · rw [gte_f h1]
      by_cases h2 : (co2 t L m n R D).1 = 0
      · rw [gte_t h2]; exact (be_co2 R).tr (be_coF k _ _ _)
      · rw [gte_f h2]; exact be_co2 R
theorem be_nm1 {M : Int} {N : Int → Int} (R : Int × Int) : be L R (nm1 t L m R M N) := (be_gt (be_gt (be_fl (by decide) R) (be_r R)) (be_fl (by decide) R)).tr (be_st _)
theorem be_s1 {R : Int × Int} (hk : ¬ tK t L m R.2 = 0) (hk1 : ¬ tK t L m R.2 = 1) (h : R.2 ≤ L) (h0 : R.1 = 0) : R.2 < (stR t L m R).2 := by
  rw [stR_y h0]
  exact tN_s h hk hk1
/-- a word is behind us -/
def bf (L : Int) (R S : Int × Int) : Prop := S.1 = 0 → R.1 = 0 ∧ (R.2 ≤ L → R.2 < S.2 ∧ S.2 ≤ L)
theorem bf.tr {R S T : Int × Int} (h : bf L R S) (g : be L S T) : bf L R T := fun z => by
  obtain ⟨a, b⟩ := g z
  obtain ⟨c, d⟩ := h a
  exact ⟨c, fun e => by have := d e; have := b this.2; omega⟩
theorem bf_st {R : Int × Int} (hk : ¬ tK t L m R.2 = 0) (hk1 : ¬ tK t L m R.2 = 1) : bf L R (stR t L m R) := fun h => by
  have := be_st (t := t) (m := m) (L := L) R h
  exact ⟨this.1, fun g => ⟨be_s1 hk hk1 g this.1, (this.2 g).2⟩⟩
theorem bf_g {P : Prop} {f : Int} {R : Int × Int} (hf : ¬ f = 0) (hk : ¬ tK t L m R.2 = 0) (hk1 : ¬ tK t L m R.2 = 1) : bf L R (stR t L m (gte P R (flR t L m f R))) := by
  by_cases p : P
  · rw [gte_t p]; exact bf_st hk hk1
  · rw [gte_f p]
    intro h
    rw [stR_f] at h
    exact absurd h (flR_f hf)
theorem bf_g2 {P : Prop} {f : Int} {R : Int × Int} (hf : ¬ f = 0) (hk : ¬ tK t L m R.2 = 0) (hk1 : ¬ tK t L m R.2 = 1) : bf L R (stR t L m (gte P (flR t L m f R) R)) := by
  by_cases p : P
  · rw [gte_t p]
    intro h
    rw [stR_f] at h
    exact absurd h (flR_f hf)
  · rw [gte_f p]; exact bf_st hk hk1
theorem bf_ln0 {R : Int × Int} {D N : Int → Int} : bf L R (ln0 t L m R D N) := by
  unfold ln0
  by_cases k1 : tK t L m R.2 = 101
  · rw [gte_t k1]; exact bf_g (by decide) (by omega) (by omega)
  · rw [gte_f k1]
    by_cases k2 : tK t L m R.2 = 102
    · rw [gte_t k2]
      have h0 : bf L R (ot0 t L m R D) := by
        unfold ot0
        by_cases g1 : 0 < D 4
        · rw [gte_t g1]
          intro h
          rw [stR_f] at h
          exact absurd h (flR_f (by decide))
        · rw [gte_f g1]; exact bf_g2 (by decide) (by omega) (by omega)
      have h2 : bf L R (ot2 t L m R D) := (h0.tr (be_nm _)).tr (be_ck _)
      unfold otR
      exact (h2.tr (be_gt (be_r _) (be_fl (by decide) _))).tr (be_st _)
    · rw [gte_f k2]
      by_cases k3 : tK t L m R.2 = 103
      · rw [gte_t k3]
        have h0 : bf L R (bn0 t L m R D) := bf_g2 (by decide) (by omega) (by omega)
        have h1 : bf L R (bnC t L m R D N).1 := (h0.tr (be_nm1 _)).tr (be_coF _ _ _ _)
        have h2 : bf L R (bn1 t L m R D N) := h1.tr (be_gt (be_r _) (be_fl (by decide) _))
        exact h2.tr (be_gt (be_r _) (be_fl (by decide) _))
      · rw [gte_f k3]
        intro h
        exact absurd h (flR_f (by decide))
/-- a line takes two bytes at least -/
theorem ln_2 {R : Int × Int} {D N : Int → Int} (hq : R.2 ≤ L) (h : (lnR t L m R D N).1 = 0) : R.2 + 2 ≤ (lnR t L m R D N).2 ∧ (lnR t L m R D N).2 ≤ L := by
  unfold lnR at h ⊢
  obtain ⟨h1, h2⟩ := xpR_f h
  have a := bf_ln0 (t := t) (m := m) (L := L) (R := R) (D := D) (N := N) h1.1
  have b := a.2 hq
  have k := h1.2
  have c := be_s1 (t := t) (m := m) (L := L) (R := ln0 t L m R D N) (by omega) (by omega) b.2 h1.1
  have d := be_st (t := t) (m := m) (L := L) (ln0 t L m R D N) (by rw [stR_f]; exact h1.1)
  have e := d.2 b.2
  rw [h2]
  omega
theorem xp_5 {k : Int} {R : Int × Int} (h : (xpR t L m k R).1 = 5) : R.1 = 5 := by
  by_cases g : snR t L m k R
  · rw [xpR_y g, stR_f] at h; exact h
  · rw [xpR_n g] at h
    by_cases z : R.1 = 0
    · rw [flR_y z] at h; exact absurd (show (1 : Int) = 5 from h) (by decide)
    · rw [flR_n z] at h; exact h
theorem hd_5 {R : Int × Int} (h : R.1 = 0) : ¬ (hdR t L m R).1 = 5 := n5_xp (n5_nm (n5_nm (n5_xp (show ¬ R.1 = 5 by omega))))
theorem hd_q {R : Int × Int} (h : (hdR t L m R).1 = 0) (hq : R.2 ≤ L) : (hdR t L m R).2 ≤ L := ((((be_xp R).tr (be_nm _)).tr (be_nm _)).tr (be_xp _) h).2 hq |>.2
end
set_option maxRecDepth 100000 in
set_option maxHeartbeats 4000000 in
theorem c_X1_readLine {σ : jS} {t : Int → Int} {L m : Int} {R : Int × Int} (hR : rd t L m R σ) {D N : Int → Int} (hB : dB σ D N) (hV : okV D) (hw : okT2 D) (h0 : R.1 = 0) : Jm 12 miX1_readLine [.ref 41, .ref 1, .ref 6] σ (fun r τ => r = none ∧ same [1, 6, 41, 42, 43, 44, 45, 46] σ τ ∧ okA τ 41 ∧ rd t L m (lnR t L m R D N) τ ∧ ((lnR t L m R D N).1 = 0 → RC τ 41 (lnD t L m R D N) ∧ nmD τ 41 (lnD t L m R D N) (lnN t L m R D N)) ∧ ((lnR t L m R D N).1 = 5 → τ 41 7 = bnW t L m R D N)) := by
  have hk := rd_k hR h0
  have kb := tK_b (t := t) (L := L) (m := m) (p := R.2)
  have c2 : σ 41 2 = D 2 := hB.2.1.2.2.1
  have v2 := hV.2.1
  refine jm_ofF (Po := (fun r τ => r = none ∧ same [1, 6, 41, 42, 43, 44, 45, 46] σ τ ∧ okA τ 41 ∧ rd t L m (lnR t L m R D N) τ ∧ ((lnR t L m R D N).1 = 0 → RC τ 41 (lnD t L m R D N) ∧ nmD τ 41 (lnD t L m R D N) (lnN t L m R D N)) ∧ ((lnR t L m R D N).1 = 5 → τ 41 7 = bnW t L m R D N))) (plainFor_of_name (by decide)) (Nat.le_of_ble_eq_true rfl) (lv := [(0, _), (1, _), (2, _)]) rfl ?_
  have jj78 : ∀ τ3 : jS, same [1, 6, 41, 42, 43, 44, 45, 46] σ τ3 ∧ okA τ3 41 ∧ rd t L m (ln0 t L m R D N) τ3 ∧ ((ln0 t L m R D N).1 = 0 → RC τ3 41 (lnD t L m R D N) ∧ nmD τ3 41 (lnD t L m R D N) (lnN t L m R D N)) ∧ ((ln0 t L m R D N).1 = 5 → τ3 41 7 = bnW t L m R D N) → jR 12 miX1_readLine (fun r τ => r = none ∧ same [1, 6, 41, 42, 43, 44, 45, 46] σ τ ∧ okA τ 41 ∧ rd t L m (lnR t L m R D N) τ ∧ ((lnR t L m R D N).1 = 0 → RC τ 41 (lnD t L m R D N) ∧ nmD τ 41 (lnD t L m R D N) (lnN t L m R D N)) ∧ ((lnR t L m R D N).1 = 5 → τ 41 7 = bnW t L m R D N)) 78 [(0, .ref 41), (1, .ref 1), (2, .ref 6)] [] τ3 := by
    intro τ3 hq
    obtain ⟨hS3, oA3, hR3, hC3, hw3⟩ := hq
    refine r_aload_n (dc dkX1_readLine 27 rfl) rfl (np 79 rfl ?_)
    refine r_bipush (dc dkX1_readLine 28 rfl) bp_59 (np 81 rfl ?_)
    refine r_cV1 (y' := miX8_expect) (dc dkX1_readLine 29 rfl) mlX1_101 ceX8_expect ob_1 (Nat.le_of_ble_eq_true rfl) (Nat.le_of_ble_eq_true rfl) (c_X8_expect hR3 (by decide)) (fun r τ4 hp4 => (np 84 rfl ?_))
    obtain ⟨rfl, hs4, hR4⟩ := hp4
    exact r_vret (dc dkX1_readLine 30 rfl) rfl (by
        have g : ∀ c, ¬ c = 1 → τ4 c = τ3 c := fun c hc => hs4 c (by simpa using hc)
        refine ⟨rfl, fun c hc => ?_, okA_41 oA3 (g 42 (by decide)) (g 44 (by decide)) (g 45 (by decide)) (g 46 (by decide)) (by rw [g 43 (by decide)]; exact oA3.1.1) (by rw [g 41 (by decide)]; exact oA3.2.2.1) (by rw [g 41 (by decide)]; exact oA3.2.2.2), hR4, fun z => ?_, fun z => ?_⟩
        · rw [g c (by simp at hc; omega), hS3 c hc]
        · have q := hC3 (xpR_f z).1.1
          exact ⟨RC_t q.1 (g 41 (by decide)) (g 43 (by decide)) (g 45 (by decide)) (g 46 (by decide)), nmD_t q.2 (g 41 (by decide)) (g 42 (by decide)) (g 44 (by decide))⟩
        · rw [g 41 (by decide)]; exact hw3 (xp_5 z))
  refine r_aload_n (dc dkX1_readLine 0 rfl) rfl (np 1 rfl ?_)
  refine r_gI 4 (dc dkX1_readLine 1 rfl) flX1_110 fd_1_4 rfl (np 4 rfl ?_)
  by_cases hs101 : σ 1 4 = 101
  · skip
    refine r_tableIn (tgt := 32) (off := 28) (dc dkX1_readLine 2 rfl) (by omega) (by omega) (by omega) (by rw [show ((σ 1 4) - (101) : Int).toNat = 0 by omega]; rfl) rfl ?_
    have jj44 : ∀ τ2 : jS, same [1] σ τ2 ∧ rd t L m (gte (D 2 = 0) R (flR t L m 3 R)) τ2 → jR 12 miX1_readLine (fun r τ => r = none ∧ same [1, 6, 41, 42, 43, 44, 45, 46] σ τ ∧ okA τ 41 ∧ rd t L m (lnR t L m R D N) τ ∧ ((lnR t L m R D N).1 = 0 → RC τ 41 (lnD t L m R D N) ∧ nmD τ 41 (lnD t L m R D N) (lnN t L m R D N)) ∧ ((lnR t L m R D N).1 = 5 → τ 41 7 = bnW t L m R D N)) 44 [(0, .ref 41), (1, .ref 1), (2, .ref 6)] [] τ2 := by
      intro τ2 hq
      obtain ⟨hs2, hR2⟩ := hq
      refine r_aload_n (dc dkX1_readLine 9 rfl) rfl (np 45 rfl ?_)
      refine r_iconst (dc dkX1_readLine 10 rfl) (np 46 rfl ?_)
      refine r_pZ 2 (by first | exact Or.inl rfl | exact Or.inr rfl | omega) (dc dkX1_readLine 11 rfl) fpX1_18 fd_41_2 rfl (np 49 rfl ?_)
      refine r_aload_n (dc dkX1_readLine 12 rfl) rfl (np 50 rfl ?_)
      refine r_cV0 (y' := miX8_step) (dc dkX1_readLine 13 rfl) mlX1_116 ceX8_step ob_1 (Nat.le_of_ble_eq_true rfl) (Nat.le_of_ble_eq_true rfl) (c_X8_step (rd_ju hR2 (by decide))) (fun r τ3 hp3 => (np 53 rfl ?_))
      obtain ⟨rfl, hs3, hR3⟩ := hp3
      change rd t L m (blR t L m R D) τ3 at hR3
      refine r_goto (tgt := 78) (dc dkX1_readLine 14 rfl) rfl ?_
      refine r_pick [0, 1, 2] rfl ?_
      exact jj78 _ (by
             first
             | (have e : ln0 t L m R D N = blR t L m R D := by rw [ln0, gte_t (by omega)]
                have e2 : lnD t L m R D N = blD D := by rw [lnD, gte_t (by omega)]
                have e3 : lnN t L m R D N = N := by rw [lnN, gte_f (by omega)]
                have g : ∀ c, ¬ c = 1 → ¬ c = 41 → τ3 c = σ c := fun c h1 h2 => by rw [hs3 c (by simpa using h1), ju_off _ _ _ _ _ h2, hs2 c (by simpa using h1)]
                have gj : ∀ j, ¬ j = 2 → τ3 41 j = σ 41 j := fun j hj => by rw [hs3 41 (by decide), ju_ne (by omega), hs2 41 (by decide)]
                have g2 : τ3 41 2 = 1 := by rw [hs3 41 (by decide), ju_at]
                have oA := hB.1
                have u : ∀ j, ¬ j = 2 → blD D j = D j := fun j hj => up_ne hj
                rw [e, e2, e3]
                refine ⟨fun c hc => g c (by simp at hc; omega) (by simp at hc; omega), okA_41 oA (g 42 (by decide) (by decide)) (g 44 (by decide) (by decide)) (g 45 (by decide) (by decide)) (g 46 (by decide) (by decide)) (by rw [g 43 (by decide) (by decide)]; exact oA.1.1) (by rw [gj 6 (by decide)]; exact oA.2.2.1) (by rw [gj 7 (by decide)]; exact oA.2.2.2), hR3, fun _ => ⟨?_, ?_⟩, fun z => absurd z (n5_bl (show ¬ R.1 = 5 by omega))⟩
                · obtain ⟨r0, r1, r2, r3, r4, r5, r6⟩ := hB.2.1
                  refine ⟨by rw [gj 0 (by decide), u 0 (by decide)]; exact r0, by rw [gj 1 (by decide), u 1 (by decide)]; exact r1, by rw [g2]; exact (up_at _ _ _).symm, by rw [gj 3 (by decide), u 3 (by decide)]; exact r3, ?_, fun p p0 p1 => ?_, fun b b0 b1 => ?_⟩
                  · show τ3 43 0 = _
                    rw [g 43 (by decide) (by decide), u 4 (by decide)]; exact r4
                  · have : outB τ3 41 p = outB σ 41 p := by unfold outB; rw [gj 4 (by decide), gj 5 (by decide)]
                    rw [this, u (5 + p) (by omega)]; exact r5 p p0 p1
                  · rw [u 4 (by decide)] at b1
                    show τ3 45 b = _ ∧ ∀ i, 0 ≤ i → i < _ → τ3 46 (b * 8 + i) = _
                    rw [g 45 (by decide) (by decide), g 46 (by decide) (by decide), u (105 + 17 * b) (by omega)]
                    refine ⟨(r6 b b0 b1).1, fun i i0 i1 => ?_⟩
                    rw [u (105 + 17 * b + 2 + 2 * i) (by omega), u (105 + 17 * b + 1 + 2 * i) (by omega)]
                    exact (r6 b b0 b1).2 i i0 i1
                · have hN := hB.2.2
                  unfold nmD at hN ⊢
                  show τ3 41 6 = _ ∧ ∀ b, 0 ≤ b → b < _ → τ3 44 b = b ∧ τ3 42 b = N b
                  rw [u 4 (by decide), gj 6 (by decide), g 44 (by decide) (by decide), g 42 (by decide) (by decide)]
                  exact hN)
             | (have e : ln0 t L m R D N = otR t L m R D := by rw [ln0, gte_f (by omega), gte_t (by omega)]
                have e2 : lnD t L m R D N = otD t L m R D := by rw [lnD, gte_f (by omega), gte_t (by omega)]
                have e3 : lnN t L m R D N = N := by rw [lnN, gte_f (by omega)]
                rw [e, e2, e3]
                exact ⟨hs3, oA3, hR3, hC3, fun z => absurd z (n5_ot (show ¬ R.1 = 5 by omega))⟩)
             | (have e : ln0 t L m R D N = bnR t L m R D N := by rw [ln0, gte_f (by omega), gte_f (by omega), gte_t (by omega)]
                have e2 : lnD t L m R D N = bnD t L m R D N := by rw [lnD, gte_f (by omega), gte_f (by omega)]
                have e3 : lnN t L m R D N = bnN t L m R D N := by rw [lnN, gte_t (by omega)]
                rw [e, e2, e3]
                exact ⟨hs3, oA3, hR3, hC3, hw3⟩)
             | (have e : ln0 t L m R D N = flR t L m 1 R := by rw [ln0, gte_f (by omega), gte_f (by omega), gte_f (by omega)]
                rw [e]
                exact ⟨hs2.wide (by decide), (dB_1 hB hs2).1, hR2, fun z => absurd z (flR_f (by decide)), fun z => absurd z (n5_fl (by decide) (show ¬ R.1 = 5 by omega))⟩))
    refine r_aload_n (dc dkX1_readLine 3 rfl) rfl (np 33 rfl ?_)
    refine r_gI 2 (dc dkX1_readLine 4 rfl) flX1_18 fd_41_2 rfl (np 36 rfl ?_)
    refine r_if_eq (tgt := 44) (dc dkX1_readLine 5 rfl) rfl (by first | assumption | decide | omega) (fun h36 => ?_) (fun h36 => (np 39 rfl ?_))
    · skip
      refine r_pick [0, 1, 2] rfl ?_
      exact jj44 _ (by first | exact ⟨hs2, by rw [gte_f (by omega)]; exact hR2⟩ | exact ⟨same.refl _ _, by rw [gte_t (by omega)]; exact hR⟩)
    refine r_aload_n (dc dkX1_readLine 6 rfl) rfl (np 40 rfl ?_)
    refine r_iconst (dc dkX1_readLine 7 rfl) (np 41 rfl ?_)
    refine r_cV1 (y' := miX8_fail) (dc dkX1_readLine 8 rfl) mlX1_113 ceX8_fail ob_1 (Nat.le_of_ble_eq_true rfl) (Nat.le_of_ble_eq_true rfl) (c_X8_fail hR (by decide)) (fun r τ2 hp2 => (np 44 rfl ?_))
    obtain ⟨rfl, hs2, hR2⟩ := hp2
    refine r_pick [0, 1, 2] rfl ?_
    exact jj44 _ (by first | exact ⟨hs2, by rw [gte_f (by omega)]; exact hR2⟩ | exact ⟨same.refl _ _, by rw [gte_t (by omega)]; exact hR⟩)
  by_cases hs102 : σ 1 4 = 102
  · skip
    refine r_tableIn (tgt := 56) (off := 52) (dc dkX1_readLine 2 rfl) (by omega) (by omega) (by omega) (by rw [show ((σ 1 4) - (101) : Int).toNat = 1 by omega]; rfl) rfl ?_
    refine r_aload_n (dc dkX1_readLine 15 rfl) rfl (np 57 rfl ?_)
    refine r_aload_n (dc dkX1_readLine 16 rfl) rfl (np 58 rfl ?_)
    refine r_cV1 (y' := miX1_readOut) (dc dkX1_readLine 17 rfl) mlX1_119 ceX1_readOut ob_41 (Nat.le_of_ble_eq_true rfl) (Nat.le_of_ble_eq_true rfl) (c_X1_readOut hR hB hV hw h0) (fun r τ3 hp3 => (np 61 rfl ?_))
    obtain ⟨rfl, hs3, oA3, hR3, hC3⟩ := hp3
    refine r_goto (tgt := 78) (dc dkX1_readLine 18 rfl) rfl ?_
    refine r_pick [0, 1, 2] rfl ?_
    exact jj78 _ (by
           first
           | (have e : ln0 t L m R D N = blR t L m R D := by rw [ln0, gte_t (by omega)]
              have e2 : lnD t L m R D N = blD D := by rw [lnD, gte_t (by omega)]
              have e3 : lnN t L m R D N = N := by rw [lnN, gte_f (by omega)]
              have g : ∀ c, ¬ c = 1 → ¬ c = 41 → τ3 c = σ c := fun c h1 h2 => by rw [hs3 c (by simpa using h1), ju_off _ _ _ _ _ h2, hs2 c (by simpa using h1)]
              have gj : ∀ j, ¬ j = 2 → τ3 41 j = σ 41 j := fun j hj => by rw [hs3 41 (by decide), ju_ne (by omega), hs2 41 (by decide)]
              have g2 : τ3 41 2 = 1 := by rw [hs3 41 (by decide), ju_at]
              have oA := hB.1
              have u : ∀ j, ¬ j = 2 → blD D j = D j := fun j hj => up_ne hj
              rw [e, e2, e3]
              refine ⟨fun c hc => g c (by simp at hc; omega) (by simp at hc; omega), okA_41 oA (g 42 (by decide) (by decide)) (g 44 (by decide) (by decide)) (g 45 (by decide) (by decide)) (g 46 (by decide) (by decide)) (by rw [g 43 (by decide) (by decide)]; exact oA.1.1) (by rw [gj 6 (by decide)]; exact oA.2.2.1) (by rw [gj 7 (by decide)]; exact oA.2.2.2), hR3, fun _ => ⟨?_, ?_⟩, fun z => absurd z (n5_bl (show ¬ R.1 = 5 by omega))⟩
              · obtain ⟨r0, r1, r2, r3, r4, r5, r6⟩ := hB.2.1
                refine ⟨by rw [gj 0 (by decide), u 0 (by decide)]; exact r0, by rw [gj 1 (by decide), u 1 (by decide)]; exact r1, by rw [g2]; exact (up_at _ _ _).symm, by rw [gj 3 (by decide), u 3 (by decide)]; exact r3, ?_, fun p p0 p1 => ?_, fun b b0 b1 => ?_⟩
                · show τ3 43 0 = _
                  rw [g 43 (by decide) (by decide), u 4 (by decide)]; exact r4
                · have : outB τ3 41 p = outB σ 41 p := by unfold outB; rw [gj 4 (by decide), gj 5 (by decide)]
                  rw [this, u (5 + p) (by omega)]; exact r5 p p0 p1
                · rw [u 4 (by decide)] at b1
                  show τ3 45 b = _ ∧ ∀ i, 0 ≤ i → i < _ → τ3 46 (b * 8 + i) = _
                  rw [g 45 (by decide) (by decide), g 46 (by decide) (by decide), u (105 + 17 * b) (by omega)]
                  refine ⟨(r6 b b0 b1).1, fun i i0 i1 => ?_⟩
                  rw [u (105 + 17 * b + 2 + 2 * i) (by omega), u (105 + 17 * b + 1 + 2 * i) (by omega)]
                  exact (r6 b b0 b1).2 i i0 i1
              · have hN := hB.2.2
                unfold nmD at hN ⊢
                show τ3 41 6 = _ ∧ ∀ b, 0 ≤ b → b < _ → τ3 44 b = b ∧ τ3 42 b = N b
                rw [u 4 (by decide), gj 6 (by decide), g 44 (by decide) (by decide), g 42 (by decide) (by decide)]
                exact hN)
           | (have e : ln0 t L m R D N = otR t L m R D := by rw [ln0, gte_f (by omega), gte_t (by omega)]
              have e2 : lnD t L m R D N = otD t L m R D := by rw [lnD, gte_f (by omega), gte_t (by omega)]
              have e3 : lnN t L m R D N = N := by rw [lnN, gte_f (by omega)]
              rw [e, e2, e3]
              exact ⟨hs3, oA3, hR3, hC3, fun z => absurd z (n5_ot (show ¬ R.1 = 5 by omega))⟩)
           | (have e : ln0 t L m R D N = bnR t L m R D N := by rw [ln0, gte_f (by omega), gte_f (by omega), gte_t (by omega)]
              have e2 : lnD t L m R D N = bnD t L m R D N := by rw [lnD, gte_f (by omega), gte_f (by omega)]
              have e3 : lnN t L m R D N = bnN t L m R D N := by rw [lnN, gte_t (by omega)]
              rw [e, e2, e3]
              exact ⟨hs3, oA3, hR3, hC3, hw3⟩)
           | (have e : ln0 t L m R D N = flR t L m 1 R := by rw [ln0, gte_f (by omega), gte_f (by omega), gte_f (by omega)]
              rw [e]
              exact ⟨hs2.wide (by decide), (dB_1 hB hs2).1, hR2, fun z => absurd z (flR_f (by decide)), fun z => absurd z (n5_fl (by decide) (show ¬ R.1 = 5 by omega))⟩))
  by_cases hs103 : σ 1 4 = 103
  · skip
    refine r_tableIn (tgt := 64) (off := 60) (dc dkX1_readLine 2 rfl) (by omega) (by omega) (by omega) (by rw [show ((σ 1 4) - (101) : Int).toNat = 2 by omega]; rfl) rfl ?_
    refine r_aload_n (dc dkX1_readLine 19 rfl) rfl (np 65 rfl ?_)
    refine r_aload_n (dc dkX1_readLine 20 rfl) rfl (np 66 rfl ?_)
    refine r_aload_n (dc dkX1_readLine 21 rfl) rfl (np 67 rfl ?_)
    refine r_cV2 (y' := miX1_readBand) (dc dkX1_readLine 22 rfl) mlX1_123 ceX1_readBand ob_41 (Nat.le_of_ble_eq_true rfl) (Nat.le_of_ble_eq_true rfl) (c_X1_readBand hR hB hV hw h0) (fun r τ3 hp3 => (np 70 rfl ?_))
    obtain ⟨rfl, hs3, oA3, hR3, hC3, hw3⟩ := hp3
    refine r_goto (tgt := 78) (dc dkX1_readLine 23 rfl) rfl ?_
    refine r_pick [0, 1, 2] rfl ?_
    exact jj78 _ (by
           first
           | (have e : ln0 t L m R D N = blR t L m R D := by rw [ln0, gte_t (by omega)]
              have e2 : lnD t L m R D N = blD D := by rw [lnD, gte_t (by omega)]
              have e3 : lnN t L m R D N = N := by rw [lnN, gte_f (by omega)]
              have g : ∀ c, ¬ c = 1 → ¬ c = 41 → τ3 c = σ c := fun c h1 h2 => by rw [hs3 c (by simpa using h1), ju_off _ _ _ _ _ h2, hs2 c (by simpa using h1)]
              have gj : ∀ j, ¬ j = 2 → τ3 41 j = σ 41 j := fun j hj => by rw [hs3 41 (by decide), ju_ne (by omega), hs2 41 (by decide)]
              have g2 : τ3 41 2 = 1 := by rw [hs3 41 (by decide), ju_at]
              have oA := hB.1
              have u : ∀ j, ¬ j = 2 → blD D j = D j := fun j hj => up_ne hj
              rw [e, e2, e3]
              refine ⟨fun c hc => g c (by simp at hc; omega) (by simp at hc; omega), okA_41 oA (g 42 (by decide) (by decide)) (g 44 (by decide) (by decide)) (g 45 (by decide) (by decide)) (g 46 (by decide) (by decide)) (by rw [g 43 (by decide) (by decide)]; exact oA.1.1) (by rw [gj 6 (by decide)]; exact oA.2.2.1) (by rw [gj 7 (by decide)]; exact oA.2.2.2), hR3, fun _ => ⟨?_, ?_⟩, fun z => absurd z (n5_bl (show ¬ R.1 = 5 by omega))⟩
              · obtain ⟨r0, r1, r2, r3, r4, r5, r6⟩ := hB.2.1
                refine ⟨by rw [gj 0 (by decide), u 0 (by decide)]; exact r0, by rw [gj 1 (by decide), u 1 (by decide)]; exact r1, by rw [g2]; exact (up_at _ _ _).symm, by rw [gj 3 (by decide), u 3 (by decide)]; exact r3, ?_, fun p p0 p1 => ?_, fun b b0 b1 => ?_⟩
                · show τ3 43 0 = _
                  rw [g 43 (by decide) (by decide), u 4 (by decide)]; exact r4
                · have : outB τ3 41 p = outB σ 41 p := by unfold outB; rw [gj 4 (by decide), gj 5 (by decide)]
                  rw [this, u (5 + p) (by omega)]; exact r5 p p0 p1
                · rw [u 4 (by decide)] at b1
                  show τ3 45 b = _ ∧ ∀ i, 0 ≤ i → i < _ → τ3 46 (b * 8 + i) = _
                  rw [g 45 (by decide) (by decide), g 46 (by decide) (by decide), u (105 + 17 * b) (by omega)]
                  refine ⟨(r6 b b0 b1).1, fun i i0 i1 => ?_⟩
                  rw [u (105 + 17 * b + 2 + 2 * i) (by omega), u (105 + 17 * b + 1 + 2 * i) (by omega)]
                  exact (r6 b b0 b1).2 i i0 i1
              · have hN := hB.2.2
                unfold nmD at hN ⊢
                show τ3 41 6 = _ ∧ ∀ b, 0 ≤ b → b < _ → τ3 44 b = b ∧ τ3 42 b = N b
                rw [u 4 (by decide), gj 6 (by decide), g 44 (by decide) (by decide), g 42 (by decide) (by decide)]
                exact hN)
           | (have e : ln0 t L m R D N = otR t L m R D := by rw [ln0, gte_f (by omega), gte_t (by omega)]
              have e2 : lnD t L m R D N = otD t L m R D := by rw [lnD, gte_f (by omega), gte_t (by omega)]
              have e3 : lnN t L m R D N = N := by rw [lnN, gte_f (by omega)]
              rw [e, e2, e3]
              exact ⟨hs3, oA3, hR3, hC3, fun z => absurd z (n5_ot (show ¬ R.1 = 5 by omega))⟩)
           | (have e : ln0 t L m R D N = bnR t L m R D N := by rw [ln0, gte_f (by omega), gte_f (by omega), gte_t (by omega)]
              have e2 : lnD t L m R D N = bnD t L m R D N := by rw [lnD, gte_f (by omega), gte_f (by omega)]
              have e3 : lnN t L m R D N = bnN t L m R D N := by rw [lnN, gte_t (by omega)]
              rw [e, e2, e3]
              exact ⟨hs3, oA3, hR3, hC3, hw3⟩)
           | (have e : ln0 t L m R D N = flR t L m 1 R := by rw [ln0, gte_f (by omega), gte_f (by omega), gte_f (by omega)]
              rw [e]
              exact ⟨hs2.wide (by decide), (dB_1 hB hs2).1, hR2, fun z => absurd z (flR_f (by decide)), fun z => absurd z (n5_fl (by decide) (show ¬ R.1 = 5 by omega))⟩))
  refine r_tableOut (tgt := 73) (dc dkX1_readLine 2 rfl) (by first | assumption | decide | omega) (by omega) rfl ?_
  refine r_aload_n (dc dkX1_readLine 24 rfl) rfl (np 74 rfl ?_)
  refine r_iconst (dc dkX1_readLine 25 rfl) (np 75 rfl ?_)
  refine r_cV1 (y' := miX8_fail) (dc dkX1_readLine 26 rfl) mlX1_113 ceX8_fail ob_1 (Nat.le_of_ble_eq_true rfl) (Nat.le_of_ble_eq_true rfl) (c_X8_fail hR (by decide)) (fun r τ2 hp2 => (np 78 rfl ?_))
  obtain ⟨rfl, hs2, hR2⟩ := hp2
  refine r_pick [0, 1, 2] rfl ?_
  exact jj78 _ (by
         first
         | (have e : ln0 t L m R D N = blR t L m R D := by rw [ln0, gte_t (by omega)]
            have e2 : lnD t L m R D N = blD D := by rw [lnD, gte_t (by omega)]
            have e3 : lnN t L m R D N = N := by rw [lnN, gte_f (by omega)]
            have g : ∀ c, ¬ c = 1 → ¬ c = 41 → τ3 c = σ c := fun c h1 h2 => by rw [hs3 c (by simpa using h1), ju_off _ _ _ _ _ h2, hs2 c (by simpa using h1)]
            have gj : ∀ j, ¬ j = 2 → τ3 41 j = σ 41 j := fun j hj => by rw [hs3 41 (by decide), ju_ne (by omega), hs2 41 (by decide)]
            have g2 : τ3 41 2 = 1 := by rw [hs3 41 (by decide), ju_at]
            have oA := hB.1
            have u : ∀ j, ¬ j = 2 → blD D j = D j := fun j hj => up_ne hj
            rw [e, e2, e3]
            refine ⟨fun c hc => g c (by simp at hc; omega) (by simp at hc; omega), okA_41 oA (g 42 (by decide) (by decide)) (g 44 (by decide) (by decide)) (g 45 (by decide) (by decide)) (g 46 (by decide) (by decide)) (by rw [g 43 (by decide) (by decide)]; exact oA.1.1) (by rw [gj 6 (by decide)]; exact oA.2.2.1) (by rw [gj 7 (by decide)]; exact oA.2.2.2), hR3, fun _ => ⟨?_, ?_⟩, fun z => absurd z (n5_bl (show ¬ R.1 = 5 by omega))⟩
            · obtain ⟨r0, r1, r2, r3, r4, r5, r6⟩ := hB.2.1
              refine ⟨by rw [gj 0 (by decide), u 0 (by decide)]; exact r0, by rw [gj 1 (by decide), u 1 (by decide)]; exact r1, by rw [g2]; exact (up_at _ _ _).symm, by rw [gj 3 (by decide), u 3 (by decide)]; exact r3, ?_, fun p p0 p1 => ?_, fun b b0 b1 => ?_⟩
              · show τ3 43 0 = _
                rw [g 43 (by decide) (by decide), u 4 (by decide)]; exact r4
              · have : outB τ3 41 p = outB σ 41 p := by unfold outB; rw [gj 4 (by decide), gj 5 (by decide)]
                rw [this, u (5 + p) (by omega)]; exact r5 p p0 p1
              · rw [u 4 (by decide)] at b1
                show τ3 45 b = _ ∧ ∀ i, 0 ≤ i → i < _ → τ3 46 (b * 8 + i) = _
                rw [g 45 (by decide) (by decide), g 46 (by decide) (by decide), u (105 + 17 * b) (by omega)]
                refine ⟨(r6 b b0 b1).1, fun i i0 i1 => ?_⟩
                rw [u (105 + 17 * b + 2 + 2 * i) (by omega), u (105 + 17 * b + 1 + 2 * i) (by omega)]
                exact (r6 b b0 b1).2 i i0 i1
            · have hN := hB.2.2
              unfold nmD at hN ⊢
              show τ3 41 6 = _ ∧ ∀ b, 0 ≤ b → b < _ → τ3 44 b = b ∧ τ3 42 b = N b
              rw [u 4 (by decide), gj 6 (by decide), g 44 (by decide) (by decide), g 42 (by decide) (by decide)]
              exact hN)
         | (have e : ln0 t L m R D N = otR t L m R D := by rw [ln0, gte_f (by omega), gte_t (by omega)]
            have e2 : lnD t L m R D N = otD t L m R D := by rw [lnD, gte_f (by omega), gte_t (by omega)]
            have e3 : lnN t L m R D N = N := by rw [lnN, gte_f (by omega)]
            rw [e, e2, e3]
            exact ⟨hs3, oA3, hR3, hC3, fun z => absurd z (n5_ot (show ¬ R.1 = 5 by omega))⟩)
         | (have e : ln0 t L m R D N = bnR t L m R D N := by rw [ln0, gte_f (by omega), gte_f (by omega), gte_t (by omega)]
            have e2 : lnD t L m R D N = bnD t L m R D N := by rw [lnD, gte_f (by omega), gte_f (by omega)]
            have e3 : lnN t L m R D N = bnN t L m R D N := by rw [lnN, gte_t (by omega)]
            rw [e, e2, e3]
            exact ⟨hs3, oA3, hR3, hC3, hw3⟩)
         | (have e : ln0 t L m R D N = flR t L m 1 R := by rw [ln0, gte_f (by omega), gte_f (by omega), gte_f (by omega)]
            rw [e]
            exact ⟨hs2.wide (by decide), (dB_1 hB hs2).1, hR2, fun z => absurd z (flR_f (by decide)), fun z => absurd z (n5_fl (by decide) (show ¬ R.1 = 5 by omega))⟩))
set_option maxRecDepth 100000 in
set_option maxHeartbeats 4000000 in
theorem c_X12_hasFault {σ : jS} (hf : iR (σ 1 7)) : Jm 1 miX12_hasFault [.ref 0] σ (fun r τ => r = some (vI (bI (¬ σ 1 7 = 0))) ∧ τ = ju (ju σ 2 1 0) 0 13 (σ 1 7)) := by
  refine jm_ofF (Po := (fun r τ => r = some (vI (bI (¬ σ 1 7 = 0))) ∧ τ = ju (ju σ 2 1 0) 0 13 (σ 1 7))) (plainFor_of_name (by decide)) (Nat.le_of_ble_eq_true rfl) (lv := [(0, _)]) rfl ?_
  refine r_aload_n (dc dkX12_hasFault 0 rfl) rfl (np 1 rfl ?_)
  refine r_getR (dc dkX12_hasFault 1 rfl) flX12_20 fd_0_1 (np 4 rfl ?_)
  refine r_iconst (dc dkX12_hasFault 2 rfl) (np 5 rfl ?_)
  refine r_pI 1 (dc dkX12_hasFault 3 rfl) fpX12_99 fd_2_1 rfl (np 8 rfl ?_)
  refine r_aload_n (dc dkX12_hasFault 4 rfl) rfl (np 9 rfl ?_)
  refine r_aload_n (dc dkX12_hasFault 5 rfl) rfl (np 10 rfl ?_)
  refine r_getR (dc dkX12_hasFault 6 rfl) flX12_10 fd_0_0 (np 13 rfl ?_)
  refine r_gI 7 (dc dkX12_hasFault 7 rfl) flX12_126 fd_1_7 rfl (np 16 rfl ?_)
  refine r_pI 13 (dc dkX12_hasFault 8 rfl) fpX12_85 fd_0_13 rfl (np 19 rfl ?_)
  refine r_aload_n (dc dkX12_hasFault 9 rfl) rfl (np 20 rfl ?_)
  refine r_gI 13 (dc dkX12_hasFault 10 rfl) flX12_85 fd_0_13 rfl (np 23 rfl ?_)
  refine r_if_eq (tgt := 30) (dc dkX12_hasFault 11 rfl) rfl (by rw [ju_at, ju_ne (by decide)]; exact hf) (fun h23 => ?_) (fun h23 => (np 26 rfl ?_))
  · skip
    refine r_iconst (dc dkX12_hasFault 14 rfl) (np 31 rfl ?_)
    exact r_zret (dc dkX12_hasFault 15 rfl) rfl (by first | exact Or.inl rfl | exact Or.inr rfl) (by rw [ju_at, ju_ne (by decide)] at h23; exact ⟨by first | rw [bI_t h23] | rw [bI_f (fun z => z h23)], by rw [ju_ne (by decide)]⟩)
  refine r_iconst (dc dkX12_hasFault 12 rfl) (np 27 rfl ?_)
  refine r_goto (tgt := 31) (dc dkX12_hasFault 13 rfl) rfl ?_
  exact r_zret (dc dkX12_hasFault 15 rfl) rfl (by first | exact Or.inl rfl | exact Or.inr rfl) (by rw [ju_at, ju_ne (by decide)] at h23; exact ⟨by first | rw [bI_t h23] | rw [bI_f (fun z => z h23)], by rw [ju_ne (by decide)]⟩)
