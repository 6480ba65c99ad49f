/-! ===== texts ===== -/
theorem lnN_l {t : Int → Int} {L m : Int} {R : Int × Int} {D N : Int → Int} (hU : okU D N) (hV : okV D) (hq : R.2 ≤ L) (h : (lnR t L m R D N).1 = 0) (hl : ∀ j, 0 ≤ j → j < 8 → lR (N j)) : ∀ j, 0 ≤ j → j < 8 → lR (lnN t L m R D N j) := by
  intro j j0 j1
  have u := okU_ln hU hV hq h
  by_cases k : tK t L m R.2 = 103
  · have eN : lnN t L m R D N = bnN t L m R D N := by unfold lnN; rw [gte_t k]
    have eD : lnD t L m R D N = bnD t L m R D N := by unfold lnD; rw [gte_f (by omega), gte_f (by omega)]
    rw [eN, eD] at u
    rw [eN]
    by_cases c : j = D 4
    · have b := (u j j0 (by rw [c]; unfold bnD; rw [up_at]; omega)).1
      exact ⟨by omega, by omega⟩
    · unfold bnN
      rw [up_ne c]; exact hl j j0 j1
  · have eN : lnN t L m R D N = N := by unfold lnN; rw [gte_f k]
    rw [eN]; exact hl j j0 j1
theorem lnF_l {t : Int → Int} {L m : Int} : ∀ (k : Nat) (R : Int × Int) (D N : Int → Int) (n : Int), R.1 = 0 → okV D → okT2 D → okU D N → R.2 ≤ L → (∀ j, 0 ≤ j → j < 8 → lR (N j)) → (lnF t L m k R D N n).1.1 = 0 → ∀ j, 0 ≤ j → j < 8 → lR ((lnF t L m k R D N n).2.2.1 j)
  | 0, R, D, N, n, _, _, _, _, _, hl, _ => hl
  | k + 1, R, D, N, n, h0, hV, hw, hU, hq, hl, z => by
    by_cases c : ¬ R.1 = 0 ∨ tK t L m R.2 = 0
    · rw [lnF_e c]; exact hl
    · by_cases g : (lnR t L m R D N).1 = 0
      · rw [lnF_y c g] at z ⊢
        have v := okV_ln hV hw h0 g
        exact lnF_l k _ _ _ _ g v.1 v.2.1 (okU_ln hU hV hq g) (ln_2 hq g).2 (lnN_l hU hV hq g hl) z
      · rw [lnF_n c g] at z
        exact absurd z g
theorem bdF_l {t : Int → Int} {L : Int} {N : Int → Int} (hL : 0 ≤ L) (hl : ∀ j, 0 ≤ j → j < 8 → lR (N j)) (z : (bdF t L N).1.1 = 0) : ∀ j, 0 ≤ j → j < 8 → lR ((bdF t L N).2.2.1 j) := by
  unfold bdF at z ⊢
  by_cases c : (hdR t L 600 (0, 0)).1 = 0
  · have v := okV_hd (fun _ _ _ => rfl) c
    exact lnF_l 641 _ _ _ _ c v.1 v.2.1 (fun b b0 b1 => by rw [v.2.2] at b1; omega) (hd_q c hL) hl z
  · rw [lnF_e (Or.inl c)]; exact hl
theorem tpR_0 {τ : jS} (h1 : τ 2 1 = 0) (h2 : τ 111 2 = 0) : tpR τ := ⟨by omega, by omega, fun i i0 i1 => by omega⟩
theorem okC_0 {D : Int → Int} (h : ∀ j, 241 ≤ j → j < 261 → D j = 0) : okC D := by
  have a := h 242 (by decide) (by decide)
  refine ⟨by omega, by rw [h 243 (by decide) (by decide)]; decide, by rw [h 244 (by decide) (by decide)]; decide, fun i i0 i1 => by omega⟩
theorem okGm_0 {D : Int → Int} (h : D 261 = 0) : okGm D := ⟨by rw [h]; decide, fun k k0 k1 => by omega, fun k l k0 kl l1 => by omega⟩
theorem ag_board {σ : jS} (h : Inv σ) : Ag 13 9 miX12_board miX13_board [] σ := by
  obtain ⟨i1, i2, i3, i4, i5, i6, i7, i8⟩ := h
  refine (c_X12_board i1.1 i8.1 i3.1.2.2.2.2.2 (N := σ 119)).mono (fun r τ q => ?_)
  obtain ⟨⟨q1, q2, q3, q4, q5, q6⟩, q7, q8⟩ := q
  have eL : τ 111 2 = σ 2 1 := by rw [q1 111 (by decide)]; exact i1.2.1
  have eT : mTp (tpe σ) (σ 2 1) τ := by unfold mTp; rw [q1 112 (by decide)]; exact i1.2.2
  have e119 : τ 119 = σ 119 := q1 119 (by decide)
  have fw : ∀ ρ, (∀ c, ¬ c = 111 → c ∉ [113, 114, 118, 119] → ρ c = τ c) → ρ 111 10 = (bdF (tpe σ) (σ 2 1) (σ 119)).1.1 → ρ 111 12 = (if (bdF (tpe σ) (σ 2 1) (σ 119)).1.1 = 5 then (bdF (tpe σ) (σ 2 1) (σ 119)).2.2.2.2 else τ 111 12) → fwR ρ := fun ρ k a b => by
    refine ⟨by rw [a, k 0 (by decide) (by decide), q5], ?_⟩
    rw [b, k 0 (by decide) (by decide), q6, q1 111 (by decide), i2.2]
  have md := c_X13_board (σ := τ) eL i1.1 eT e119 i8.2
  by_cases z : (bdF (tpe σ) (σ 2 1) (σ 119)).1.1 = 0
  · obtain ⟨x1, x2, x3, x4, ⟨x5, x6, x7⟩, x8, x9, x10, x11, x12, x13⟩ := q7 z
    refine ⟨_, x1, md.mono (fun r' ρ w => ?_)⟩
    obtain ⟨⟨w1, w2, w3, w4, w5, w6⟩, w7, _⟩ := w
    obtain ⟨y1, y2, y3, y4, y5⟩ := w7 z
    refine ⟨y1, ?_⟩
    have kT : ∀ c, c ≤ 110 → ρ c = τ c := fun c hc => w1.1 c (by omega) (by simp; omega)
    have k : ∀ c, ((3 ≤ c ∧ c ≤ 5) ∨ (7 ≤ c ∧ c ≤ 10) ∨ (53 ≤ c ∧ c ≤ 110)) → ρ c = σ c := fun c hc => by rw [kT c (by omega), q1 c (by simp; omega)]
    have kM : ∀ c, 116 ≤ c → c ≤ 130 → ¬ c = 118 → ¬ c = 119 → ρ c = σ c := fun c a b c1 c2 => by rw [w1.1 c (by omega) (by simp; omega), q1 c (by simp; omega)]
    have m : ∀ j, j ∉ ([0, 2, 3, 4, 5, 6, 7, 8, 9, 10, 11, 12, 13, 14, 27] : List Int) → ρ 111 j = σ 111 j := fun j hj => by rw [w1.2 j hj, q1 111 (by decide)]
    have e28 := kT 28 (by omega)
    have e29 := kT 29 (by omega)
    have nl := bdF_l i1.1.1 i8.2 z
    refine ⟨tpR_0 (by rw [kT 2 (by omega)]; exact q3) w3, fw ρ (fun c a b => w1.1 c a b) w5 w6, ⟨⟨okV_x x5 y2, RC_t (RC_x x2 x5 y2) e28 (kT 30 (by omega)) (kT 32 (by omega)) (kT 33 (by omega)), okA_t x4 e28 e29 (kT 30 (by omega)) (kT 31 (by omega)) (kT 32 (by omega)) (kT 33 (by omega))⟩, ⟨?_, ?_, fun j j0 j1 => by rw [y4 j j0 j1]; exact nl j j0 j1⟩, ⟨?_, okC_0 (fun j j0 j1 => y3 j j0 (by omega)), Or.inl ⟨?_, y3 241 (by decide) (by decide)⟩⟩, ⟨?_, okGm_0 (y3 261 (by decide) (by decide)), fun k k0 k1 => by rw [y3 261 (by decide) (by decide)] at k1; omega⟩, Or.inl ⟨y3 270 (by decide) (by decide), ?_⟩⟩, imR_c i4 (k 7 (by omega)) (fun c a b => k c (by omega)) (kM _ (by decide) (by decide) (by decide) (by decide)) (kM _ (by decide) (by decide) (by decide) (by decide)) (kM _ (by decide) (by decide) (by decide) (by decide)) (kM _ (by decide) (by decide) (by decide) (by decide)), ⟨⟨by rw [y5, kT 0 (by omega), x12], by rw [kT 0 (by omega), x12]; decide, by unfold okP; rw [k 8 (by omega)]; exact i5.1.2.2⟩, fun i i0 i1 => by rw [kT 0 (by omega), x12] at i1; omega⟩, foR_c i6 (by rw [k 9 (by omega)]) (k 10 (by omega)) (kM 129 (by decide) (by decide) (by decide) (by decide)) (m 33 (by decide)), teR_c i7 (by rw [k 4 (by omega)]) (k 5 (by omega)) (kM 130 (by decide) (by decide) (by decide) (by decide)) (m 36 (by decide)), okA_t q2 (kT 41 (by omega)) (kT 42 (by omega)) (kT 43 (by omega)) (kT 44 (by omega)) (kT 45 (by omega)) (kT 46 (by omega)), w4⟩
    · show nmU (ρ 29) (ρ 28 6)
      rw [e29, e28, x3.1]
      exact ⟨x5.2.2.2.1, fun i a0 a1 => by rw [(x3.2 i a0 a1).2]; exact (x7 i a0 a1).1.1, fun i j a0 ij a1 => by rw [(x3.2 i a0 (by omega)).2, (x3.2 j (by omega) a1).2]; exact (x7 j (by omega) a1).2 i a0 ij⟩
    · show nmI (ρ 31) (ρ 29) (ρ 28 6) (ρ 113) (ρ 118)
      rw [e29, e28, kT 31 (by omega), x3.1]
      intro b b0 b1
      rw [y2 4 (by decide) (by decide)] at b1
      have n8 := x5.2.2.2.1
      have q := x3.2 b b0 b1
      refine Or.inr ⟨by rw [q.1]; omega, ?_⟩
      rw [q.1, q.2, y4 b b0 (by omega)]
    · show ρ 113 242 = ρ 34 0
      rw [y3 242 (by decide) (by decide), kT 34 (by omega), x8]
    · show ρ 34 0 = 0
      rw [kT 34 (by omega), x8]
    · rw [y3 261 (by decide) (by decide), kT 27 (by omega), x9]
    · show ρ 38 0 = 0
      rw [kT 38 (by omega), x10]
  · obtain ⟨x1, x2, x3⟩ := q8 z
    refine ⟨_, x1, md.mono (fun r' ρ w => ?_)⟩
    obtain ⟨⟨w1, w2, w3, w4, w5, w6⟩, _, w7⟩ := w
    obtain ⟨y1, y2, y3, y4⟩ := w7 z
    refine ⟨y1, ?_⟩
    have kT : ∀ c, c ≤ 110 → ρ c = τ c := fun c hc => w1.1 c (by omega) (by simp; omega)
    have k : ∀ c, ((3 ≤ c ∧ c ≤ 5) ∨ (7 ≤ c ∧ c ≤ 10) ∨ (27 ≤ c ∧ c ≤ 39) ∨ (53 ≤ c ∧ c ≤ 110)) → ρ c = σ c := fun c hc => by
      rw [kT c (by omega)]
      by_cases u : 27 ≤ c ∧ c < 40
      · exact x3 c u.1 u.2
      · exact q1 c (by simp; omega)
    have kM : ∀ c, 116 ≤ c → c ≤ 130 → ¬ c = 118 → ¬ c = 119 → ρ c = σ c := fun c a b c1 c2 => by rw [w1.1 c (by omega) (by simp; omega), q1 c (by simp; omega)]
    have m : ∀ j, j ∉ ([0, 2, 3, 4, 5, 6, 7, 8, 9, 10, 11, 12, 13, 14, 27] : List Int) → ρ 111 j = σ 111 j := fun j hj => by rw [w1.2 j hj, q1 111 (by decide)]
    have d113 : ρ 113 = σ 113 := by rw [y2, q1 113 (by decide)]
    refine ⟨tpR_0 (by rw [kT 2 (by omega)]; exact q3) w3, fw ρ (fun c a b => w1.1 c a b) w5 w6, ?_, imR_c i4 (k 7 (by omega)) (fun c a b => k c (by omega)) (kM _ (by decide) (by decide) (by decide) (by decide)) (kM _ (by decide) (by decide) (by decide) (by decide)) (kM _ (by decide) (by decide) (by decide) (by decide)) (kM _ (by decide) (by decide) (by decide) (by decide)), paR_c i5 (by rw [kT 0 (by omega), x2]) (k 8 (by omega)) (fun c a b => k c (by omega)) (k 28 (by omega)) (k 29 (by omega)) (fun j _ _ _ => by rw [d113]) (kM _ (by decide) (by decide) (by decide) (by decide)) (kM _ (by decide) (by decide) (by decide) (by decide)) (by rw [y4, q1 111 (by decide)]), foR_c i6 (by rw [k 9 (by omega)]) (k 10 (by omega)) (kM 129 (by decide) (by decide) (by decide) (by decide)) (m 33 (by decide)), teR_c i7 (by rw [k 4 (by omega)]) (k 5 (by omega)) (kM 130 (by decide) (by decide) (by decide) (by decide)) (m 36 (by decide)), okA_t q2 (kT 41 (by omega)) (kT 42 (by omega)) (kT 43 (by omega)) (kT 44 (by omega)) (kT 45 (by omega)) (kT 46 (by omega)), w4⟩
    rw [d113, show ρ 118 = σ 118 by rw [y3, q1 118 (by decide)], kM 121 (by decide) (by decide) (by decide) (by decide)]
    exact tbR_t i3 (fun c a b => k c (by omega))
theorem ag_calls {σ : jS} (h : Inv σ) : Ag 13 6 miX12_calls miX13_calls [] σ := by
  obtain ⟨k1, _, _, k4, _, _, _, k8⟩ := Inv_k h
  obtain ⟨i1, i2, i3, i4, i5, i6, i7, i8⟩ := h
  have wb : cB 10 (σ 28 0) ∧ cB 10 (σ 28 1) := ⟨k1.1, k1.2.1⟩
  refine (c_X12_calls i1.1 wb.1 wb.2 (C := σ 115)).mono (fun r τ q => ?_)
  obtain ⟨⟨q1, q3, q4, q5, q6⟩, q7, q8⟩ := q
  have eL : τ 111 2 = σ 2 1 := by rw [q1 111 (by decide)]; exact i1.2.1
  have eT : mTp (tpe σ) (σ 2 1) τ := by unfold mTp; rw [q1 112 (by decide)]; exact i1.2.2
  have e113 : τ 113 = σ 113 := q1 113 (by decide)
  have md := c_X13_calls (σ := τ) eL i1.1 eT (show τ 113 0 = σ 28 0 by rw [e113, k8.1]) (show τ 113 1 = σ 28 1 by rw [e113, k8.2.1]) wb.1 wb.2 (show τ 115 = σ 115 from q1 115 (by decide))
  have fin : ∀ ρ, mdT [0, 2, 3, 4, 5, 6, 7, 8, 9, 10, 11, 13, 14, 34] [113, 115] τ ρ → ρ 111 2 = 0 → ρ 111 10 = (caF (tpe σ) (σ 2 1) 300 (σ 28 0) (σ 28 1) (σ 115)).1.1 → (∀ j, 0 ≤ j → j < 105 → ρ 113 j = σ 113 j) → tbR ρ 27 (ρ 113) (σ 118) (σ 121) → Inv ρ := fun ρ w1 w3 w5 lo tb => by
    have kT : ∀ c, c ≤ 110 → ρ c = τ c := fun c hc => w1.1 c (by omega) (by simp; omega)
    have k : ∀ c, ((3 ≤ c ∧ c ≤ 5) ∨ (7 ≤ c ∧ c ≤ 10) ∨ (27 ≤ c ∧ c ≤ 33) ∨ (41 ≤ c ∧ c ≤ 46) ∨ (53 ≤ c ∧ c ≤ 110)) → ρ c = σ c := fun c hc => by rw [kT c (by omega), q1 c (by simp; omega)]
    have kM : ∀ c, 116 ≤ c → c ≤ 130 → ρ c = σ c := fun c a b => by rw [w1.1 c (by omega) (by simp; omega), q1 c (by simp; omega)]
    have m : ∀ j, j ∉ ([0, 2, 3, 4, 5, 6, 7, 8, 9, 10, 11, 13, 14, 34] : List Int) → ρ 111 j = σ 111 j := fun j hj => by rw [w1.2 j hj, q1 111 (by decide)]
    refine ⟨tpR_0 (by rw [kT 2 (by omega)]; exact q3) w3, ⟨by rw [w5, kT 0 (by omega), q5], by rw [m 12 (by decide), kT 0 (by omega), q4 14 (by decide)]; exact i2.2⟩, ?_, imR_c i4 (k 7 (by omega)) (fun c a b => k c (by omega)) (kM _ (by decide) (by decide)) (kM _ (by decide) (by decide)) (kM _ (by decide) (by decide)) (kM _ (by decide) (by decide)), paR_c i5 (by rw [kT 0 (by omega), q4 6 (by decide)]) (k 8 (by omega)) (fun c a b => k c (by omega)) (k 28 (by omega)) (k 29 (by omega)) (fun j j0 j1 _ => lo j j0 j1) (kM _ (by decide) (by decide)) (kM _ (by decide) (by decide)) (m 27 (by decide)), foR_c i6 (by rw [k 9 (by omega)]) (k 10 (by omega)) (kM 129 (by decide) (by decide)) (m 33 (by decide)), teR_c i7 (by rw [k 4 (by omega)]) (k 5 (by omega)) (kM 130 (by decide) (by decide)) (m 36 (by decide)), drR_c i8 (fun c a b => k c (by omega)) (kM 119 (by decide) (by decide))⟩
    rw [kM 118 (by decide) (by decide), kM 121 (by decide) (by decide)]
    exact tb
  by_cases z : (caF (tpe σ) (σ 2 1) 300 (σ 28 0) (σ 28 1) (σ 115)).1.1 = 0
  · obtain ⟨x1, x2⟩ := q7 z
    refine ⟨_, x1, md.mono (fun r' ρ w => ?_)⟩
    obtain ⟨⟨w1, w2, w3, w5⟩, w7, _⟩ := w
    obtain ⟨y1, y2, y3, y4, y5⟩ := w7 z
    have kT : ∀ c, c ≤ 110 → ρ c = τ c := fun c hc => w1.1 c (by omega) (by simp; omega)
    have k : ∀ c, ((27 ≤ c ∧ c ≤ 33) ∨ (37 ≤ c ∧ c ≤ 39)) → ρ c = σ c := fun c hc => by rw [kT c (by omega), q1 c (by simp; omega)]
    have lo : ∀ j, (j < 241 ∨ 261 ≤ j) → ρ 113 j = σ 113 j := fun j hj => by rw [y2 j hj, e113]
    have ok := caF_ok z
    generalize caF (tpe σ) (σ 2 1) 300 (σ 28 0) (σ 28 1) (σ 115) = FF at *
    refine ⟨y1, fin ρ w1 w3 w5 (fun j j0 j1 => lo j (by omega)) ?_⟩
    obtain ⟨⟨h1, h2, h3⟩, h4, h5, h6, h7⟩ := i3
    have g0 : ρ 113 243 = FF.2.1 0 := by have := y5 0 (by decide) (by decide); rw [if_pos (by omega)] at this; exact this
    have g1 : ρ 113 244 = FF.2.1 1 := by have := y5 1 (by decide) (by decide); rw [if_pos (by omega)] at this; exact this
    have g2 : ∀ i, 0 ≤ i → i < FF.2.2 → ρ 113 (245 + 2 * i) = FF.2.1 (2 + 2 * i) ∧ ρ 113 (246 + 2 * i) = FF.2.1 (3 + 2 * i) := fun i a0 a1 => by
      have p := y5 (2 + 2 * i) (by omega) (by omega)
      have p' := y5 (3 + 2 * i) (by omega) (by omega)
      rw [if_pos (by omega), show 243 + (2 + 2 * i) = 245 + 2 * i by omega] at p
      rw [if_pos (by omega), show 243 + (3 + 2 * i) = 246 + 2 * i by omega] at p'
      exact ⟨p, p'⟩
    refine ⟨⟨okV_x h1 (fun j j0 j1 => lo j (by omega)), RC_t (RC_x h2 h1 (fun j j0 j1 => lo j (by omega))) (k 28 (by omega)) (k 30 (by omega)) (k 32 (by omega)) (k 33 (by omega)), okA_t h3 (k _ (by omega)) (k _ (by omega)) (k _ (by omega)) (k _ (by omega)) (k _ (by omega)) (k _ (by omega))⟩, ?_, ⟨?_, ⟨by rw [y4]; omega, by rw [g0]; have := ok.2.2.1; omega, by rw [g1]; have := ok.2.2.2.1; omega, fun i a0 a1 => ?_⟩, Or.inr ⟨⟨?_, y3⟩, ?_, ?_, fun i a0 a1 => ?_⟩⟩, ?_, ?_⟩
    · show nmU (ρ 29) (ρ 28 6) ∧ nmI (ρ 31) (ρ 29) (ρ 28 6) (ρ 113) (σ 118) ∧ _
      rw [k 29 (by omega), k 28 (by omega), k 31 (by omega)]
      exact ⟨h4.1, fun b b0 b1 => by rw [lo 4 (by omega)] at b1; exact h4.2.1 b b0 b1, h4.2.2⟩
    · show ρ 113 242 = ρ 34 0
      rw [y4, kT 34 (by omega), x2.1]
    · rw [y4] at a1
      rw [(g2 i a0 a1).1, (g2 i a0 a1).2]
      exact ok.2.2.2.2 i a0 a1
    · show 3 ≤ ρ 34 0
      rw [kT 34 (by omega), x2.1]; exact ok.1
    · show ρ 34 1 = _
      rw [kT 34 (by omega), x2.2.1, g0]
    · show ρ 34 2 = _
      rw [kT 34 (by omega), x2.2.2.1, g1]
    · have a1' : i < ρ 34 0 := a1
      rw [kT 34 (by omega), x2.1] at a1'
      show ρ 35 i = _ ∧ ρ 36 i = _
      rw [kT 35 (by omega), kT 36 (by omega), (g2 i a0 a1').1, (g2 i a0 a1').2]
      exact x2.2.2.2 i a0 a1'
    · obtain ⟨l1, l2, l3⟩ := h6
      have e261 := lo 261 (by omega)
      have pe : pkD (ρ 113) = pkD (σ 113) := by
        funext p
        unfold pkD
        rw [lo 0 (by omega), lo 1 (by omega)]
        split
        · rename_i hp
          have := h1.1
          rw [lo (5 + p) (by omega)]
        · rfl
      have m4 := l2.1
      refine ⟨by rw [e261, k 27 (by omega)]; exact l1, ⟨by rw [e261]; exact m4, fun k k0 k1 => by rw [e261] at k1; rw [pe, lo _ (by omega)]; exact l2.2.1 k k0 k1, fun k l k0 kl l1 => by rw [e261] at l1; rw [lo _ (by omega), lo _ (by omega)]; exact l2.2.2 k l k0 kl l1⟩, fun x x0 x1 => ?_⟩
      rw [e261] at x1
      show _ ∧ ρ 37 x = _
      rw [lo _ (by omega), lo _ (by omega), k 37 (by omega)]
      exact l3 x x0 x1
    · have q := seR_x h7 (E := ρ 113) (fun j j0 => lo j (by omega))
      unfold seR at q ⊢
      rw [show 27 + 11 = 38 from rfl, show 27 + 12 = 39 from rfl, show 27 + 2 = 29 from rfl, show 27 + 1 = 28 from rfl] at q ⊢
      rw [k 38 (by omega), k 39 (by omega), k 29 (by omega), k 28 (by omega)]; exact q
  · obtain ⟨x1, x2⟩ := q8 z
    refine ⟨_, x1, md.mono (fun r' ρ w => ?_)⟩
    obtain ⟨⟨w1, w2, w3, w5⟩, _, w7⟩ := w
    obtain ⟨y1, y2⟩ := w7 z
    refine ⟨y1, fin ρ w1 w3 w5 (fun j j0 j1 => by rw [y2, e113]) ?_⟩
    rw [y2, e113]
    refine tbR_t i3 (fun c a b => ?_)
    rw [w1.1 c (by omega) (by simp; omega)]
    by_cases u : 34 ≤ c ∧ c < 37
    · exact x2 c u.1 u.2
    · exact q1 c (by simp; omega)
