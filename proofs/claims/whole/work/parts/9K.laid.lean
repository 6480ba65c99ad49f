/-! ===== a band laid ===== -/
theorem wkS_c {f g : Int → Int} {i z c : Int} (h : ∀ q, 0 ≤ q → q < c → f q = g q) : wkS f i z c = wkS g i z c := by
  unfold wkS
  refine smI_congr (fun q q0 q1 => ?_)
  rw [h q q0 q1]
theorem ly_eq {σ : jS} (h : Inv σ) (hn : ¬ σ 34 0 = 0) {i c z y : Int} (hc : c ≤ σ 34 0) (hz : wkZ (σ 35) i (σ 34 0) = z) (hy : wkZ (σ 36) i (σ 34 0) = y) : lyP σ i c = lyR σ i z y c := by
  have k8 := (Inv_k h).2.2.2.2.2.2.2
  obtain ⟨c1, c2, c3⟩ := h.2.2.1.2.2.1
  rcases c3 with q | q
  · exact absurd q.1 hn
  · obtain ⟨_, d1, d2, d3⟩ := q
    unfold lyP lyR
    rw [hz, hy, k8.1, k8.2.1, show σ 34 1 = σ 113 243 from d1, show σ 34 2 = σ 113 244 from d2]
    rw [wkS_c (f := σ 35) (g := fun q => σ 113 (245 + 2 * q)) (fun q q0 q1 => (d3 q q0 (Int.lt_of_lt_of_le q1 hc)).1), wkS_c (f := σ 36) (g := fun q => σ 113 (246 + 2 * q)) (fun q q0 q1 => (d3 q q0 (Int.lt_of_lt_of_le q1 hc)).2)]
theorem sm_call {σ : jS} (h : Inv σ) (hn : ¬ σ 34 0 = 0) : smI (σ 35) (σ 34 0) = smI (fun i => σ 113 (245 + 2 * i + 0)) (σ 113 242) ∧ smI (σ 36) (σ 34 0) = smI (fun i => σ 113 (245 + 2 * i + 1)) (σ 113 242) := by
  obtain ⟨c1, c2, c3⟩ := h.2.2.1.2.2.1
  rcases c3 with q | q
  · exact absurd q.1 hn
  · obtain ⟨_, d1, d2, d3⟩ := q
    rw [c1]
    constructor
    · refine smI_congr (fun i i0 i1 => ?_)
      rw [Int.add_zero]; exact (d3 i i0 i1).1
    · refine smI_congr (fun i i0 i1 => ?_)
      rw [show 245 + 2 * i + 1 = 246 + 2 * i by omega]; exact (d3 i i0 i1).2
theorem ad_pb {σ τ1 τ ω : jS} {n : Int} (h : Inv σ) (m8 : ¬ σ 113 4 = 8) (n3 : 3 ≤ n ∧ n ≤ 8) (ad : AD τ1 τ 30 (-1) n) (t1 : ∀ x, 28 ≤ x → x ≤ 33 → τ1 x = σ x) (kw : ∀ x, 28 ≤ x → x ≤ 33 → ω x = τ x) (h6 : ∀ j, 0 ≤ j → j < n → τ1 6 j = 10 * ω 113 (105 + 17 * σ 113 4 + 2 + 2 * j) + ω 113 (105 + 17 * σ 113 4 + 1 + 2 * j)) (hin : ∀ j, 0 ≤ j → j < n → (0 ≤ ω 113 (105 + 17 * σ 113 4 + 1 + 2 * j) ∧ ω 113 (105 + 17 * σ 113 4 + 1 + 2 * j) < σ 113 0) ∧ (0 ≤ ω 113 (105 + 17 * σ 113 4 + 2 + 2 * j) ∧ ω 113 (105 + 17 * σ 113 4 + 2 + 2 * j) < σ 113 1)) (eF : ∀ j, 0 ≤ j → j < 241 → ¬ j = 4 → (j < 105 + 17 * σ 113 4 ∨ 105 + 17 * σ 113 4 + 17 ≤ j) → ω 113 j = σ 113 j) (e4 : ω 113 4 = σ 113 4 + 1) (en : ω 113 (105 + 17 * σ 113 4) = n) (n0 : ω 118 (σ 113 4) = 0) (n1 : ∀ j, ¬ j = σ 113 4 → ω 118 j = σ 118 j) (w : wrA n (fun c => 10 * ω 113 (105 + 17 * σ 113 4 + 2 + 2 * (c % n)) + ω 113 (105 + 17 * σ 113 4 + 1 + 2 * (c % n))) (pkC σ 28) = 0) : pbR ω 30 (σ 113) (ω 113) (ω 118) := by
  obtain ⟨_, _, _, _, k5, k6, k7, _⟩ := Inv_k h
  obtain ⟨⟨hV, _⟩, p2, p3, p4, p5, p6⟩ := pb_tb h.2.2.1
  have nn := hV.2.2.2.1
  have h01 := hV.1
  have hd : ∀ j, 0 ≤ j → j < 105 → ¬ j = 4 → ω 113 j = σ 113 j := fun j j0 j1 j4 => eF j j0 (by omega) j4 (by omega)
  have ePk := pkR_h hV hd
  have vE : okV (ω 113) := by
    refine okV_b hV hd (by rw [e4]; omega) (fun x x0 x1 => ?_)
    rw [e4] at x1
    by_cases xb : x = σ 113 4
    · rw [xb]
      refine ⟨by rw [en]; exact n3, fun i i0 i1 => by rw [en] at i1; rw [hd 0 (by decide) (by decide) (by decide), hd 1 (by decide) (by decide) (by decide)]; exact hin i i0 i1, ?_⟩
      have ec : cn (dS (ω 113)) 0 (σ 113 4) = n := en
      have eP : rP (dS (ω 113)) 0 (σ 113 4) = fun c => 10 * ω 113 (105 + 17 * σ 113 4 + 2 + 2 * (c % n)) + ω 113 (105 + 17 * σ 113 4 + 1 + 2 * (c % n)) := by
        funext c
        unfold rP
        rw [ec]; rfl
      rw [ec, eP, ePk]
      rw [k7] at w; exact w
    · exact gB_c (hd 0 (by decide) (by decide) (by decide)) (hd 1 (by decide) (by decide) (by decide)) (by omega) (by omega) (fun p q0 q1 => hd _ (by omega) (by omega) (by omega)) (fun j j0 j1 => eF j (by omega) (by omega) (by omega) (by omega)) (hV.2.2.2.2.2.2 x x0 (by omega))
  obtain ⟨r1, r2, r3, r4, r5, r6, r7, r8, r9⟩ := ad
  have t30 : τ1 30 0 = σ 113 4 := by rw [t1 30 (by omega) (by omega)]; exact k5
  rw [t30] at r2 r4 r5 r6 r7 r8 r9
  have w28 : ω 28 = σ 28 := by rw [kw 28 (by omega) (by omega), r1 28 (by decide) (by decide) (by decide) (by decide), t1 28 (by omega) (by omega)]
  have w29 : ω 29 = σ 29 := by rw [kw 29 (by omega) (by omega), r1 29 (by decide) (by decide) (by decide) (by decide), t1 29 (by omega) (by omega)]
  have w30 : ω 30 0 = σ 113 4 + 1 := by rw [kw 30 (by omega) (by omega)]; exact r2
  have w31b : ω 31 (σ 113 4) = -1 := by rw [kw 31 (by omega) (by omega)]; exact r4
  have w31 : ∀ j, ¬ j = σ 113 4 → ω 31 j = σ 31 j := fun j hj => by rw [kw 31 (by omega) (by omega), show τ 31 j = τ1 31 j from r5 j hj, t1 31 (by omega) (by omega)]
  have w32b : ω 32 (σ 113 4) = n := by rw [kw 32 (by omega) (by omega)]; exact r6
  have w32 : ∀ j, ¬ j = σ 113 4 → ω 32 j = σ 32 j := fun j hj => by rw [kw 32 (by omega) (by omega), show τ 32 j = τ1 32 j from r7 j hj, t1 32 (by omega) (by omega)]
  have w33b : ∀ j, 0 ≤ j → j < n → ω 33 (σ 113 4 * 8 + j) = 10 * ω 113 (105 + 17 * σ 113 4 + 2 + 2 * j) + ω 113 (105 + 17 * σ 113 4 + 1 + 2 * j) := fun j j0 j1 => by rw [kw 33 (by omega) (by omega), show τ 33 (σ 113 4 * 8 + j) = τ1 6 j from r8 j j0 j1, h6 j j0 j1]
  have w33 : ∀ j, (j < σ 113 4 * 8 ∨ σ 113 4 * 8 + n ≤ j) → ω 33 j = σ 33 j := fun j hj => by rw [kw 33 (by omega) (by omega), show τ 33 j = τ1 33 j from r9 j hj, t1 33 (by omega) (by omega)]
  refine ⟨⟨vE, hd⟩, ⟨by rw [w30]; omega, fun j j0 j1 => ?_, fun j j0 j1 => ?_, fun j j0 j1 => ?_⟩, by rw [w30, e4], fun x x0 x1 => ?_, fun x x0 x1 => ?_, fun j j0 j1 => ?_⟩
  · show 0 ≤ ω 32 j ∧ ω 32 j ≤ 8
    by_cases q : j = σ 113 4
    · rw [q, w32b]; omega
    · rw [w32 j q]; exact p2.2.1 j j0 j1
  · show isPg (ω 33 j)
    by_cases q : j < σ 113 4 * 8 ∨ σ 113 4 * 8 + n ≤ j
    · rw [w33 j q]; exact p2.2.2.1 j j0 j1
    · have v := w33b (j - σ 113 4 * 8) (by omega) (by omega)
      have u := hin (j - σ 113 4 * 8) (by omega) (by omega)
      rw [show σ 113 4 * 8 + (j - σ 113 4 * 8) = j by omega] at v
      rw [v]
      unfold isPg
      omega
  · show -1 ≤ ω 31 j ∧ ω 31 j ≤ 7
    by_cases q : j = σ 113 4
    · rw [q, w31b]; decide
    · rw [w31 j q]; exact p2.2.2.2 j j0 j1
  · rw [e4] at x1
    show ω 32 x = _ ∧ ∀ i, 0 ≤ i → i < ω 113 (105 + 17 * x) → ω 33 (x * 8 + i) = _
    by_cases xb : x = σ 113 4
    · rw [xb, en]
      exact ⟨w32b, w33b⟩
    · have gx := (hV.2.2.2.2.2.2 x x0 (by omega)).1
      have q := p4 x x0 (by omega)
      rw [eF (105 + 17 * x) (by omega) (by omega) (by omega) (by omega)]
      refine ⟨by rw [w32 x xb]; exact q.1, fun i i0 i1 => ?_⟩
      rw [w33 _ (by omega), eF _ (by omega) (by omega) (by omega) (by omega), eF _ (by omega) (by omega) (by omega) (by omega)]
      exact q.2 i i0 i1
  · rw [e4] at x1
    show (ω 31 x = -1 ∧ ω 118 x = 0) ∨ ((0 ≤ ω 31 x ∧ ω 31 x < ω 28 6) ∧ ω 118 x = ω 29 (ω 31 x))
    by_cases xb : x = σ 113 4
    · rw [xb]; exact Or.inl ⟨w31b, n0⟩
    · rw [w31 x xb, w28, w29, n1 x xb]; exact p5 x x0 (by omega)
  · by_cases xb : j = σ 113 4
    · rw [xb, n0]; exact ⟨by omega, by omega⟩
    · rw [n1 j xb]; exact p6 j j0 j1
