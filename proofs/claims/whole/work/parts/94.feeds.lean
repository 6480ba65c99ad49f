/-! ===== feed, end, again, write ===== -/
theorem okV_x {D E : Int → Int} (h : okV D) (e : ∀ j, 0 ≤ j → j < 241 → E j = D j) : okV E := by
  obtain ⟨h1, h2, h3, h4, h5, h6, h7⟩ := h
  have e0 := e 0 (by decide) (by decide)
  have e1 := e 1 (by decide) (by decide)
  have e4 := e 4 (by decide) (by decide)
  refine ⟨by rw [e0, e1]; exact h1, by rw [e 2 (by decide) (by decide)]; exact h2, by rw [e 3 (by decide) (by decide)]; exact h3, by rw [e4]; exact h4, fun p p0 p1 => ?_, ?_, fun b b0 b1 => ?_⟩
  · rw [e (5 + p) (by omega) (by omega), e0, e1]; exact h5 p p0 p1
  · rw [e 3 (by decide) (by decide), h6]
    exact smI_congr (fun p p0 p1 => (e (5 + p) (by omega) (by omega)).symm)
  · rw [e4] at b1
    have g := h7 b b0 b1
    have g1 := g.1
    have en : E (105 + 17 * b) = D (105 + 17 * b) := e _ (by omega) (by omega)
    have ec : cn (dS E) 0 b = cn (dS D) 0 b := en
    have eP : rP (dS E) 0 b = rP (dS D) 0 b := rP_c (by omega) (fun j j0 j1 => e j (by omega) (by omega))
    have ek : pkR (dS E) 0 = pkR (dS D) 0 := by
      funext p
      unfold pkR dS
      rw [e0, e1]
      split
      · rw [e (5 + p) (by omega) (by omega)]
      · rfl
    refine ⟨by rw [en]; exact g1, fun i i0 i1 => ?_, by rw [ec, eP, ek]; exact g.2.2⟩
    rw [en] at i1
    rw [e (105 + 17 * b + 1 + 2 * i) (by omega) (by omega), e (105 + 17 * b + 2 + 2 * i) (by omega) (by omega), e0, e1]
    exact g.2.1 i i0 i1
theorem RC_x {σ : jS} {k : Nat} {D E : Int → Int} (h : RC σ k D) (hV : okV D) (e : ∀ j, 0 ≤ j → j < 241 → E j = D j) : RC σ k E := by
  obtain ⟨h1, h2, h3, h4, h5, h6, h7⟩ := h
  refine ⟨by rw [e 0 (by decide) (by decide)]; exact h1, by rw [e 1 (by decide) (by decide)]; exact h2, by rw [e 2 (by decide) (by decide)]; exact h3, by rw [e 3 (by decide) (by decide)]; exact h4, by rw [e 4 (by decide) (by decide)]; exact h5, fun p p0 p1 => by rw [e (5 + p) (by omega) (by omega)]; exact h6 p p0 p1, fun b b0 b1 => ?_⟩
  rw [e 4 (by decide) (by decide)] at b1
  have g := (hV.2.2.2.2.2.2 b b0 b1).1
  have m := hV.2.2.2.1
  have en : E (105 + 17 * b) = D (105 + 17 * b) := e _ (by omega) (by omega)
  refine ⟨by rw [en]; exact (h7 b b0 b1).1, fun i i0 i1 => ?_⟩
  rw [en] at i1
  rw [e (105 + 17 * b + 1 + 2 * i) (by omega) (by omega), e (105 + 17 * b + 2 + 2 * i) (by omega) (by omega)]
  exact (h7 b b0 b1).2 i i0 i1
theorem tbR_x {σ : jS} {T : Nat} {D E N S S' : Int → Int} (h : tbR σ T D N S) (e : ∀ j, 0 ≤ j → j < 241 → E j = D j) (hc : clR σ T E) (hl : liR σ T E) (hs : seR σ T E S') : tbR σ T E N S' := by
  obtain ⟨⟨h1, h2, h3⟩, ⟨h4, h5, h6⟩, _⟩ := h
  refine ⟨⟨okV_x h1 e, RC_x h2 h1 e, h3⟩, ⟨h4, fun b b0 b1 => ?_, h6⟩, hc, hl, hs⟩
  rw [e 4 (by decide) (by decide)] at b1
  exact h5 b b0 b1
theorem bts_b (w i : Int) : cB 255 (bts w i) := by unfold bts; omega
theorem ag_feed {σ : jS} (h : Inv σ) {a b c d e : Int} : Ag 3 2 miX12_feed miX13_feed [vI a, vI b, vI c, vI d, vI e] σ := by
  obtain ⟨i1, i2, i3, i4, i5, i6, i7, i8⟩ := h
  have hI : Inv σ := ⟨i1, i2, i3, i4, i5, i6, i7, i8⟩
  have hL := i1.1
  refine (c_X12_feed hL).mono (fun r τ q => ?_)
  by_cases c20 : σ 2 1 + 20 ≤ 640
  · obtain ⟨x1, x2, x3, x4, x5, x6⟩ := q.1 c20
    have eT : τ 111 2 = σ 2 1 := by rw [x2 111 (by decide)]; exact i1.2.1
    refine ⟨_, x1, (c_X13_feed (by omega)).mono (fun r' ρ z => ?_)⟩
    obtain ⟨y1, y2, y3, y4, y5, y6⟩ := z.1 (by omega)
    refine ⟨by rw [y1, eT], ?_⟩
    have k : ∀ c, ¬ c = 2 → ¬ c = 3 → ¬ c = 111 → ¬ c = 112 → ρ c = σ c := fun c c2 c3 c1 cc => by rw [y2.1 c c1 (by simp; omega), x2 c (by simp; omega)]
    have m : ∀ j, ¬ j = 0 → ¬ j = 2 → ρ 111 j = σ 111 j := fun j j0 j2 => by rw [y2.2 j (by simp; omega), x2 111 (by decide)]
    have r2 : ρ 2 = τ 2 := y2.1 2 (by decide) (by decide)
    have r3 : ρ 3 = τ 3 := y2.1 3 (by decide) (by decide)
    refine ⟨⟨by rw [r2, x4]; omega, by rw [y4, eT, r2, x4], fun i j0 j1 => ?_⟩, fwR_c i2 (by rw [k 0 (by decide) (by decide) (by decide) (by decide)]) (by rw [k 0 (by decide) (by decide) (by decide) (by decide)]) (m 10 (by decide) (by decide)) (m 12 (by decide) (by decide)), ?_, imR_c i4 (k 7 (by decide) (by decide) (by decide) (by decide)) (fun c a b => k c (by omega) (by omega) (by omega) (by omega)) (k _ (by decide) (by decide) (by decide) (by decide)) (k _ (by decide) (by decide) (by decide) (by decide)) (k _ (by decide) (by decide) (by decide) (by decide)) (k _ (by decide) (by decide) (by decide) (by decide)), paR_c i5 (by rw [k 0 (by decide) (by decide) (by decide) (by decide)]) (k _ (by decide) (by decide) (by decide) (by decide)) (fun c a b => k c (by omega) (by omega) (by omega) (by omega)) (k _ (by decide) (by decide) (by decide) (by decide)) (k _ (by decide) (by decide) (by decide) (by decide)) (fun j _ _ _ => by rw [k 113 (by decide) (by decide) (by decide) (by decide)]) (k _ (by decide) (by decide) (by decide) (by decide)) (k _ (by decide) (by decide) (by decide) (by decide)) (m 27 (by decide) (by decide)), foR_c i6 (by rw [k 9 (by decide) (by decide) (by decide) (by decide)]) (k _ (by decide) (by decide) (by decide) (by decide)) (k _ (by decide) (by decide) (by decide) (by decide)) (m 33 (by decide) (by decide)), teR_c i7 (by rw [k 4 (by decide) (by decide) (by decide) (by decide)]) (k _ (by decide) (by decide) (by decide) (by decide)) (k _ (by decide) (by decide) (by decide) (by decide)) (m 36 (by decide) (by decide)), drR_c i8 (fun c a b => k c (by omega) (by omega) (by omega) (by omega)) (k _ (by decide) (by decide) (by decide) (by decide))⟩
    · rw [r2, x4] at j1
      have t3 : tpe ρ = tpe τ := by unfold tpe; rw [r3]
      rw [t3]
      by_cases u : i < σ 2 1
      · have w := i1.2.2 i j0 u
        have w2 : tpe τ i = tpe σ i := by unfold tpe; rw [x5 i u]
        rw [y5 i (by omega), x2 112 (by decide), w2]; exact w
      · rw [eT] at y6
        have key : ∀ o x, (0 ≤ o ∧ o < 4) → tpe τ i = bts x o → ρ 112 i = bts x o → ρ 112 i = tpe τ i ∧ cB 255 (tpe τ i) := fun o x ho p1 p2 => ⟨by rw [p1, p2], by rw [p1]; exact bts_b x o⟩
        rcases (show i - σ 2 1 < 4 ∨ (4 ≤ i - σ 2 1 ∧ i - σ 2 1 < 8) ∨ (8 ≤ i - σ 2 1 ∧ i - σ 2 1 < 12) ∨ (12 ≤ i - σ 2 1 ∧ i - σ 2 1 < 16) ∨ (16 ≤ i - σ 2 1 ∧ i - σ 2 1 < 20) by omega) with v | v | v | v | v
        · have p := x6 (i - σ 2 1) (by omega) (by omega)
          have p' := y6 (i - σ 2 1) (by omega) (by omega)
          rw [show σ 2 1 + (i - σ 2 1) = i by omega] at p p'
          exact key (i - σ 2 1) a (by omega) p.1 p'.1
        · have p := (x6 (i - σ 2 1 - 4) (by omega) (by omega)).2.1
          have p' := (y6 (i - σ 2 1 - 4) (by omega) (by omega)).2.1
          rw [show σ 2 1 + 4 + (i - σ 2 1 - 4) = i by omega] at p p'
          exact key (i - σ 2 1 - 4) b (by omega) p p'
        · have p := (x6 (i - σ 2 1 - 8) (by omega) (by omega)).2.2.1
          have p' := (y6 (i - σ 2 1 - 8) (by omega) (by omega)).2.2.1
          rw [show σ 2 1 + 8 + (i - σ 2 1 - 8) = i by omega] at p p'
          exact key (i - σ 2 1 - 8) c (by omega) p p'
        · have p := (x6 (i - σ 2 1 - 12) (by omega) (by omega)).2.2.2.1
          have p' := (y6 (i - σ 2 1 - 12) (by omega) (by omega)).2.2.2.1
          rw [show σ 2 1 + 12 + (i - σ 2 1 - 12) = i by omega] at p p'
          exact key (i - σ 2 1 - 12) d (by omega) p p'
        · have p := (x6 (i - σ 2 1 - 16) (by omega) (by omega)).2.2.2.2
          have p' := (y6 (i - σ 2 1 - 16) (by omega) (by omega)).2.2.2.2
          rw [show σ 2 1 + 16 + (i - σ 2 1 - 16) = i by omega] at p p'
          exact key (i - σ 2 1 - 16) e (by omega) p p'
    · rw [k 113 (by decide) (by decide) (by decide) (by decide), k 118 (by decide) (by decide) (by decide) (by decide), k 121 (by decide) (by decide) (by decide) (by decide)]
      exact tbR_t i3 (fun c a b => k c (by omega) (by omega) (by omega) (by omega))
  · obtain ⟨x1, x2⟩ := q.2 c20
    subst x2
    have eT := i1.2.1
    refine ⟨_, x1, (c_X13_feed (by omega)).mono (fun r' ρ z => ?_)⟩
    obtain ⟨y1, y2⟩ := z.2 (by omega)
    exact ⟨y1, by rw [y2]; exact Inv_a hI (agr_ju _ 0)⟩
theorem ag_end {σ : jS} (h : Inv σ) {n : Int} (hn : iR n) : Ag 1 1 miX12_end miX13_end [vI n] σ := by
  obtain ⟨i1, i2, i3, i4, i5, i6, i7, i8⟩ := h
  have hI : Inv σ := ⟨i1, i2, i3, i4, i5, i6, i7, i8⟩
  have hL := i1.1
  have eT := i1.2.1
  refine (c_X12_end hL hn).mono (fun r τ q => ⟨_, q.1, ?_⟩)
  obtain ⟨_, q2⟩ := q
  by_cases c : 0 ≤ n ∧ n ≤ σ 2 1
  · rw [gte_t c] at q2
    have t2 : τ 111 2 = σ 2 1 := by rw [q2, ju_off _ _ _ _ _ (by decide)]; exact eT
    refine (c_X13_end (by omega) hn).mono (fun r' ρ z => ⟨by rw [z.1, t2], ?_⟩)
    have z2 := z.2
    rw [t2, gte_t c] at z2
    have k : ∀ c, ¬ c = 2 → ¬ c = 111 → ρ c = σ c := fun c c2 c1 => by rw [z2, ju_off _ _ _ _ _ c1, ju_off _ _ _ _ _ c1, q2, ju_off _ _ _ _ _ c2]
    have m : ∀ j, ¬ j = 0 → ¬ j = 2 → ρ 111 j = σ 111 j := fun j j0 j2 => by rw [z2, ju_ne (by omega), ju_ne (by omega), q2, ju_off _ _ _ _ _ (by decide)]
    have r2 : ρ 2 1 = n := by rw [z2, ju_off _ _ _ _ _ (by decide), ju_off _ _ _ _ _ (by decide), q2, ju_at]
    have r3 : ρ 111 2 = n := by rw [z2, ju_at]
    refine ⟨⟨by rw [r2]; omega, by rw [r2, r3], fun i j0 j1 => ?_⟩, fwR_c i2 (by rw [k 0 (by decide) (by decide)]) (by rw [k 0 (by decide) (by decide)]) (m 10 (by decide) (by decide)) (m 12 (by decide) (by decide)), ?_, imR_c i4 (k 7 (by decide) (by decide)) (fun c a b => k c (by omega) (by omega)) (k _ (by decide) (by decide)) (k _ (by decide) (by decide)) (k _ (by decide) (by decide)) (k _ (by decide) (by decide)), paR_c i5 (by rw [k 0 (by decide) (by decide)]) (k _ (by decide) (by decide)) (fun c a b => k c (by omega) (by omega)) (k _ (by decide) (by decide)) (k _ (by decide) (by decide)) (fun j _ _ _ => by rw [k 113 (by decide) (by decide)]) (k _ (by decide) (by decide)) (k _ (by decide) (by decide)) (m 27 (by decide) (by decide)), foR_c i6 (by rw [k 9 (by decide) (by decide)]) (k _ (by decide) (by decide)) (k _ (by decide) (by decide)) (m 33 (by decide) (by decide)), teR_c i7 (by rw [k 4 (by decide) (by decide)]) (k _ (by decide) (by decide)) (k _ (by decide) (by decide)) (m 36 (by decide) (by decide)), drR_c i8 (fun c a b => k c (by omega) (by omega)) (k _ (by decide) (by decide))⟩
    · rw [r2] at j1
      have w := i1.2.2 i j0 (by omega)
      unfold tpe at *
      rw [k 112 (by decide) (by decide), k 3 (by decide) (by decide)]; exact w
    · rw [k 113 (by decide) (by decide), k 118 (by decide) (by decide), k 121 (by decide) (by decide)]
      exact tbR_t i3 (fun c a b => k c (by omega) (by omega))
  · rw [gte_f c] at q2
    subst q2
    refine (c_X13_end (by omega) hn).mono (fun r' ρ z => ⟨by rw [z.1, eT], ?_⟩)
    have z2 := z.2
    rw [eT, gte_f c] at z2
    rw [z2]; exact Inv_a hI (agr_ju _ 0)
theorem ag_again {σ : jS} (h : Inv σ) : Ag 1 1 miX12_again miX13_again [] σ := by
  obtain ⟨i1, i2, i3, i4, i5, i6, i7, i8⟩ := h
  refine c_X12_again.mono (fun r τ q => ⟨_, q.1, c_X13_again.mono (fun r' ρ z => ⟨?_, ?_⟩)⟩)
  · rw [z.1, q.2, ju_off _ _ _ _ _ (by decide), i3.2.2.2.1.1]
  · have z2 := z.2
    have q2 := q.2
    have k : ∀ c, ¬ c = 27 → ¬ c = 111 → ¬ c = 113 → ρ c = σ c := fun c c2 c1 c3 => by rw [z2, ju_off _ _ _ _ _ c3, ju_off _ _ _ _ _ c1, q2, ju_off _ _ _ _ _ c2]
    have m : ∀ j, ¬ j = 0 → ρ 111 j = σ 111 j := fun j j0 => by rw [z2, ju_off _ _ _ _ _ (by decide), ju_ne (by omega), q2, ju_off _ _ _ _ _ (by decide)]
    have d : ∀ j, ¬ j = 261 → ρ 113 j = σ 113 j := fun j hj => by rw [z2, ju_ne (by omega), ju_off _ _ _ _ _ (by decide), q2, ju_off _ _ _ _ _ (by decide)]
    have d1 : ρ 113 261 = 0 := by rw [z2, ju_at]
    have l3 : ρ 27 3 = 0 := by rw [z2, ju_off _ _ _ _ _ (by decide), ju_off _ _ _ _ _ (by decide), q2, ju_at]
    have lo : ∀ j, ¬ j = 3 → ρ 27 j = σ 27 j := fun j hj => by rw [z2, ju_off _ _ _ _ _ (by decide), ju_off _ _ _ _ _ (by decide), q2, ju_ne (by omega)]
    obtain ⟨⟨h1, h2, h3⟩, h4, h5, h6, h7⟩ := i3
    have w0 : cB 10 (σ 113 0) ∧ cB 10 (σ 113 1) := by have := h1.1; omega
    refine ⟨tpR_c i1 (by rw [k 2 (by decide) (by decide) (by decide)]) (k 3 (by decide) (by decide) (by decide)) (k 112 (by decide) (by decide) (by decide)) (m 2 (by decide)), fwR_c i2 (by rw [k 0 (by decide) (by decide) (by decide)]) (by rw [k 0 (by decide) (by decide) (by decide)]) (m 10 (by decide)) (m 12 (by decide)), ⟨⟨okV_x h1 (fun j j0 j1 => d j (by omega)), RC_t (RC_x h2 h1 (fun j j0 j1 => d j (by omega))) (k 28 (by decide) (by decide) (by decide)) (k 30 (by decide) (by decide) (by decide)) (k 32 (by decide) (by decide) (by decide)) (k 33 (by decide) (by decide) (by decide)), okA_t h3 (k _ (by decide) (by decide) (by decide)) (k _ (by decide) (by decide) (by decide)) (k _ (by decide) (by decide) (by decide)) (k _ (by decide) (by decide) (by decide)) (k _ (by decide) (by decide) (by decide)) (k _ (by decide) (by decide) (by decide))⟩, ?_, ?_, ⟨by rw [d1, l3], ⟨by rw [d1]; decide, fun x x0 x1 => by rw [d1] at x1; omega, fun x y x0 x1 x2 => by rw [d1] at x2; omega⟩, fun x x0 x1 => by rw [d1] at x1; omega⟩, ?_⟩, imR_c i4 (k 7 (by decide) (by decide) (by decide)) (fun c a b => k c (by omega) (by omega) (by omega)) (k _ (by decide) (by decide) (by decide)) (k _ (by decide) (by decide) (by decide)) (k _ (by decide) (by decide) (by decide)) (k _ (by decide) (by decide) (by decide)), paR_c i5 (by rw [k 0 (by decide) (by decide) (by decide)]) (k _ (by decide) (by decide) (by decide)) (fun c a b => k c (by omega) (by omega) (by omega)) (k _ (by decide) (by decide) (by decide)) (k _ (by decide) (by decide) (by decide)) (fun j _ j1 _ => d j (by omega)) (k _ (by decide) (by decide) (by decide)) (k _ (by decide) (by decide) (by decide)) (m 27 (by decide)), foR_c i6 (by rw [k 9 (by decide) (by decide) (by decide)]) (k _ (by decide) (by decide) (by decide)) (k _ (by decide) (by decide) (by decide)) (m 33 (by decide)), teR_c i7 (by rw [k 4 (by decide) (by decide) (by decide)]) (k _ (by decide) (by decide) (by decide)) (k _ (by decide) (by decide) (by decide)) (m 36 (by decide)), drR_c i8 (fun c a b => k c (by omega) (by omega) (by omega)) (k _ (by decide) (by decide) (by decide))⟩
    · show nmU (ρ 29) (ρ 28 6) ∧ nmI (ρ 31) (ρ 29) (ρ 28 6) (ρ 113) (ρ 118) ∧ _
      rw [k 29 (by decide) (by decide) (by decide), k 28 (by decide) (by decide) (by decide), k 31 (by decide) (by decide) (by decide), k 118 (by decide) (by decide) (by decide)]
      exact ⟨h4.1, fun b b0 b1 => by rw [d 4 (by decide)] at b1; exact h4.2.1 b b0 b1, h4.2.2⟩
    · obtain ⟨x1, x2, x3⟩ := h5
      show ρ 113 242 = ρ 34 0 ∧ okC (ρ 113) ∧ _
      unfold okC
      rw [d 242 (by decide), d 243 (by decide), d 244 (by decide), d 241 (by decide)]
      show _ ∧ _ ∧ ((ρ 34 0 = 0 ∧ _) ∨ ((3 ≤ ρ 34 0 ∧ _) ∧ ρ 34 1 = _ ∧ ρ 34 2 = _ ∧ ∀ i, 0 ≤ i → i < ρ 34 0 → ρ 35 i = _ ∧ ρ 36 i = _))
      rw [k 34 (by decide) (by decide) (by decide), k 35 (by decide) (by decide) (by decide), k 36 (by decide) (by decide) (by decide)]
      have n8 := x2.1
      have x1' : σ 113 242 = σ 34 0 := x1
      refine ⟨x1, ⟨x2.1, x2.2.1, x2.2.2.1, fun i i0 i1 => by rw [d _ (by omega), d _ (by omega)]; exact x2.2.2.2 i i0 i1⟩, x3.imp id (fun y => ⟨y.1, y.2.1, y.2.2.1, fun i i0 i1 => by rw [d _ (by omega), d _ (by omega)]; exact y.2.2.2 i i0 i1⟩)⟩
    · have eN : (fun j => ρ 113 (272 + j)) = fun j => if 272 + j = 261 then 0 else σ 113 (272 + j) := by
        funext j
        by_cases c : 272 + j = 261
        · rw [if_pos c, c, d1]
        · rw [if_neg c, d _ c]
      show (ρ 113 270 = 0 ∧ ρ 38 0 = 0) ∨ (ρ 113 270 = 1 ∧ (0 < ρ 38 0 ∧ ρ 38 0 ≤ 39) ∧ ∃ (e : Fm) (N M : Int) (idn : Int → Int), rpC (ρ 39) 0 (ρ 38 0) e 20 ∧ (0 ≤ N ∧ N ≤ 40) ∧ (0 ≤ M ∧ M ≤ 20) ∧ okNd N M (fun j => ρ 113 (272 + j)) ∧ okSy M (ρ 121) ∧ rpM N M (fun j => ρ 113 (272 + j)) (ρ 121) idn (ρ 113 271) e ∧ ∀ w, idn w = fi (fun i => ρ 29 i = w) (ρ 28 6))
      rw [d 270 (by decide), d 271 (by decide), k 38 (by decide) (by decide) (by decide), k 39 (by decide) (by decide) (by decide), k 29 (by decide) (by decide) (by decide), k 28 (by decide) (by decide) (by decide), k 121 (by decide) (by decide) (by decide)]
      refine h7.imp id (fun y => ⟨y.1, y.2.1, ?_⟩)
      obtain ⟨e, N, M, idn, y1, y2, y3, y4, y5, y6, y7⟩ := y.2.2
      have ee : ∀ j, 0 ≤ j → (fun j => ρ 113 (272 + j)) j = (fun j => σ 113 (272 + j)) j := fun j j0 => d _ (by omega)
      refine ⟨e, N, M, idn, y1, y2, y3, ?_, y5, rpM_x y6 (Int.le_refl _) (Int.le_refl _) (fun j j0 _ => ee j j0) (fun _ _ _ => rfl), y7⟩
      intro i a0 a1
      have q := y4 i a0 a1
      rw [ee (4 * i) (by omega), ee (4 * i + 1) (by omega), ee (4 * i + 2) (by omega), ee (4 * i + 3) (by omega)]
      exact q
