theorem cl_k {σ : jS} (h : Inv σ) : cB 8 (σ 34 0) ∧ (∀ i, 0 ≤ i → i < σ 34 0 → (-9 ≤ σ 35 i ∧ σ 35 i ≤ 9) ∧ (-9 ≤ σ 36 i ∧ σ 36 i ≤ 9)) ∧ (¬ σ 34 0 = 0 → cB 9 (σ 34 1) ∧ cB 9 (σ 34 2)) ∧ (¬ σ 34 0 = 0 → 3 ≤ σ 34 0) ∧ okC (σ 113) ∧ cB 1 (σ 113 241) ∧ (¬ σ 113 241 = 0 → 3 ≤ σ 113 242) ∧ (σ 34 0 = 0 ↔ σ 113 241 = 0) ∧ σ 113 242 = σ 34 0 := by
  obtain ⟨c1, c2, c3⟩ := h.2.2.1.2.2.1
  have c1 : σ 113 242 = σ 34 0 := c1
  have m8 := c2.1
  rcases c3 with q | q
  · have q0 : σ 34 0 = 0 := q.1
    have q1 := q.2
    refine ⟨by omega, fun i i0 i1 => by omega, fun z => absurd q0 z, fun z => absurd q0 z, c2, by rw [q1]; decide, fun z => absurd q1 z, ⟨fun _ => q1, fun _ => q0⟩, c1⟩
  · obtain ⟨⟨d0, d0'⟩, d1, d2, d3⟩ := q
    have d0 : 3 ≤ σ 34 0 := d0
    have d1 : σ 34 1 = σ 113 243 := d1
    have d2 : σ 34 2 = σ 113 244 := d2
    have d3 : ∀ i, 0 ≤ i → i < σ 34 0 → σ 35 i = σ 113 (245 + 2 * i) ∧ σ 36 i = σ 113 (246 + 2 * i) := d3
    refine ⟨by omega, fun i i0 i1 => by rw [(d3 i i0 i1).1, (d3 i i0 i1).2]; exact c2.2.2.2 i i0 (by omega), fun _ => by rw [d1, d2]; exact ⟨c2.2.1, c2.2.2.1⟩, fun _ => d0, c2, by rw [d0']; decide, fun _ => by omega, ⟨fun z => by omega, fun z => by omega⟩, c1⟩
theorem ag_lay {σ : jS} (h : Inv σ) : Ag 6 8 miX12_lay miX13_lay [] σ := by
  obtain ⟨k1, k2, k3, k4, k5, k6, k7, k8⟩ := Inv_k h
  obtain ⟨l1, l2, l3, l4, l5, l6, l7, l8, l9⟩ := cl_k h
  have i5 := h.2.2.2.2.1
  have hV := h.2.2.1.1.1
  refine (c_X12_lay l1 l2 l3 k1 k2 i5.1.2.2 i5.1.2.1 l4).mono (fun r τ q => ?_)
  obtain ⟨q1, q2, q3⟩ := q
  by_cases z : σ 34 0 = 0
  · obtain ⟨x1, x2⟩ := q1 z
    refine ⟨_, x1, ?_⟩
    rw [x2]
    refine (c_X13_lay (σ := σ) k4 (by rw [i5.1.1]; exact i5.1.2.1) l5 l6 l7).mono (fun r' ρ w => ?_)
    have y := w.1 (l8.mp z)
    exact ⟨y.1, by rw [y.2]; exact Inv_a h (agr_ju σ 0)⟩
  have zr : ¬ σ 113 241 = 0 := fun g => z (l8.mpr g)
  have sm := sm_call h z
  by_cases y : smI (σ 35) (σ 34 0) = 0 ∧ smI (σ 36) (σ 34 0) = 0
  · have yr := y
    rw [sm.1, sm.2] at yr
    obtain ⟨ρ, x1, x2, x3, x4⟩ := q3 z y
    have n3 := l4 z
    have m8 := hV.2.2.2.1
    have eρ : ∀ c, ¬ c = 6 → ρ c = σ c := fun c hc => x1 c (by simp; omega)
    have hρ : Inv ρ := Inv_a h (same_agr x1 (by decide))
    have r113 : ρ 113 = σ 113 := eρ 113 (by decide)
    have ly : ∀ c, c ≤ σ 34 0 → lyP σ (-1) c = lyR σ (-1) 0 0 c := fun c hc => ly_eq h z hc (by unfold wkZ; exact if_pos rfl) (by unfold wkZ; exact if_pos rfl)
    have eP : (fun c => lyR σ (-1) 0 0 (c % σ 113 242)) = fun c => lyP σ (-1) (c % σ 34 0) := by
      funext c
      rw [l9]
      exact (ly _ (Int.le_of_lt (Int.emod_lt_of_pos _ (by omega)))).symm
    have eW : wrF (σ 113 242) (fun c => lyR σ (-1) 0 0 (c % σ 113 242)) (pkR σ 113) (σ 113 2) (σ 113 4) (σ 113 4) (cn σ 113) (rP σ 113) = wrF (σ 34 0) (fun c => lyP σ (-1) (c % σ 34 0)) (pkC σ 28) (σ 28 2) (σ 30 0) (-1) (σ 32) (bAt σ 30) := by
      rw [eP, l9, k7, k8.2.2.1, k5]
      refine wrF_c (E5_c (fun o o0 o1 => ⟨fun _ => by omega, fun _ => by omega⟩) (fun o o0 o1 ob => (k6 o o0 o1).1) (fun o o0 o1 ob => (k6 o o0 o1).2))
    have go : ∀ v, r = some (vI v) → (∀ c, 111 ≤ c → τ c = σ c) → (∀ r' ω, (¬ wrF (σ 113 242) (fun c => lyR σ (-1) 0 0 (c % σ 113 242)) (pkR σ 113) (σ 113 2) (σ 113 4) (σ 113 4) (cn σ 113) (rP σ 113) = 0 → r' = some (vI (wrF (σ 113 242) (fun c => lyR σ (-1) 0 0 (c % σ 113 242)) (pkR σ 113) (σ 113 2) (σ 113 4) (σ 113 4) (cn σ 113) (rP σ 113))) ∧ ∃ υ, mdT [0] [114] τ υ ∧ ω = υ) → (wrF (σ 113 242) (fun c => lyR σ (-1) 0 0 (c % σ 113 242)) (pkR σ 113) (σ 113 2) (σ 113 4) (σ 113 4) (cn σ 113) (rP σ 113) = 0 → (σ 113 4 = 8 → r' = some (vI 7) ∧ ∃ υ, mdT [0] [114] τ υ ∧ ω = υ) ∧ (¬ σ 113 4 = 8 → r' = some (vI 0) ∧ ∃ υ, mdT [0] [114] τ υ ∧ (∀ j, 0 ≤ j → j < 241 → (j < 105 + 17 * σ 113 4 ∨ 105 + 17 * σ 113 4 + 17 ≤ j) → υ 114 j = σ 113 j) ∧ υ 114 (105 + 17 * σ 113 4) = σ 113 242 ∧ (∀ c, 0 ≤ c → c < σ 113 242 → υ 114 (105 + 17 * σ 113 4 + 1 + 2 * c) = σ 113 243 + wkS (fun q => σ 113 (245 + 2 * q)) (-1) 0 c ∧ υ 114 (105 + 17 * σ 113 4 + 2 + 2 * c) = σ 113 244 + wkS (fun q => σ 113 (246 + 2 * q)) (-1) 0 c) ∧ ∃ υ2, SS υ υ2 ∧ (∀ c, ¬ c = 113 → ¬ c = 118 → ω c = υ2 c) ∧ ω 113 4 = σ 113 4 + 1 ∧ (∀ j, 0 ≤ j → j < 241 → ¬ j = 4 → ω 113 j = υ 114 j) ∧ (∀ j, 241 ≤ j → ω 113 j = σ 113 j) ∧ ω 118 (σ 113 4) = 0 ∧ ∀ j, ¬ j = σ 113 4 → ω 118 j = σ 118 j)) → r' = some (vI v) ∧ Inv ω) → ∃ v, r = some (vI v) ∧ Jm 8 miX13_lay [.ref 111] τ (fun r' ρ => r' = some (vI v) ∧ Inv ρ) := fun v hv et hf => by
      refine ⟨v, hv, ?_⟩
      have e113 := et 113 (by omega)
      refine (c_X13_lay (σ := τ) (okN_c k4 e113) (by rw [et 111 (by omega), i5.1.1]; exact i5.1.2.1) (by rw [e113]; exact l5) (by rw [e113]; exact l6) (by rw [e113]; exact l7)).mono (fun r' ω w => ?_)
      have w3 := w.2.2
      unfold lyR pkR cn rP xa ya cn at w3
      rw [e113, et 118 (by omega)] at w3
      obtain ⟨υ, u1, u2, u3, u4, u5, u6, u7⟩ := w3 zr yr
      refine hf r' ω (fun g => ?_) (fun g => ⟨fun g8 => ?_, fun g8 => ?_⟩)
      · have a := u6 g
        exact ⟨a.1, υ, u1, a.2⟩
      · have a := (u7 g).1 g8
        exact ⟨a.1, υ, u1, a.2⟩
      · have a := (u7 g).2 g8
        exact ⟨a.1, υ, u1, u3, u4, u5, a.2⟩
    by_cases w0 : wrF (σ 34 0) (fun c => lyP σ (-1) (c % σ 34 0)) (pkC σ 28) (σ 28 2) (σ 30 0) (-1) (σ 32) (bAt σ 30) = 0
    · obtain ⟨y1, y2⟩ := x4 w0
      by_cases c8 : σ 30 0 = 8
      · obtain ⟨v1, v2⟩ := y1 c8
        refine go _ v1 (fun c hc => by rw [v2]; exact eρ c (by omega)) (fun r' ω f1 f2 => ?_)
        obtain ⟨f3, υ, f4, f5⟩ := (f2 (by rw [eW]; exact w0)).1 (by rw [← k5]; exact c8)
        refine ⟨f3, ?_⟩
        rw [f5]
        rw [v2] at f4
        exact Inv_a hρ (mdT_agr f4 (by decide) (by decide))
      · obtain ⟨v1, ρ2, kp, ad⟩ := y2 c8
        have pM := isPst_n (kp.2.2.1.1 (min (ρ 0 6) 7) (by have := hρ.2.2.2.2.1.1.2.1; omega) (by omega))
        have kr : ∀ c, ¬ c = 0 → ¬ c = 8 → (c < 79 ∨ 111 ≤ c) → ρ2 c = ρ c := fun c g0 g1 g2 => kp.2.2.2.2.2 c g0 g1 (by omega)
        have ta : ∀ c, (c < 30 ∨ 34 ≤ c) → τ c = ρ2 c := fun c hc => ad.1 c (by omega) (by omega) (by omega) (by omega)
        have et : ∀ c, 111 ≤ c → τ c = σ c := fun c hc => by rw [ta c (by omega), kr c (by omega) (by omega) (by omega), eρ c (by omega)]
        refine go _ v1 et (fun r' ω f1 f2 => ?_)
        obtain ⟨f3, υ, f4, f5, f6, f7, υ2, f8, f9, f10, f11, f12, f13, f14⟩ := (f2 (by rw [eW]; exact w0)).2 (by rw [← k5]; exact c8)
        refine ⟨f3, ?_⟩
        have wa := wrF0 w0
        have M8 : ¬ σ 113 4 = 8 := by rw [← k5]; exact c8
        have fx : ∀ c, 0 ≤ c → c < σ 34 0 → ω 113 (105 + 17 * σ 113 4 + 1 + 2 * c) = σ 113 243 + wkS (fun q => σ 113 (245 + 2 * q)) (-1) 0 c ∧ ω 113 (105 + 17 * σ 113 4 + 2 + 2 * c) = σ 113 244 + wkS (fun q => σ 113 (246 + 2 * q)) (-1) 0 c := fun c c0 c1 => by
          rw [f11 _ (by omega) (by omega) (by omega), f11 _ (by omega) (by omega) (by omega)]
          exact f7 c c0 (by omega)
        have inb : ∀ c, 0 ≤ c → c < σ 34 0 → ((0 ≤ ω 113 (105 + 17 * σ 113 4 + 1 + 2 * c) ∧ ω 113 (105 + 17 * σ 113 4 + 1 + 2 * c) < σ 113 0) ∧ (0 ≤ ω 113 (105 + 17 * σ 113 4 + 2 + 2 * c) ∧ ω 113 (105 + 17 * σ 113 4 + 2 + 2 * c) < σ 113 1)) ∧ lyP σ (-1) c = 10 * ω 113 (105 + 17 * σ 113 4 + 2 + 2 * c) + ω 113 (105 + 17 * σ 113 4 + 1 + 2 * c) := fun c c0 c1 => by
          have e := (wrA0 wa).1
          have m : c % σ 34 0 = c := Int.emod_eq_of_lt c0 c1
          have p1 : pkC σ 28 (lyP σ (-1) c) = 1 := Classical.byContradiction fun g => e ⟨c, ⟨c0, c1⟩, by show ¬ pkC σ 28 (lyP σ (-1) (c % σ 34 0)) = 1; rw [m]; exact g⟩
          rw [ly c (by omega)] at p1 ⊢
          unfold lyR at p1 ⊢
          rw [← (fx c c0 c1).1, ← (fx c c0 c1).2] at p1 ⊢
          by_cases g : 0 ≤ ω 113 (105 + 17 * σ 113 4 + 1 + 2 * c) ∧ 0 ≤ ω 113 (105 + 17 * σ 113 4 + 2 + 2 * c) ∧ ω 113 (105 + 17 * σ 113 4 + 1 + 2 * c) < σ 113 0 ∧ ω 113 (105 + 17 * σ 113 4 + 2 + 2 * c) < σ 113 1
          · exact ⟨⟨⟨g.1, g.2.2.1⟩, g.2.1, g.2.2.2⟩, by unfold plG; exact if_pos g⟩
          · unfold plG at p1
            rw [if_neg g, k7] at p1
            unfold pkR at p1
            rw [if_neg (by omega)] at p1
            omega
        have uw : ∀ c, ¬ c = 111 → ¬ c = 113 → ¬ c = 114 → ¬ c = 117 → ¬ c = 118 → ¬ c = 120 → ω c = τ c := fun c g1 g2 g3 g4 g5 g6 => by rw [f9 c g2 g5, f8.1.1 c g1 (by simp; omega), f4.1 c g1 (by simp; omega)]
        have pb := ad_pb (σ := σ) (τ1 := ρ2) (τ := τ) (ω := ω) (n := σ 34 0) h M8 ⟨n3, l1.2⟩ ad (fun x g1 g2 => by rw [kr x (by omega) (by omega) (by omega), eρ x (by omega)]) (fun x g1 g2 => uw x (by omega) (by omega) (by omega) (by omega) (by omega) (by omega)) (fun j j0 j1 => by rw [kr 6 (by decide) (by decide) (by decide), x2 j j0 j1, (inb j j0 j1).2]) (fun j j0 j1 => (inb j j0 j1).1) (fun j j0 j1 j4 hj => by rw [f11 j j0 j1 j4, f5 j j0 j1 hj]) f10 (by rw [f11 _ (by omega) (by omega) (by omega), f6, l9]) f13 f14 (by
          have e : (fun c => lyP σ (-1) (c % σ 34 0)) = fun c => 10 * ω 113 (105 + 17 * σ 113 4 + 2 + 2 * (c % σ 34 0)) + ω 113 (105 + 17 * σ 113 4 + 1 + 2 * (c % σ 34 0)) := by
            funext c
            exact (inb _ (Int.emod_nonneg _ (by omega)) (Int.emod_lt_of_pos _ (by omega))).2
          rw [e] at wa; exact wa)
        rw [← r113] at pb
        exact Inv_ch hρ kp (fun c g1 g2 => ta c g1) f8 (fun c g1 g2 => f4.1 c g1 (by simp; omega)) (fun j hj => f4.2 j (by simp; omega)) f9 (fun j hj => by rw [f12 j hj, r113]) pb
    · obtain ⟨v1, v2⟩ := x3 w0
      refine go _ v1 (fun c hc => by rw [v2]; exact eρ c (by omega)) (fun r' ω f1 f2 => ?_)
      obtain ⟨f3, υ, f4, f5⟩ := f1 (by rw [eW]; exact w0)
      refine ⟨by rw [f3, eW], ?_⟩
      rw [f5]
      rw [v2] at f4
      exact Inv_a hρ (mdT_agr f4 (by decide) (by decide))
  · have yr := y
    rw [sm.1, sm.2] at yr
    obtain ⟨x1, x2⟩ := q2 z y
    refine ⟨_, x1, ?_⟩
    rw [x2]
    refine (c_X13_lay (σ := σ) k4 (by rw [i5.1.1]; exact i5.1.2.1) l5 l6 l7).mono (fun r' ρ w => ?_)
    have v := w.2.1 zr yr
    exact ⟨v.1, by rw [v.2]; exact Inv_a h (agr_ju σ 0)⟩
