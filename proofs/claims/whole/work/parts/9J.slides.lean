theorem ag_slide {σ : jS} (h : Inv σ) {b x y : Int} (hb : iR b) (hx : iR x) (hy : iR y) : Ag 7 9 miX12_slide miX13_slide [vI b, vI x, vI y] σ := by
  obtain ⟨k1, k2, k3, k4, k5, k6, k7, k8⟩ := Inv_k h
  have i5 := h.2.2.2.2.1
  have hV := h.2.2.1.1.1
  refine (c_X12_slide k2 k3 k1 i5.1.2.2 i5.1.2.1 hb hx hy).mono (fun r τ q => ?_)
  obtain ⟨q1, q2⟩ := q
  by_cases z : 0 ≤ b ∧ b < σ 30 0
  · obtain ⟨ρ, x1, x2, x3, x4⟩ := q2 z
    have z' : 0 ≤ b ∧ b < σ 113 4 := by rw [← k5]; exact z
    refine ⟨_, x3, ?_⟩
    have eρ : ∀ c, ¬ c = 6 → ρ c = σ c := fun c hc => x1 c (by simp; omega)
    have hρ : Inv ρ := Inv_a h (same_agr x1 (by decide))
    have et : ∀ c, 111 ≤ c → τ c = σ c := fun c hc => by
      by_cases w : wrF (σ 32 b) (rwP ρ (σ 32 b)) (pkC σ 28) (σ 28 2) (σ 30 0) b (σ 32) (bAt σ 30) = 0
      · obtain ⟨τ1, kp, pt⟩ := x4.2 w
        have pM := isPst_n (kp.2.2.1.1 (min (ρ 0 6) 7) (by have := hρ.2.2.2.2.1.1.2.1; omega) (by omega))
        rw [pt.1 c (by omega) (by omega), kp.2.2.2.2.2 c (by omega) (by omega) (by omega), eρ c (by omega)]
      · rw [x4.1 w, eρ c (by omega)]
    have e113 := et 113 (by omega)
    have hg := (hV.2.2.2.2.2.2 b z'.1 z'.2)
    have n8 := hV.2.2.2.1
    have g1 := hg.1
    have en : σ 32 b = σ 113 (105 + 17 * b) := (k6 b z'.1 z'.2).1
    have vb : vB σ 113 b := k4.2 b z'.1 z'.2
    have ex : ∀ j, 0 ≤ j → j < σ 32 b → ρ 6 j = plG (σ 113 0) (σ 113 1) (xa σ 113 b j + x) (ya σ 113 b j + y) := fun j j0 j1 => by
      have m : j % cn σ 113 b = j := Int.emod_eq_of_lt j0 (show j < σ 113 (105 + 17 * b) by omega)
      rw [x2 j j0 j1, (k6 b z'.1 z'.2).2, rP_x vb, rP_y vb, m, k8.1, k8.2.1]
    refine (c_X13_slide (σ := τ) (okN_c k4 e113) (by rw [et 111 (by omega), i5.1.1]; exact i5.1.2.1) hb hx hy).mono (fun r' ω w => ?_)
    obtain ⟨_, w1, w2⟩ := w
    have exa : ∀ j, xa τ 113 b j = xa σ 113 b j := fun j => by unfold xa; rw [e113]
    have eya : ∀ j, ya τ 113 b j = ya σ 113 b j := fun j => by unfold ya; rw [e113]
    have ecn : cn τ 113 b = σ 113 (105 + 17 * b) := by unfold cn; rw [e113]
    have cc : (∀ j, 0 ≤ j → j < cn τ 113 b → 0 ≤ xa τ 113 b j + x ∧ xa τ 113 b j + x < τ 113 0 ∧ 0 ≤ ya τ 113 b j + y ∧ ya τ 113 b j + y < τ 113 1) ↔ ∀ j, 0 ≤ j → j < σ 113 (105 + 17 * b) → 0 ≤ xa σ 113 b j + x ∧ xa σ 113 b j + x < σ 113 0 ∧ 0 ≤ ya σ 113 b j + y ∧ ya σ 113 b j + y < σ 113 1 := by
      rw [ecn, e113]
      exact ⟨fun g j j0 j1 => by rw [← exa, ← eya]; exact g j j0 j1, fun g j j0 j1 => by rw [exa, eya]; exact g j j0 j1⟩
    by_cases al : ∀ j, 0 ≤ j → j < σ 113 (105 + 17 * b) → 0 ≤ xa σ 113 b j + x ∧ xa σ 113 b j + x < σ 113 0 ∧ 0 ≤ ya σ 113 b j + y ∧ ya σ 113 b j + y < σ 113 1
    · obtain ⟨υ, y1, y2, y3, y4, y5, y6⟩ := w2 (by rw [e113]; exact z') (cc.mpr al)
      rw [e113] at y3
      have y4' : ∀ c, 0 ≤ c → c < σ 113 (105 + 17 * b) → υ 114 (105 + 17 * b + 1 + 2 * c) = xa σ 113 b c + x ∧ υ 114 (105 + 17 * b + 2 + 2 * c) = ya σ 113 b c + y := fun c c0 c1 => by
        have q := y4 c c0 (by rw [ecn]; exact c1)
        rw [exa, eya] at q; exact q
      have c : chB (σ 113) (υ 114) b := by
        refine ⟨y3, fun c c0 c1 => ?_⟩
        have a := al c c0 c1
        rw [(y4' c c0 c1).1, (y4' c c0 c1).2]
        exact ⟨⟨a.1, a.2.1⟩, a.2.2.1, a.2.2.2⟩
      have h6 : ∀ j, 0 ≤ j → j < σ 32 b → ρ 6 j = 10 * υ 114 (105 + 17 * b + 2 + 2 * j) + υ 114 (105 + 17 * b + 1 + 2 * j) := fun j j0 j1 => by
        have a := al j j0 (by omega)
        rw [ex j j0 j1, (y4' j j0 (by omega)).1, (y4' j j0 (by omega)).2]
        unfold plG
        exact if_pos ⟨a.1, a.2.2.1, a.2.1, a.2.2.2⟩
      have ew := ch_wr (ρ := ρ) h z'.1 z'.2 c h6
      refine ⟨by rw [y5, ew], ?_⟩
      rw [ew] at x4
      have e32 : ρ 32 = σ 32 := eρ 32 (by decide)
      have r113 : ρ 113 = σ 113 := eρ 113 (by decide)
      exact ch_Inv hρ z'.1 (by rw [r113]; exact z'.2) (by rw [e32]; exact h6) (by rw [e32]; exact x4) y1 (by rw [r113]; exact c) y6 (fun w0 => wrF0 w0)
    · obtain ⟨y1, y2, y3⟩ := w1 (by rw [e113]; exact z') (fun g => al (cc.mp g))
      have w1' : wrA (σ 32 b) (rwP ρ (σ 32 b)) (pkC σ 28) = 1 := by
        refine wrA_1 ?_
        refine Classical.byContradiction fun ne => al fun j j0 j1 => ?_
        have m : j % σ 32 b = j := Int.emod_eq_of_lt j0 (by omega)
        refine Classical.byContradiction fun nb => ne ?_
        have e : rwP ρ (σ 32 b) j = -1 := by
          unfold rwP
          rw [m, ex j j0 (by omega)]
          unfold plG
          exact if_neg (fun g => nb ⟨g.1, g.2.2.1, g.2.1, g.2.2.2⟩)
        refine ⟨j, ⟨j0, by omega⟩, ?_⟩
        rw [e, k7]
        unfold pkR
        rw [if_neg (by omega)]
        decide
      have w1 : wrF (σ 32 b) (rwP ρ (σ 32 b)) (pkC σ 28) (σ 28 2) (σ 30 0) b (σ 32) (bAt σ 30) = 1 := by
        unfold wrF
        rw [bite_t (by rw [w1']; decide), w1']
      rw [w1] at x4 ⊢
      refine ⟨y1, ?_⟩
      rw [x4.1 (by decide)] at y2
      exact Inv_a hρ (mdT_agr y2 (by decide) (by decide))
  · obtain ⟨x1, x2⟩ := q1 z
    refine ⟨_, x1, ?_⟩
    rw [x2]
    refine (c_X13_slide (σ := σ) k4 (by rw [i5.1.1]; exact i5.1.2.1) hb hx hy).mono (fun r' ρ w => ?_)
    have y := w.1 (by rw [← k5]; exact z)
    exact ⟨y.1, by rw [y.2]; exact Inv_a h (agr_ju σ 0)⟩
