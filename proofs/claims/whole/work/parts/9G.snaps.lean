theorem ag_snap {σ : jS} (h : Inv σ) {b : Int} (hb : iR b) : Ag 6 7 miX12_snap miX13_snap [vI b] σ := by
  obtain ⟨k1, k2, k3, k4, k5, k6, k7, k8⟩ := Inv_k h
  have hh := h
  obtain ⟨i1, i2, i3, i4, i5, i6, i7, i8⟩ := h
  have hV := i3.1.1
  refine (c_X12_snap k2 k3 k1 i5.1.2.2 i5.1.2.1 hb).mono (fun r τ q => ?_)
  obtain ⟨q1, q2⟩ := q
  by_cases z : 0 ≤ b ∧ b < σ 30 0
  · obtain ⟨x1, ρ, x2, x3⟩ := q2 z
    refine ⟨_, x1, ?_⟩
    have pM := isPst_n (x2.2.2.1.1 (min (σ 0 6) 7) (by have := i5.1.2.1; omega) (by omega))
    have kr : ∀ c, ¬ c = 0 → ¬ c = 8 → (c < 79 ∨ 111 ≤ c) → ρ c = σ c := fun c g0 g1 g2 => x2.2.2.2.2.2 c g0 g1 (by omega)
    have kt : ∀ c, ¬ c = 0 → ¬ c = 8 → (c < 30 ∨ (34 ≤ c ∧ c < 79) ∨ 111 ≤ c) → τ c = σ c := fun c g0 g1 g2 => by rw [x3.2.2.2.2.2 c (by omega) (by omega) (by omega) (by omega), kr c g0 g1 (by omega)]
    have e113 : τ 113 = σ 113 := kt 113 (by decide) (by decide) (by decide)
    have e118 : τ 118 = σ 118 := kt 118 (by decide) (by decide) (by decide)
    have b1 : b < σ 113 4 := by rw [← k5]; exact z.2
    refine (c_X13_snap (σ := τ) (okN_c k4 e113) (by rw [kt 111 (by decide) (by decide) (by decide), i5.1.1]; exact i5.1.2.1) hb).mono (fun r' ω w => ?_)
    obtain ⟨w1, υ1, w2, w3, w4⟩ := w.2 (by rw [e113]; exact ⟨z.1, b1⟩)
    unfold RMr at w4
    rw [e113, e118] at w4
    have rd : rmD (σ 113) (ω 113) b := ⟨w4.1, w4.2.1⟩
    have pq : pbR ω 30 (σ 113) (ω 113) (ω 118) := by
      have tw : ∀ c, c ≤ 110 → ω c = τ c := fun c hc => by rw [w3 c (by omega) (by omega), w2.1.1 c (by omega) (by simp; omega), ju_off _ _ _ _ _ (by omega)]
      exact rm_pb hV (pb_tb i3) x3 (fun c g1 g2 => tw c (by omega)) (fun c g1 g2 => kr c (by omega) (by omega) (by omega)) rd w4.2.2 z.1 b1
    refine ⟨?_, Inv_ch hh x2 (fun c g1 g2 => x3.2.2.2.2.2 c (by omega) (by omega) (by omega) (by omega)) w2 (fun c g1 g2 => ju_off _ _ _ _ _ g1) (fun j hj => ju_ne (fun q => hj q.2)) w3 (fun j hj => ?_) pq⟩
    · rw [w1]
      refine congrArg (fun z : Int => some (vI z)) ?_
      have ef : freeR τ = freeR σ := by unfold freeR cn rP cn xa ya; rw [e113]
      rw [ef]
      have hd := rmD_h rd z.1
      unfold freeR
      rw [smI_ad (f := fun p => bI (((0 ≤ p % 10 ∧ 0 ≤ p / 10 ∧ p % 10 < σ 113 0 ∧ p / 10 < σ 113 1) ∧ σ 113 (5 + 10 * (p / 10) + p % 10) = 0) ∧ ∀ b, 0 ≤ b → b < σ 113 4 → ¬ (isOnB (cn σ 113 b) (rP σ 113 b) (10 * (p / 10) + p % 10) ∨ encRB 1 (cn σ 113 b) (rP σ 113 b) (p % 10) (p / 10)))) (g := fun p => bI (pkC σ 28 p = 1 ∧ hldB (σ 32 b) (bAt σ 30 b) p ∧ ¬ ∃ c, 0 ≤ c ∧ c < σ 30 0 ∧ ¬ c = b ∧ hldB (σ 32 c) (bAt σ 30 c) p)) (n := 100) ?_]
      · omega
      · intro p p0 p1
        have ep : 10 * (p / 10) + p % 10 = p := by omega
        have hG : (∀ c, 0 ≤ c → c < ω 113 4 → ¬ (isOnB (cn ω 113 c) (rP ω 113 c) (10 * (p / 10) + p % 10) ∨ encRB 1 (cn ω 113 c) (rP ω 113 c) (p % 10) (p / 10))) ↔ ¬ ∃ c, 0 ≤ c ∧ c < σ 30 0 ∧ ¬ c = b ∧ hldB (σ 32 c) (bAt σ 30 c) p := by
          have ec : ∀ c, 0 ≤ c → c < σ 113 4 - 1 → cn ω 113 c = cn σ 113 (sk b c) ∧ rP ω 113 c = rP σ 113 (sk b c) := fun c c0 c1 => by
            have s := sk_b z.1 b1 c0 c1
            exact ⟨rmD_n rd z.1 b1 c0 c1, rmD_P rd z.1 b1 c0 c1 (hV.2.2.2.2.2.2 _ s.1 s.2.1).1⟩
          constructor
          · rintro a ⟨c, c0, c1, c2, c3⟩
            obtain ⟨d, d0, d1, d2⟩ := sk_on z.1 b1 c0 (by omega) c2
            refine a d d0 (by rw [rd.1]; exact d1) (hld_1.mpr ?_)
            rw [(ec d d0 d1).1, (ec d d0 d1).2, d2]
            rw [(k6 c c0 (by omega)).1, (k6 c c0 (by omega)).2] at c3
            exact c3
          · intro a c c0 c1 c2
            rw [rd.1] at c1
            have s := sk_b z.1 b1 c0 c1
            have c3 := hld_1.mp c2
            rw [(ec c c0 c1).1, (ec c c0 c1).2] at c3
            refine a ⟨sk b c, s.1, by omega, s.2.2, ?_⟩
            rw [(k6 _ s.1 s.2.1).1, (k6 _ s.1 s.2.1).2]; exact c3
        have hF : (∀ c, 0 ≤ c → c < σ 113 4 → ¬ (isOnB (cn σ 113 c) (rP σ 113 c) (10 * (p / 10) + p % 10) ∨ encRB 1 (cn σ 113 c) (rP σ 113 c) (p % 10) (p / 10))) ↔ (¬ hldB (σ 32 b) (bAt σ 30 b) p ∧ ¬ ∃ c, 0 ≤ c ∧ c < σ 30 0 ∧ ¬ c = b ∧ hldB (σ 32 c) (bAt σ 30 c) p) := by
          constructor
          · intro a
            refine ⟨fun u => a b z.1 b1 (hld_1.mpr ?_), fun ⟨c, c0, c1, c2, c3⟩ => a c c0 (by omega) (hld_1.mpr ?_)⟩
            · rw [(k6 b z.1 b1).1, (k6 b z.1 b1).2] at u; exact u
            · rw [(k6 c c0 (by omega)).1, (k6 c c0 (by omega)).2] at c3; exact c3
          · rintro ⟨a, a'⟩ c c0 c1 c2
            have c3 := hld_1.mp c2
            rw [← (k6 c c0 c1).1, ← (k6 c c0 c1).2] at c3
            by_cases u : c = b
            · rw [u] at c3; exact a c3
            · exact a' ⟨c, c0, by omega, u, c3⟩
        have hA : pkC σ 28 p = 1 ↔ ((0 ≤ p % 10 ∧ 0 ≤ p / 10 ∧ p % 10 < σ 113 0 ∧ p / 10 < σ 113 1) ∧ σ 113 (5 + 10 * (p / 10) + p % 10) = 0) := by
          rw [k7, (pk_01 k4).2, show 5 + 10 * (p / 10) + p % 10 = 5 + p by omega]
          constructor
          · rintro ⟨a, a'⟩; exact ⟨by omega, a'⟩
          · rintro ⟨a, a'⟩; exact ⟨by omega, a'⟩
        show bI (((0 ≤ p % 10 ∧ 0 ≤ p / 10 ∧ p % 10 < ω 113 0 ∧ p / 10 < ω 113 1) ∧ ω 113 (5 + 10 * (p / 10) + p % 10) = 0) ∧ _) = _
        rw [hd 0 (by decide) (by decide) (by decide), hd 1 (by decide) (by decide) (by decide), hd (5 + 10 * (p / 10) + p % 10) (by omega) (by omega) (by omega)]
        rw [bI_iff (and_congr hA.symm hG), bI_iff (and_congr hA.symm hF)]
        generalize hldB (σ 32 b) (bAt σ 30 b) p = X
        generalize (∃ c, 0 ≤ c ∧ c < σ 30 0 ∧ ¬ c = b ∧ hldB (σ 32 c) (bAt σ 30 c) p) = Y
        generalize (pkC σ 28 p = 1) = A
        by_cases xa : A <;> by_cases xx : X <;> by_cases xy : Y <;> simp [bI, xa, xx, xy]
    · rw [w4.2.1 j (by omega), if_neg (by have := hV.2.2.2.1; omega)]
  · obtain ⟨x1, x2⟩ := q1 z
    refine ⟨_, x1, ?_⟩
    rw [x2]
    refine (c_X13_snap (σ := σ) k4 (by rw [i5.1.1]; exact i5.1.2.1) hb).mono (fun r' ρ w => ?_)
    have y := w.1 (by rw [← k5]; exact z)
    exact ⟨y.1, by rw [y.2]; exact Inv_a hh (agr_ju σ 0)⟩
