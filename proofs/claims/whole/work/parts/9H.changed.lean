/-! ===== a band changed ===== -/
/-- one band's corners anew, all on the board -/
def chB (D E : Int → Int) (b : Int) : Prop := (∀ j, 0 ≤ j → j < 241 → (j < 105 + 17 * b + 1 ∨ 105 + 17 * b + 17 ≤ j) → E j = D j) ∧ ∀ c, 0 ≤ c → c < D (105 + 17 * b) → (0 ≤ E (105 + 17 * b + 1 + 2 * c) ∧ E (105 + 17 * b + 1 + 2 * c) < D 0) ∧ (0 ≤ E (105 + 17 * b + 2 + 2 * c) ∧ E (105 + 17 * b + 2 + 2 * c) < D 1)
theorem chB_h {D E : Int → Int} {b : Int} (h : chB D E b) (b0 : 0 ≤ b) : ∀ j, 0 ≤ j → j < 105 → E j = D j := fun j j0 j1 => h.1 j j0 (by omega) (by omega)
theorem chB_P {D : Int → Int} {υ : jS} {b : Int} (h : chB D (υ 114) b) (b0 : 0 ≤ b) (b1 : b < 8) (hn : 3 ≤ D (105 + 17 * b)) : cP υ 114 b = rP υ 114 b := by
  funext i
  have e : cn υ 114 b = D (105 + 17 * b) := h.1 _ (by omega) (by omega) (by omega)
  unfold cP rP
  have a0 := Int.emod_nonneg i (show D (105 + 17 * b) ≠ 0 by omega)
  have a1 := Int.emod_lt_of_pos i (show 0 < D (105 + 17 * b) by omega)
  rw [e]
  have q := h.2 (i % D (105 + 17 * b)) a0 a1
  unfold plc
  rw [h.1 0 (by decide) (by decide) (by omega), h.1 1 (by decide) (by decide) (by omega)]
  exact if_pos ⟨q.1.1, q.2.1, q.1.2, q.2.2⟩
theorem ch_wr {σ ρ υ : jS} {b : Int} (h : Inv σ) (b0 : 0 ≤ b) (b1 : b < σ 113 4) (c : chB (σ 113) (υ 114) b) (h6 : ∀ j, 0 ≤ j → j < σ 32 b → ρ 6 j = 10 * υ 114 (105 + 17 * b + 2 + 2 * j) + υ 114 (105 + 17 * b + 1 + 2 * j)) : wrF (σ 32 b) (rwP ρ (σ 32 b)) (pkC σ 28) (σ 28 2) (σ 30 0) b (σ 32) (bAt σ 30) = wrF (cn υ 114 b) (cP υ 114 b) (pkR υ 114) (υ 114 2) (υ 114 4) b (cn υ 114) (rP υ 114) := by
  obtain ⟨k1, k2, k3, k4, k5, k6, k7, k8⟩ := Inv_k h
  have hV := h.2.2.1.1.1
  have n8 := hV.2.2.2.1
  have g := (hV.2.2.2.2.2.2 b b0 b1).1
  have hd := chB_h c b0
  have eD : σ 32 b = σ 113 (105 + 17 * b) := (k6 b b0 b1).1
  have en : cn υ 114 b = σ 32 b := by rw [eD]; exact c.1 _ (by omega) (by omega) (by omega)
  have eP : rwP ρ (σ 32 b) = cP υ 114 b := by
    rw [chB_P c b0 (by omega) g.1]
    funext i
    have a0 := Int.emod_nonneg i (show σ 32 b ≠ 0 by omega)
    have a1 := Int.emod_lt_of_pos i (show 0 < σ 32 b by omega)
    unfold rwP rP
    rw [en]
    exact h6 _ a0 a1
  have ek : pkR υ 114 = pkC σ 28 := by
    rw [k7]; exact pkR_h hV (fun j j0 j1 _ => hd j j0 j1)
  rw [ek, ← eP, en, hd 2 (by decide) (by decide), hd 4 (by decide) (by decide), k8.2.2.1, k5]
  refine wrF_c (E5_c (fun o _ _ => Iff.rfl) (fun o o0 o1 ob => ?_) (fun o o0 o1 ob => ?_))
  · rw [(k6 o o0 o1).1]
    exact c.1 _ (by omega) (by omega) (by omega)
  · have g' := (hV.2.2.2.2.2.2 o o0 o1).1
    rw [(k6 o o0 o1).2]
    exact rP_c (E := υ 114) (D := σ 113) (by omega) (fun j j0 j1 => c.1 j (by omega) (by omega) (by omega))
theorem wrF0 {n : Int} {P pk : Int → Int} {bell m x : Int} {N : Int → Int} {Q : Int → Int → Int} (h : wrF n P pk bell m x N Q = 0) : wrA n P pk = 0 := by
  unfold wrF at h
  by_cases z : wrA n P pk = 0
  · exact z
  · rw [bite_t z] at h; exact h
theorem ch_pb {σ τ1 τ υ ω : jS} {b : Int} (h : Inv σ) (b0 : 0 ≤ b) (b1 : b < σ 113 4) (c : chB (σ 113) (υ 114) b) (pt : PT τ1 τ 30 b (σ 32 b)) (t1 : ∀ x, 28 ≤ x → x ≤ 33 → τ1 x = σ x) (kw : ∀ x, 28 ≤ x → x ≤ 33 → ω x = τ x) (h6 : ∀ j, 0 ≤ j → j < σ 32 b → τ1 6 j = 10 * υ 114 (105 + 17 * b + 2 + 2 * j) + υ 114 (105 + 17 * b + 1 + 2 * j)) (eF : ∀ j, 0 ≤ j → j < 241 → ω 113 j = υ 114 j) (e118 : ω 118 = σ 118) (w : wrA (cn υ 114 b) (cP υ 114 b) (pkR υ 114) = 0) : pbR ω 30 (σ 113) (ω 113) (ω 118) := by
  have k6 := (Inv_k h).2.2.2.2.2.1
  obtain ⟨⟨hV, _⟩, p2, p3, p4, p5, p6⟩ := pb_tb h.2.2.1
  have n8 := hV.2.2.2.1
  have h01 := hV.1
  have g := (hV.2.2.2.2.2.2 b b0 b1).1
  have hd := chB_h c b0
  have eD : σ 32 b = σ 113 (105 + 17 * b) := (k6 b b0 b1).1
  have eN : υ 114 (105 + 17 * b) = σ 113 (105 + 17 * b) := c.1 _ (by omega) (by omega) (by omega)
  rw [chB_P c b0 (by omega) g.1] at w
  have vE : okV (υ 114) := by
    refine okV_b hV (fun j j0 j1 _ => hd j j0 j1) (by rw [hd 4 (by decide) (by decide)]; exact n8) (fun x x0 x1 => ?_)
    rw [hd 4 (by decide) (by decide)] at x1
    by_cases xb : x = b
    · subst xb
      exact ⟨by rw [eN]; exact g, fun i i0 i1 => by rw [eN] at i1; rw [hd 0 (by decide) (by decide), hd 1 (by decide) (by decide)]; exact c.2 i i0 i1, w⟩
    · exact gB_c (hd 0 (by decide) (by decide)) (hd 1 (by decide) (by decide)) (by omega) (by omega) (fun p q0 q1 => hd _ (by omega) (by omega)) (fun j j0 j1 => c.1 j (by omega) (by omega) (by omega)) (hV.2.2.2.2.2.2 x x0 x1)
  obtain ⟨r1, r2, r3, r4, r5⟩ := pt
  have w28 : ω 28 = σ 28 := by rw [kw 28 (by omega) (by omega), r1 28 (by decide) (by decide), t1 28 (by omega) (by omega)]
  have w29 : ω 29 = σ 29 := by rw [kw 29 (by omega) (by omega), r1 29 (by decide) (by decide), t1 29 (by omega) (by omega)]
  have w30 : ω 30 = σ 30 := by rw [kw 30 (by omega) (by omega), r1 30 (by decide) (by decide), t1 30 (by omega) (by omega)]
  have w31 : ω 31 = σ 31 := by rw [kw 31 (by omega) (by omega), r1 31 (by decide) (by decide), t1 31 (by omega) (by omega)]
  have w32 : ∀ j, ¬ j = b → ω 32 j = σ 32 j := fun j hj => by rw [kw 32 (by omega) (by omega), show τ 32 j = τ1 32 j from r2 j hj, t1 32 (by omega) (by omega)]
  have w32b : ω 32 b = σ 32 b := by rw [kw 32 (by omega) (by omega)]; exact r3
  have w33 : ∀ j, (j < b * 8 ∨ b * 8 + σ 32 b ≤ j) → ω 33 j = σ 33 j := fun j hj => by rw [kw 33 (by omega) (by omega), show τ 33 j = τ1 33 j from r5 j hj, t1 33 (by omega) (by omega)]
  have w33b : ∀ j, 0 ≤ j → j < σ 32 b → ω 33 (b * 8 + j) = 10 * υ 114 (105 + 17 * b + 2 + 2 * j) + υ 114 (105 + 17 * b + 1 + 2 * j) := fun j j0 j1 => by rw [kw 33 (by omega) (by omega), show τ 33 (b * 8 + j) = τ1 6 j from r4 j j0 j1, h6 j j0 j1]
  have e4 : ω 113 4 = σ 113 4 := by rw [eF 4 (by decide) (by decide), hd 4 (by decide) (by decide)]
  refine ⟨⟨okV_x vE eF, fun j j0 j1 _ => by rw [eF j j0 (by omega), hd j j0 j1]⟩, ⟨by rw [w30]; exact p2.1, fun j j0 j1 => ?_, fun j j0 j1 => ?_, fun j j0 j1 => ?_⟩, by rw [w30, p3, e4], fun x x0 x1 => ?_, fun x x0 x1 => ?_, fun j j0 j1 => by rw [e118]; exact p6 j j0 j1⟩
  · show 0 ≤ ω 32 j ∧ ω 32 j ≤ 8
    by_cases q : j = b
    · rw [q, w32b]; omega
    · rw [w32 j q]; exact p2.2.1 j j0 j1
  · show isPg (ω 33 j)
    by_cases q : j < b * 8 ∨ b * 8 + σ 32 b ≤ j
    · rw [w33 j q]; exact p2.2.2.1 j j0 j1
    · have v := w33b (j - b * 8) (by omega) (by omega)
      have u := c.2 (j - b * 8) (by omega) (by omega)
      rw [show b * 8 + (j - b * 8) = j by omega] at v
      rw [v]
      unfold isPg
      omega
  · show -1 ≤ ω 31 j ∧ ω 31 j ≤ 7
    rw [w31]; exact p2.2.2.2 j j0 j1
  · rw [e4] at x1
    have gx := (hV.2.2.2.2.2.2 x x0 x1).1
    have en : ω 113 (105 + 17 * x) = σ 113 (105 + 17 * x) := by
      rw [eF _ (by omega) (by omega)]
      by_cases xb : x = b
      · rw [xb]; exact eN
      · exact c.1 _ (by omega) (by omega) (by omega)
    show ω 32 x = _ ∧ ∀ i, 0 ≤ i → i < ω 113 (105 + 17 * x) → ω 33 (x * 8 + i) = _
    rw [en]
    by_cases xb : x = b
    · subst xb
      refine ⟨by rw [w32b, eD], fun i i0 i1 => ?_⟩
      rw [w33b i i0 (by omega), eF _ (by omega) (by omega), eF _ (by omega) (by omega)]
    · have q := p4 x x0 x1
      refine ⟨by rw [w32 x xb]; exact q.1, fun i i0 i1 => ?_⟩
      rw [w33 _ (by omega), eF _ (by omega) (by omega), eF _ (by omega) (by omega), c.1 _ (by omega) (by omega) (by omega), c.1 _ (by omega) (by omega) (by omega)]
      exact q.2 i i0 i1
  · rw [e4] at x1
    show (ω 31 x = -1 ∧ ω 118 x = 0) ∨ ((0 ≤ ω 31 x ∧ ω 31 x < ω 28 6) ∧ ω 118 x = ω 29 (ω 31 x))
    rw [w31, w28, w29, e118]; exact p5 x x0 x1
