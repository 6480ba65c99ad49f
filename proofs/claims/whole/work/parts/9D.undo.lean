/-! ===== undo ===== -/
theorem okB_k {σ τ : jS} {K B : Nat} (h : okB σ B) (c : cpB σ τ K B) : okB τ K := by
  obtain ⟨c1, c2, c3, c4⟩ := c
  refine ⟨by rw [c1]; exact h.1, fun b b0 b1 => by rw [c3 b b0 b1]; exact h.2.1 b b0 b1, fun j j0 j1 => by rw [c4 j j0 j1]; exact h.2.2.1 j j0 j1, fun j j0 j1 => by rw [c2 j j0 j1]; exact h.2.2.2 j j0 j1⟩
theorem pbR_cp {σ τ : jS} {K B : Nat} {H H' E E' N N' : Int → Int} (h : pbR σ B H E N) (c : cpB σ τ K B) (e29 : τ 29 = σ 29) (e28 : τ 28 6 = σ 28 6) (eH : ∀ j, 0 ≤ j → j < 105 → ¬ j = 4 → H' j = H j) (eE : ∀ j, 0 ≤ j → j < 241 → E' j = E j) (eN : ∀ j, 0 ≤ j → j < 8 → N' j = N j) : pbR τ K H' E' N' := by
  obtain ⟨⟨h1, h1'⟩, h2, h3, h4, h5, h6⟩ := h
  have h2' := okB_k h2 c
  obtain ⟨c1, c2, c3, c4⟩ := c
  have n8 := h1.2.2.2.1
  have e4 := eE 4 (by decide) (by decide)
  refine ⟨⟨okV_x h1 eE, fun j j0 j1 j4 => by rw [eE j j0 (by omega), h1' j j0 j1 j4, eH j j0 j1 j4]⟩, h2', by rw [c1, h3, e4], ?_, ?_, fun j j0 j1 => by rw [eN j j0 j1]; exact h6 j j0 j1⟩
  · intro b b0 b1
    rw [e4] at b1
    have g := (h1.2.2.2.2.2.2 b b0 b1).1
    have q := h4 b b0 b1
    have e := eE (105 + 17 * b) (by omega) (by omega)
    refine ⟨by rw [c3 b b0 (by omega), q.1, e], fun i i0 i1 => ?_⟩
    rw [e] at i1
    rw [c4 _ (by omega) (by omega), q.2 i i0 i1, eE _ (by omega) (by omega), eE _ (by omega) (by omega)]
  · intro b b0 b1
    rw [e4] at b1
    rw [e29, e28, c2 b b0 (by omega), eN b b0 (by omega)]; exact h5 b b0 b1
theorem liR_x {σ : jS} {T : Nat} {D E : Int → Int} (h : liR σ T D) (hV : okV D) (e : ∀ j, 0 ≤ j → j < 105 → ¬ j = 4 → E j = D j) (hi : ∀ j, 241 ≤ j → j < 270 → E j = D j) : liR σ T E := by
  obtain ⟨l1, l2, l3⟩ := h
  have e261 := hi 261 (by decide) (by decide)
  have pe : pkD E = pkD D := by
    funext p
    unfold pkD
    rw [e 0 (by decide) (by decide) (by decide), e 1 (by decide) (by decide) (by decide)]
    split
    · rename_i hp
      have := hV.1
      rw [e (5 + p) (by omega) (by omega) (by omega)]
    · rfl
  have m4 := l2.1
  refine ⟨by rw [e261]; exact l1, ⟨by rw [e261]; exact m4, fun x x0 x1 => by rw [e261] at x1; rw [pe, hi _ (by omega) (by omega)]; exact l2.2.1 x x0 x1, fun x y x0 xy y1 => by rw [e261] at y1; rw [hi _ (by omega) (by omega), hi _ (by omega) (by omega)]; exact l2.2.2 x y x0 xy y1⟩, fun x x0 x1 => ?_⟩
  rw [e261] at x1
  rw [hi _ (by omega) (by omega), hi _ (by omega) (by omega)]
  exact l3 x x0 x1
/-- the table when bands alone have changed -/
theorem tbR_b {σ τ : jS} {D E N N' S : Int → Int} (h : tbR σ 27 D N S) (p : pbR τ 30 D E N') (k : ∀ c, ((27 ≤ c ∧ c ≤ 29) ∨ (34 ≤ c ∧ c ≤ 39)) → τ c = σ c) (hi : ∀ j, 241 ≤ j → E j = D j) : tbR τ 27 E N' S := by
  obtain ⟨⟨h1, h2, h3⟩, ⟨h4, h5, h6⟩, h8, h9, h10⟩ := h
  obtain ⟨⟨p1, p1'⟩, p2, p3, p4, p5, p6⟩ := p
  have e27 : τ 27 = σ 27 := k 27 (by omega)
  have e28 : τ (27 + 1) = σ (27 + 1) := k 28 (by omega)
  have e29 : τ (27 + 2) = σ (27 + 2) := k 29 (by omega)
  have e34 : τ (27 + 7) = σ (27 + 7) := k 34 (by omega)
  have e35 : τ (27 + 8) = σ (27 + 8) := k 35 (by omega)
  have e36 : τ (27 + 9) = σ (27 + 9) := k 36 (by omega)
  have e37 : τ (27 + 10) = σ (27 + 10) := k 37 (by omega)
  have e38 : τ (27 + 11) = σ (27 + 11) := k 38 (by omega)
  have e39 : τ (27 + 12) = σ (27 + 12) := k 39 (by omega)
  refine ⟨⟨p1, ⟨?_, ?_, ?_, ?_, p3, fun q q0 q1 => ?_, p4⟩, ⟨p2, ?_, ?_, ?_⟩⟩, ⟨?_, p5, p6⟩, ?_, ?_, ?_⟩
  · rw [e28, p1' 0 (by decide) (by decide) (by decide)]; exact h2.1
  · rw [e28, p1' 1 (by decide) (by decide) (by decide)]; exact h2.2.1
  · rw [e28, p1' 2 (by decide) (by decide) (by decide)]; exact h2.2.2.1
  · rw [e28, p1' 3 (by decide) (by decide) (by decide)]; exact h2.2.2.2.1
  · rw [p1' _ (by omega) (by omega) (by omega)]
    unfold outB
    rw [e28]; exact h2.2.2.2.2.2.1 q q0 q1
  · show ∀ j, 0 ≤ j → j < 8 → 0 ≤ τ (27 + 2) j ∧ _
    rw [e29]; exact h3.2.1
  · rw [e28]; exact h3.2.2.1
  · rw [e28]; exact h3.2.2.2
  · rw [e28, e29]; exact h4
  · have q := clR_x h8 (E := E) (fun j a b => hi j a)
    unfold clR at q ⊢
    rw [e34, e35, e36]; exact q
  · have q := liR_x h9 h1 p1' (fun j a b => hi j a)
    unfold liR at q ⊢
    rw [e27, e37]; exact q
  · have q := seR_x h10 (E := E) (fun j a => hi j (by omega))
    unfold seR at q ⊢
    rw [e38, e39, e29, e28]; exact q
theorem ag_undo {σ : jS} (h : Inv σ) : Ag 3 1 miX12_undo miX13_undo [] σ := by
  have hh := h
  obtain ⟨i1, i2, i3, i4, i5, i6, i7, i8⟩ := h
  obtain ⟨⟨a1, a2, a3⟩, a4⟩ := i5
  refine (c_X12_undo a3 a2).mono (fun r τ q => ?_)
  obtain ⟨q1, q2⟩ := q
  by_cases z : σ 0 6 = 0
  · obtain ⟨x1, x2⟩ := q1 z
    refine ⟨_, x1, ?_⟩
    rw [x2]
    refine (c_X13_undo (σ := σ) (by rw [a1]; exact a2)).mono (fun r' ρ w => ?_)
    have y := w.1 (by rw [a1]; exact z)
    exact ⟨y.1, by rw [y.2]; exact Inv_a hh (agr_ju σ 0)⟩
  · obtain ⟨x1, x2, x3, x4, x5⟩ := q2 z
    refine ⟨_, x1, ?_⟩
    have ps := a3.1 (σ 0 6 - 1) (by omega) (by omega)
    have pn := isPst_n ps
    have t : ∀ c, ¬ c = 0 → (c < 30 ∨ 34 ≤ c) → τ c = σ c := x5
    have e27 : τ 111 27 = σ 0 6 := by rw [t 111 (by decide) (by decide), a1]
    refine (c_X13_undo (σ := τ) (by rw [e27]; exact a2)).mono (fun r' ρ w => ?_)
    have y := w.2 (by rw [e27]; exact z)
    rw [e27] at y
    obtain ⟨y1, y2, y3, y4, y5, y6, y7⟩ := y
    refine ⟨y1, ?_⟩
    have kT : ∀ c, c ≤ 110 → ρ c = τ c := fun c hc => y2.1 c (by omega) (by simp; omega)
    have k : ∀ c, ¬ c = 0 → (c < 30 ∨ 34 ≤ c) → ¬ c = 111 → ¬ c = 113 → ¬ c = 118 → ρ c = σ c := fun c g0 g g1 g2 g3 => by rw [y2.1 c g1 (by simp; omega), t c g0 g]
    have kb : ∀ c, ¬ c = 0 → (c < 30 ∨ (34 ≤ c ∧ c ≤ 110)) → ρ c = σ c := fun c g0 g => k c g0 (by omega) (by omega) (by omega) (by omega)
    have kM : ∀ c, 112 ≤ c → ¬ c = 113 → ¬ c = 118 → ρ c = σ c := fun c g0 g1 g2 => k c (by omega) (by omega) (by omega) g1 g2
    have m : ∀ j, ¬ j = 0 → ¬ j = 27 → ρ 111 j = σ 111 j := fun j hj h2 => by rw [y2.2 j (by simp; omega), t 111 (by decide) (by decide)]
    have z0 : ∀ j, ¬ j = 6 → ρ 0 j = σ 0 j := fun j hj => by rw [kT 0 (by omega), x2 j hj]
    have z6 : ρ 0 6 = σ 0 6 - 1 := by rw [kT 0 (by omega), x3]
    have cp : cpB σ ρ 30 (σ 8 (σ 0 6 - 1)).toNat := by
      obtain ⟨d1, d2, d3, d4⟩ := x4
      unfold cpB
      rw [kT 30 (by omega), kT (30 + 1) (by omega), kT (30 + 2) (by omega), kT (30 + 3) (by omega)]
      exact ⟨d1, d2, d3, d4⟩
    have pb := a4 (σ 0 6 - 1) (by omega) (by omega)
    have pq : pbR ρ 30 (σ 113) (ρ 113) (ρ 118) := pbR_cp pb cp (kb 29 (by omega) (by omega)) (by rw [kb 28 (by omega) (by omega)]) (fun j _ _ _ => rfl) (fun j j0 j1 => by rw [y5 j j0 j1, t 117 (by decide) (by decide)]) (fun j j0 j1 => by rw [y7 j j0 j1, t 120 (by decide) (by decide)])
    have h13 : ∀ j, 0 ≤ j → j < 105 → ¬ j = 4 → ρ 113 j = σ 113 j := pq.1.2
    refine ⟨tpR_c i1 (by rw [kb 2 (by omega) (by omega)]) (kb 3 (by omega) (by omega)) (kM 112 (by decide) (by decide) (by decide)) (m 2 (by decide) (by decide)), fwR_c i2 (z0 13 (by decide)) (z0 14 (by decide)) (m 10 (by decide) (by decide)) (m 12 (by decide) (by decide)), ?_, imR_c i4 (kb 7 (by omega) (by omega)) (fun c g1 g2 => kb c (by omega) (by omega)) (kM _ (by decide) (by decide) (by decide)) (kM _ (by decide) (by decide) (by decide)) (kM _ (by decide) (by decide) (by decide)) (kM _ (by decide) (by decide) (by decide)), ⟨⟨by rw [y4, z6], by rw [z6]; omega, by unfold okP; rw [kb 8 (by omega) (by omega)]; exact a3⟩, fun i i0 i1 => ?_⟩, foR_c i6 (by rw [kb 9 (by omega) (by omega)]) (kb 10 (by omega) (by omega)) (kM 129 (by decide) (by decide) (by decide)) (m 33 (by decide) (by decide)), teR_c i7 (by rw [kb 4 (by omega) (by omega)]) (kb 5 (by omega) (by omega)) (kM 130 (by decide) (by decide) (by decide)) (m 36 (by decide) (by decide)), drR_c i8 (fun c g1 g2 => kb c (by omega) (by omega)) (kM 119 (by decide) (by decide) (by decide))⟩
    · rw [kM 121 (by decide) (by decide) (by decide)]
      exact tbR_b i3 pq (fun c g => kb c (by omega) (by omega)) (fun j g => by rw [y6 j g, t 113 (by decide) (by decide)])
    · rw [z6] at i1
      rw [kb 8 (by omega) (by omega), kM 117 (by decide) (by decide) (by decide), kM 120 (by decide) (by decide) (by decide)]
      have pi := isPst_n (a3.1 i i0 (by omega))
      have r := pbR_t (H' := σ 113) (τ := ρ) (a4 i i0 (by omega)) (kb _ (by omega) (by omega)) (kb _ (by omega) (by omega)) (kb _ (by omega) (by omega)) (kb _ (by omega) (by omega)) (kb 29 (by omega) (by omega)) (kb 28 (by omega) (by omega)) rfl rfl rfl
      exact ⟨⟨r.1.1, fun j j0 j1 j4 => (r.1.2 j j0 j1 j4).trans (h13 j j0 j1 j4).symm⟩, r.2⟩
