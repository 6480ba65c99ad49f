/-! ===== what is kept for undo ===== -/
theorem pb_tb {σ : jS} {D N S : Int → Int} (h : tbR σ 27 D N S) : pbR σ 30 D D N := by
  obtain ⟨⟨h1, h2, h3⟩, ⟨h4, h5, h6⟩, _⟩ := h
  exact ⟨⟨h1, fun _ _ _ _ => rfl⟩, h3.1, h2.2.2.2.2.1, h2.2.2.2.2.2.2, h5, h6⟩
theorem pst_d {y z : Int} (hy : isPst y) (hz : isPst z) (h : ¬ y = z) : y.toNat + 4 ≤ z.toNat ∨ z.toNat + 4 ≤ y.toNat := by unfold isPst at hy hz; omega
theorem cpB_id {σ τ : jS} {k : Nat} (h : ∀ c, k ≤ c → c ≤ k + 3 → τ c = σ c) : cpB σ τ k k := by
  refine ⟨by rw [h k (by omega) (by omega)], fun j _ _ => by rw [h _ (by omega) (by omega)], fun j _ _ => by rw [h _ (by omega) (by omega)], fun j _ _ => by rw [h _ (by omega) (by omega)]⟩
theorem paR_push {σ τ ω υ υ1 : jS} (h3 : tbR σ 27 (σ 113) (σ 118) (σ 121)) (h5 : paR σ) (k : KP σ τ) (e8 : ω 8 = τ 8) (e0 : ω 0 6 = τ 0 6) (kc : ∀ c, 79 ≤ c → c ≤ 110 → ω c = τ c) (e28 : ω 28 6 = σ 28 6) (e29 : ω 29 = σ 29) (s : SS υ υ1) (u27 : υ 111 27 = σ 111 27) (u117 : υ 117 = σ 117) (u120 : υ 120 = σ 120) (u113 : ∀ j, 0 ≤ j → j < 241 → υ 113 j = σ 113 j) (u118 : υ 118 = σ 118) (w117 : ω 117 = υ1 117) (w120 : ω 120 = υ1 120) (w27 : ω 111 27 = υ1 111 27) (e113 : ∀ j, 0 ≤ j → j < 105 → ¬ j = 4 → ω 113 j = σ 113 j) : paR ω := by
  have tb := pb_tb h3
  obtain ⟨⟨a1, a2, a3⟩, a4⟩ := h5
  obtain ⟨k1, k2, k3, k4, k5, k6⟩ := k
  obtain ⟨s1, s2, s3, s4, s5, s6⟩ := s
  rw [u27, a1] at s2 s3 s4 s5 s6
  obtain ⟨M, hM⟩ : ∃ M, M = min (σ 0 6) 7 := ⟨_, rfl⟩
  rw [← hM] at k2 k5 k6 s2 s3 s4 s5 s6
  have hM2 : 0 ≤ M ∧ M ≤ 7 ∧ ((σ 0 6 = 8 ∧ M = 7) ∨ (¬ σ 0 6 = 8 ∧ M = σ 0 6)) := by omega
  clear hM
  have o : okP ω := by unfold okP; rw [e8]; exact k3
  refine ⟨⟨by rw [w27, s2, e0, k2], by rw [e0, k2]; omega, o⟩, fun i i0 i1 => ?_⟩
  rw [e0, k2] at i1
  have pM := k3.1 M (by omega) (by omega)
  have nM := isPst_n pM
  rw [e8, w117, w120]
  by_cases c : i = M
  · subst c
    have cp : cpB σ ω (τ 8 i).toNat 30 := by
      obtain ⟨d1, d2, d3, d4⟩ := k5
      unfold cpB
      rw [kc _ (by omega) (by omega), kc ((τ 8 i).toNat + 1) (by omega) (by omega), kc ((τ 8 i).toNat + 2) (by omega) (by omega), kc ((τ 8 i).toNat + 3) (by omega) (by omega)]
      exact ⟨d1, d2, d3, d4⟩
    exact pbR_cp tb cp e29 e28 e113 (fun j j0 j1 => by rw [s4 j j0 j1, u113 j j0 j1]) (fun j j0 j1 => by rw [s6 j j0 j1, u118])
  · have iM : i < M := by omega
    obtain ⟨x, hx⟩ : ∃ x, x = if σ 0 6 = 8 then i + 1 else i := ⟨_, rfl⟩
    have s3' := fun j => s3 i j i0 iM
    have s5' := fun j => s5 i j i0 iM
    rw [← hx] at s3' s5'
    have x2 : 0 ≤ x ∧ x < σ 0 6 ∧ x < 8 := by split at hx <;> omega
    have t8 : τ 8 i = σ 8 x := by
      rw [k4 i i0 (by omega), hx]
      split
      · rw [if_neg (by omega)]
      · rfl
    have pi := k3.1 i i0 (by omega)
    have ni := isPst_n pi
    have dj := pst_d pi pM (k3.2 i M i0 iM (by omega))
    have cp : cpB σ ω (τ 8 i).toNat (τ 8 i).toNat := cpB_id (fun c c0 c1 => by rw [kc c (by omega) (by omega), k6 c (by omega) (by omega) (by omega)])
    have pb := a4 x x2.1 x2.2.1
    rw [← t8] at pb
    exact pbR_cp pb cp e29 e28 e113 (fun j j0 j1 => by rw [s3' j j0 j1, u117]) (fun j j0 j1 => by rw [s5' j j0 j1, u120])
/-- what the two sides keep, and all that stays, when bands alone change -/
theorem Inv_ch {σ τ1 τ υ υ1 ω : jS} (h : Inv σ) (k : KP σ τ1) (t1 : ∀ c, (c < 30 ∨ 34 ≤ c) → ¬ c = 6 → τ c = τ1 c) (s : SS υ υ1) (u0 : ∀ c, ¬ c = 111 → ¬ c = 114 → υ c = τ c) (u1 : ∀ j, ¬ j = 0 → υ 111 j = τ 111 j) (w0 : ∀ c, ¬ c = 113 → ¬ c = 118 → ω c = υ1 c) (hi : ∀ j, 241 ≤ j → ω 113 j = σ 113 j) (pb : pbR ω 30 (σ 113) (ω 113) (ω 118)) : Inv ω := by
  obtain ⟨i1, i2, i3, i4, i5, i6, i7, i8⟩ := h
  have kk := k
  obtain ⟨k1, k2, k3, k4, k5, k6⟩ := kk
  have ss := s
  obtain ⟨s1, s2, _⟩ := ss
  have pM := isPst_n (k3.1 (min (σ 0 6) 7) (by have := i5.1.2.1; omega) (by omega))
  -- class cells
  have tw : ∀ c, c ≤ 110 → ω c = τ c := fun c hc => by rw [w0 c (by omega) (by omega), s1.1 c (by omega) (by simp; omega), u0 c (by omega) (by omega)]
  have tb : ∀ c, ((1 ≤ c ∧ c ≤ 5) ∨ c = 7 ∨ (9 ≤ c ∧ c ≤ 29) ∨ (34 ≤ c ∧ c ≤ 78)) → ω c = σ c := fun c hc => by rw [tw c (by omega), t1 c (by omega) (by omega), k6 c (by omega) (by omega) (by omega)]
  have tt : ∀ c, 111 ≤ c → τ c = σ c := fun c hc => by rw [t1 c (by omega) (by omega), k6 c (by omega) (by omega) (by omega)]
  have um : ∀ c, 112 ≤ c → ¬ c = 114 → υ c = σ c := fun c h1 h2 => by rw [u0 c (by omega) h2, tt c (by omega)]
  have kM : ∀ c, 112 ≤ c → ¬ c = 113 → ¬ c = 114 → ¬ c = 117 → ¬ c = 118 → ¬ c = 120 → ω c = σ c := fun c h0 h1 h2 h3 h4 h5 => by rw [w0 c h1 h4, s1.1 c (by omega) (by simp; omega), um c h0 h2]
  have m : ∀ j, ¬ j = 0 → ¬ j = 27 → ω 111 j = σ 111 j := fun j a b => by rw [w0 111 (by decide) (by decide), s1.2 j (by simp; omega), u1 j a, tt 111 (by decide)]
  have z0 : ∀ j, ¬ j = 6 → ω 0 j = σ 0 j := fun j hj => by rw [tw 0 (by omega), t1 0 (by omega) (by omega), k1 j hj]
  refine ⟨tpR_c i1 (by rw [tb 2 (by omega)]) (tb 3 (by omega)) (kM 112 (by decide) (by decide) (by decide) (by decide) (by decide) (by decide)) (m 2 (by decide) (by decide)), fwR_c i2 (z0 13 (by decide)) (z0 14 (by decide)) (m 10 (by decide) (by decide)) (m 12 (by decide) (by decide)), ?_, imR_c i4 (tb 7 (by omega)) (fun c g1 g2 => tb c (by omega)) (kM 116 (by decide) (by decide) (by decide) (by decide) (by decide) (by decide)) (kM 122 (by decide) (by decide) (by decide) (by decide) (by decide) (by decide)) (kM 123 (by decide) (by decide) (by decide) (by decide) (by decide) (by decide)) (kM 124 (by decide) (by decide) (by decide) (by decide) (by decide) (by decide)), ?_, foR_c i6 (by rw [tb 9 (by omega)]) (tb 10 (by omega)) (kM 129 (by decide) (by decide) (by decide) (by decide) (by decide) (by decide)) (m 33 (by decide) (by decide)), teR_c i7 (by rw [tb 4 (by omega)]) (tb 5 (by omega)) (kM 130 (by decide) (by decide) (by decide) (by decide) (by decide) (by decide)) (m 36 (by decide) (by decide)), drR_c i8 (fun c g1 g2 => tb c (by omega)) (kM 119 (by decide) (by decide) (by decide) (by decide) (by decide) (by decide))⟩
  · rw [kM 121 (by decide) (by decide) (by decide) (by decide) (by decide) (by decide)]
    exact tbR_b i3 pb (fun c g => tb c (by omega)) hi
  · exact paR_push i3 i5 k (by rw [tw 8 (by omega), t1 8 (by omega) (by omega)]) (by rw [tw 0 (by omega), t1 0 (by omega) (by omega)]) (fun c g1 g2 => by rw [tw c g2, t1 c (by omega) (by omega)]) (by rw [tb 28 (by omega)]) (tb 29 (by omega)) s (by rw [u1 27 (by decide), tt 111 (by decide)]) (um 117 (by decide) (by decide)) (um 120 (by decide) (by decide)) (fun j _ _ => by rw [um 113 (by decide) (by decide)]) (um 118 (by decide) (by decide)) (w0 117 (by decide) (by decide)) (w0 120 (by decide) (by decide)) (w0 111 (by decide) (by decide) ▸ rfl) pb.1.2
