/-! ===== images ===== -/
/-- a table whose cells stay, told by rows that are the same where it looks -/
theorem tbR_y {σ τ : jS} {T : Nat} {D N S E N' S' : Int → Int} (h : tbR σ T D N S) (k : ∀ c, T ≤ c → c ≤ T + 12 → τ c = σ c) (eD : ∀ j, 0 ≤ j → j < 512 → E j = D j) (eN : ∀ j, 0 ≤ j → j < 8 → N' j = N j) (eS : ∀ j, 0 ≤ j → j < 20 → S' j = S j) : tbR τ T E N' S' := by
  have c : cpT σ τ T T := by
    have e : ∀ x : Nat, x ≤ 12 → τ (T + x) = σ (T + x) := fun x hx => k _ (by omega) (by omega)
    refine ⟨⟨fun j _ _ => by rw [e 1 (by omega)], fun j _ _ => by rw [e 2 (by omega)], by rw [e 3 (by omega)], fun j _ _ => by rw [e 4 (by omega)], fun j _ _ => by rw [e 5 (by omega)], fun j _ _ => by rw [e 6 (by omega)]⟩, ⟨fun j _ _ => by rw [e 7 (by omega)], fun j _ _ => by rw [e 8 (by omega)], fun j _ _ => by rw [e 9 (by omega)]⟩, by rw [k T (by omega) (by omega)], fun j _ _ => by rw [e 10 (by omega)], by rw [e 11 (by omega)], by rw [e 11 (by omega)], fun j _ _ => by rw [e 12 (by omega)]⟩
  exact tbR_cp h c (by rw [k _ (by omega) (by omega)]; exact h.1.2.2.2.2.2) eD eN eS
theorem ag_image {σ : jS} (h : Inv σ) {k : Int} (hk : iR k) : Ag 5 2 miX12_image miX13_image [vI k] σ := by
  have hk1 := (Inv_k h).1
  have hh := h
  obtain ⟨i1, i2, i3, i4, i5, i6, i7, i8⟩ := h
  obtain ⟨⟨a0, a1⟩, ⟨b1, b2, b3, b4⟩, ⟨c1, c2, c3, c4⟩⟩ := i4
  have hI : ∀ i, 0 ≤ i → i < 2 → σ 7 i = 53 ∨ σ 7 i = 66 := fun i i0 i1 => by
    rcases (show i = 0 ∨ i = 1 by omega) with u | u
    · rw [u]; exact Or.inl a0
    · rw [u]; exact Or.inr a1
  refine (c_X12_image hk1 hI hk).mono (fun r τ q => ?_)
  obtain ⟨q1, q2, q3⟩ := q
  refine ⟨_, q1, (c_X13_image hk).mono (fun r' ρ w => ⟨w.1, ?_⟩)⟩
  obtain ⟨_, w2, w3⟩ := w
  by_cases z : 0 ≤ k ∧ k ≤ 1
  · obtain ⟨x1, x2, x3, x4, x5⟩ := q3 z
    obtain ⟨y1, y2, y3, y4, y5, y6, y7⟩ := w3 z
    have m : ∀ j, ¬ j = 0 → ρ 111 j = τ 111 j := fun j hj => by rw [y6, ju_ne (by intro q; exact hj q.2)]
    have kT : ∀ c, c ≤ 110 → ρ c = τ c := fun c hc => y7 c (by omega) (by omega) (by omega) (by omega) (by omega)
    have go : ∀ K : Nat, (σ 7 k).toNat = K → (K = 53 ∨ K = 66) → imR ρ → Inv ρ := fun K eK hK im => by
      rw [eK] at x1
      have s : ∀ c, (c < 53 ∨ 79 ≤ c) → τ c = σ c := fun c hc => x1 c (by omega)
      have k' : ∀ c, (c < 53 ∨ (79 ≤ c ∧ c ≤ 110)) → ρ c = σ c := fun c hc => by rw [kT c (by omega), s c (by omega)]
      have kM : ∀ c, 112 ≤ c → ¬ c = 116 → ¬ c = 122 → ¬ c = 123 → ¬ c = 124 → ρ c = σ c := fun c g1 g2 g3 g4 g5 => by rw [y7 c (by omega) g2 g3 g4 g5, s c (by omega)]
      have m' : ∀ j, ¬ j = 0 → ρ 111 j = σ 111 j := fun j hj => by rw [m j hj, s 111 (by omega)]
      refine ⟨tpR_c i1 (by rw [k' 2 (by omega)]) (k' 3 (by omega)) (kM 112 (by decide) (by decide) (by decide) (by decide) (by decide)) (m' 2 (by decide)), fwR_c i2 (by rw [k' 0 (by omega)]) (by rw [k' 0 (by omega)]) (m' 10 (by decide)) (m' 12 (by decide)), ?_, im, paR_c i5 (by rw [k' 0 (by omega)]) (k' 8 (by omega)) (fun c g1 g2 => k' c (by omega)) (k' 28 (by omega)) (k' 29 (by omega)) (fun j _ _ _ => by rw [kM 113 (by decide) (by decide) (by decide) (by decide) (by decide)]) (kM _ (by decide) (by decide) (by decide) (by decide) (by decide)) (kM _ (by decide) (by decide) (by decide) (by decide) (by decide)) (m' 27 (by decide)), foR_c i6 (by rw [k' 9 (by omega)]) (k' 10 (by omega)) (kM 129 (by decide) (by decide) (by decide) (by decide) (by decide)) (m' 33 (by decide)), teR_c i7 (by rw [k' 4 (by omega)]) (k' 5 (by omega)) (kM 130 (by decide) (by decide) (by decide) (by decide) (by decide)) (m' 36 (by decide)), drR_c i8 (fun c g1 g2 => k' c (by omega)) (kM 119 (by decide) (by decide) (by decide) (by decide) (by decide))⟩
      rw [kM 113 (by decide) (by decide) (by decide) (by decide) (by decide), kM 118 (by decide) (by decide) (by decide) (by decide) (by decide), kM 121 (by decide) (by decide) (by decide) (by decide) (by decide)]
      exact tbR_t i3 (fun c g1 g2 => k' c (by omega))
    have zz : k = 0 ∨ k = 1 := by omega
    clear z hk q1 q2 q3 w2 w3
    rcases zz with u | u
    · subst u
      have eK : (σ 7 0).toNat = 53 := by rw [a0]; rfl
      refine go 53 eK (Or.inl rfl) ?_
      rw [eK] at x1 x2 x3 x4 x5
      have s : ∀ c, (c < 53 ∨ 66 ≤ c) → τ c = σ c := fun c hc => x1 c (by omega)
      refine ⟨by rw [kT 7 (by omega), s 7 (by omega)]; exact ⟨a0, a1⟩, ⟨by rw [y4]; decide, by rw [y4, kT 53 (by omega), x2], ⟨by rw [kT 54 (by omega), show τ 54 2 = σ 28 2 from x5.1.1 2 (by decide) (by decide)]; exact hk1.2.2.1, by rw [kT 54 (by omega), show τ 54 7 = σ 54 7 from x4]; exact b3.2⟩, fun _ => ?_⟩, ⟨by rw [y5 1 (by decide), s 124 (by omega)]; exact c1, by rw [y5 1 (by decide), s 124 (by omega), kT 66 (by omega), s 66 (by omega)]; exact c2, by rw [kT 67 (by omega), s 67 (by omega)]; exact c3, fun g => ?_⟩⟩
      · refine tbR_t (tbR_cp (E := fun j => ρ 116 (512 * 0 + j)) (N' := fun j => ρ 122 (8 * 0 + j)) (S' := fun j => ρ 123 (20 * 0 + j)) i3 x5 (by rw [show τ (53 + 1) 7 = σ 54 7 from x4]; exact b3.2) (fun j j0 j1 => ?_) (fun j j0 j1 => ?_) (fun j j0 j1 => ?_)) (fun c g1 g2 => kT c (by omega))
        · show ρ 116 (512 * 0 + j) = _
          rw [y1, if_pos (by omega), s 113 (by omega), show 512 * 0 + j - 512 * 0 = j by omega]
        · show ρ 122 (8 * 0 + j) = _
          rw [y2, if_pos (by omega), s 118 (by omega), show 8 * 0 + j - 8 * 0 = j by omega]
        · show ρ 123 (20 * 0 + j) = _
          rw [y3, if_pos (by omega), s 121 (by omega), show 20 * 0 + j - 20 * 0 = j by omega]
      · rw [y5 1 (by decide), s 124 (by omega)] at g
        refine tbR_y (c4 g) (fun c g1 g2 => by rw [kT c (by omega), s c (by omega)]) (fun j j0 j1 => ?_) (fun j j0 j1 => ?_) (fun j j0 j1 => ?_)
        · show ρ 116 (512 * 1 + j) = σ 116 (512 * 1 + j)
          rw [y1, if_neg (by omega), s 116 (by omega)]
        · show ρ 122 (8 * 1 + j) = σ 122 (8 * 1 + j)
          rw [y2, if_neg (by omega), s 122 (by omega)]
        · show ρ 123 (20 * 1 + j) = σ 123 (20 * 1 + j)
          rw [y3, if_neg (by omega), s 123 (by omega)]
    · subst u
      have eK : (σ 7 1).toNat = 66 := by rw [a1]; rfl
      refine go 66 eK (Or.inr rfl) ?_
      rw [eK] at x1 x2 x3 x4 x5
      have s : ∀ c, (c < 66 ∨ 79 ≤ c) → τ c = σ c := fun c hc => x1 c (by omega)
      refine ⟨by rw [kT 7 (by omega), s 7 (by omega)]; exact ⟨a0, a1⟩, ⟨by rw [y5 0 (by decide), s 124 (by omega)]; exact b1, by rw [y5 0 (by decide), s 124 (by omega), kT 53 (by omega), s 53 (by omega)]; exact b2, by rw [kT 54 (by omega), s 54 (by omega)]; exact b3, fun g => ?_⟩, ⟨by rw [y4]; decide, by rw [y4, kT 66 (by omega), x2], ⟨by rw [kT 67 (by omega), show τ 67 2 = σ 28 2 from x5.1.1 2 (by decide) (by decide)]; exact hk1.2.2.1, by rw [kT 67 (by omega), show τ 67 7 = σ 67 7 from x4]; exact c3.2⟩, fun _ => ?_⟩⟩
      · rw [y5 0 (by decide), s 124 (by omega)] at g
        refine tbR_y (b4 g) (fun c g1 g2 => by rw [kT c (by omega), s c (by omega)]) (fun j j0 j1 => ?_) (fun j j0 j1 => ?_) (fun j j0 j1 => ?_)
        · show ρ 116 (512 * 0 + j) = σ 116 (512 * 0 + j)
          rw [y1, if_neg (by omega), s 116 (by omega)]
        · show ρ 122 (8 * 0 + j) = σ 122 (8 * 0 + j)
          rw [y2, if_neg (by omega), s 122 (by omega)]
        · show ρ 123 (20 * 0 + j) = σ 123 (20 * 0 + j)
          rw [y3, if_neg (by omega), s 123 (by omega)]
      · refine tbR_t (tbR_cp (E := fun j => ρ 116 (512 * 1 + j)) (N' := fun j => ρ 122 (8 * 1 + j)) (S' := fun j => ρ 123 (20 * 1 + j)) i3 x5 (by rw [show τ (66 + 1) 7 = σ 67 7 from x4]; exact c3.2) (fun j j0 j1 => ?_) (fun j j0 j1 => ?_) (fun j j0 j1 => ?_)) (fun c g1 g2 => kT c (by omega))
        · show ρ 116 (512 * 1 + j) = _
          rw [y1, if_pos (by omega), s 113 (by omega), show 512 * 1 + j - 512 * 1 = j by omega]
        · show ρ 122 (8 * 1 + j) = _
          rw [y2, if_pos (by omega), s 118 (by omega), show 8 * 1 + j - 8 * 1 = j by omega]
        · show ρ 123 (20 * 1 + j) = _
          rw [y3, if_pos (by omega), s 121 (by omega), show 20 * 1 + j - 20 * 1 = j by omega]
  · rw [w2 z, q2 z]
    exact Inv_a hh (agr_ju σ 0)
theorem ag_restore {σ : jS} (h : Inv σ) {k : Int} (hk : iR k) : Ag 5 2 miX12_restore miX13_restore [vI k] σ := by
  have hh := h
  obtain ⟨i1, i2, i3, i4, i5, i6, i7, i8⟩ := h
  have i4' := i4
  obtain ⟨⟨a0, a1⟩, ⟨b1, b2, b3, b4⟩, ⟨c1, c2, c3, c4⟩⟩ := i4
  have e0 : (σ 7 0).toNat = 53 := by rw [a0]; rfl
  have e1 : (σ 7 1).toNat = 66 := by rw [a1]; rfl
  have hI : ∀ i, 0 ≤ i → i < 2 → σ 7 i = 53 ∨ σ 7 i = 66 := fun i i0 i1 => by
    rcases (show i = 0 ∨ i = 1 by omega) with u | u
    · rw [u]; exact Or.inl a0
    · rw [u]; exact Or.inr a1
  refine (c_X12_restore (σ := σ) hI (fun i i0 i1 => by
    rcases (show i = 0 ∨ i = 1 by omega) with u | u
    · rw [u, e0]; exact ⟨by rw [b2]; exact b1, b3.1⟩
    · rw [u, e1]; exact ⟨by rw [c2]; exact c1, c3.1⟩) hk).mono (fun r τ q => ?_)
  obtain ⟨q1, q2, q3⟩ := q
  have eq0 : (0 ≤ k ∧ k ≤ 1) → σ (σ 7 k).toNat 0 = σ 124 k := fun z => by
    rcases (show k = 0 ∨ k = 1 by omega) with u | u
    · rw [u, e0]; exact b2
    · rw [u, e1]; exact c2
  have e124 : τ 124 = σ 124 := by
    by_cases z : (0 ≤ k ∧ k ≤ 1) ∧ ¬ σ (σ 7 k).toNat 0 = 0
    · exact (q3 z).2.2.1 124 (by decide) (by decide)
    · rw [q2 z]
  refine ⟨_, q1, (c_X13_restore hk (fun i i0 i1 => by rw [e124]; rcases (show i = 0 ∨ i = 1 by omega) with u | u <;> rw [u] <;> assumption)).mono (fun r' ρ w => ?_)⟩
  obtain ⟨w1, w2, w3⟩ := w
  rw [e124] at w1 w2 w3
  have iff : ((0 ≤ k ∧ k ≤ 1) ∧ ¬ σ (σ 7 k).toNat 0 = 0) ↔ ¬ (¬ (0 ≤ k ∧ k ≤ 1) ∨ σ 124 k = 0) := by
    constructor
    · rintro ⟨u, v⟩
      rw [eq0 u] at v
      intro q; exact q.elim (fun q => q u) v
    · intro q
      have u : 0 ≤ k ∧ k ≤ 1 := by omega
      exact ⟨u, by rw [eq0 u]; exact fun g => q (Or.inr g)⟩
  refine ⟨by rw [w1, bI_iff iff], ?_⟩
  by_cases z : (0 ≤ k ∧ k ≤ 1) ∧ ¬ σ (σ 7 k).toNat 0 = 0
  · obtain ⟨x1, x2, x3, x4, x5, x6⟩ := q3 z
    obtain ⟨y1, y2, y3, y4, y5, y6⟩ := w3 (iff.mp z)
    have kT : ∀ c, c ≤ 110 → ρ c = τ c := fun c hc => y6.1 c (by omega) (by simp; omega)
    have k' : ∀ c, ¬ c = 0 → (c < 27 ∨ 40 ≤ c) → ¬ c = 111 → ¬ c = 113 → ¬ c = 118 → ¬ c = 121 → ρ c = σ c := fun c g0 g g1 g2 g3 g4 => by rw [y6.1 c g1 (by simp; omega), x3 c g0 g]
    have t : ∀ c, ¬ c = 0 → 40 ≤ c → τ c = σ c := fun c g0 g => x3 c g0 (Or.inr g)
    have m' : ∀ j, ¬ j = 0 → ¬ j = 27 → ρ 111 j = σ 111 j := fun j hj h2 => by rw [y6.2 j (by simp; omega), t 111 (by decide) (by decide)]
    have z0 : ∀ j, ¬ j = 6 → ρ 0 j = σ 0 j := fun j hj => by rw [kT 0 (by omega), x2 j hj]
    have z1 : σ 124 k = 1 := by
      have u := z.2
      rw [eq0 z.1] at u
      rcases (show k = 0 ∨ k = 1 by omega) with v | v <;> rw [v] at u ⊢ <;> omega
    refine ⟨tpR_c i1 (by rw [k' 2 (by decide) (by decide) (by decide) (by decide) (by decide) (by decide)]) (k' 3 (by decide) (by decide) (by decide) (by decide) (by decide) (by decide)) (k' 112 (by decide) (by decide) (by decide) (by decide) (by decide) (by decide)) (m' 2 (by decide) (by decide)), fwR_c i2 (z0 13 (by decide)) (z0 14 (by decide)) (m' 10 (by decide) (by decide)) (m' 12 (by decide) (by decide)), ?_, imR_c i4' (k' 7 (by decide) (by decide) (by decide) (by decide) (by decide) (by decide)) (fun c g1 g2 => k' c (by omega) (by omega) (by omega) (by omega) (by omega) (by omega)) (k' 116 (by decide) (by decide) (by decide) (by decide) (by decide) (by decide)) (k' 122 (by decide) (by decide) (by decide) (by decide) (by decide) (by decide)) (k' 123 (by decide) (by decide) (by decide) (by decide) (by decide) (by decide)) (k' 124 (by decide) (by decide) (by decide) (by decide) (by decide) (by decide)), ⟨⟨by rw [y5, kT 0 (by omega), x1], by rw [kT 0 (by omega), x1]; decide, by unfold okP; rw [k' 8 (by decide) (by decide) (by decide) (by decide) (by decide) (by decide)]; exact i5.1.2.2⟩, fun i i0 i1 => by rw [kT 0 (by omega), x1] at i1; omega⟩, foR_c i6 (by rw [k' 9 (by decide) (by decide) (by decide) (by decide) (by decide) (by decide)]) (k' 10 (by decide) (by decide) (by decide) (by decide) (by decide) (by decide)) (k' 129 (by decide) (by decide) (by decide) (by decide) (by decide) (by decide)) (m' 33 (by decide) (by decide)), teR_c i7 (by rw [k' 4 (by decide) (by decide) (by decide) (by decide) (by decide) (by decide)]) (k' 5 (by decide) (by decide) (by decide) (by decide) (by decide) (by decide)) (k' 130 (by decide) (by decide) (by decide) (by decide) (by decide) (by decide)) (m' 36 (by decide) (by decide)), drR_c i8 (fun c g1 g2 => k' c (by omega) (by omega) (by omega) (by omega) (by omega) (by omega)) (k' 119 (by decide) (by decide) (by decide) (by decide) (by decide) (by decide))⟩
    have h7 : cB 5 (τ (27 + 1) 7) := by rw [show τ (27 + 1) 7 = σ 28 7 from x5]; exact i3.1.2.2.2.2.2
    have fin : ∀ (K : Nat), tbR σ K (fun j => σ 116 (512 * k + j)) (fun j => σ 122 (8 * k + j)) (fun j => σ 123 (20 * k + j)) → cpT σ τ 27 K → tbR ρ 27 (ρ 113) (ρ 118) (ρ 121) := fun K a b => by
      refine tbR_t (tbR_cp a b h7 (fun j j0 j1 => ?_) (fun j j0 j1 => ?_) (fun j j0 j1 => ?_)) (fun c g1 g2 => kT c (by omega))
      · rw [y1, if_pos ⟨j0, j1⟩, t 116 (by decide) (by decide)]
      · rw [y2, if_pos ⟨j0, j1⟩, t 122 (by decide) (by decide)]
      · rw [y3, if_pos ⟨j0, j1⟩, t 123 (by decide) (by decide)]
    rcases (show k = 0 ∨ k = 1 by omega) with u | u
    · subst u
      rw [e0] at x6
      exact fin 53 (b4 z1) x6
    · subst u
      rw [e1] at x6
      exact fin 66 (c4 z1) x6
  · rw [w2 (Classical.byContradiction fun g => z (iff.mpr g)), q2 z]
    exact Inv_a hh (agr_ju σ 0)
