theorem ag_line {σ : jS} (h : Inv σ) {a b : Int} (ha : iR a) (hb : iR b) : Ag 6 6 miX12_line miX13_line [vI a, vI b] σ := by
  obtain ⟨k1, k2, k3, k4, k5, k6, k7, k8⟩ := Inv_k h
  have G0 := Inv_G h
  have w01 : cB 10 (σ 113 0) ∧ cB 10 (σ 113 1) := by have := h.2.2.1.1.1.1; omega
  refine (c_X12_line k1 (ln_4 h) (fun i i0 i1 => ln_c h i0 i1) ha hb).mono (fun r τ q => ?_)
  obtain ⟨ρ, hg, q1, q2⟩ := q
  obtain ⟨l1, l2, l3⟩ := h.2.2.1.2.2.2.1
  have l1' : σ 113 261 = σ 27 3 := l1
  have m4 := l2.1
  have hρ := Inv_a h (GB_a hg)
  have e : ρ 113 = σ 113 := hg.1 113 (by decide)
  obtain ⟨F, hF⟩ : ∃ x, x = fi (lnI ρ (min a b) (max a b)) (ρ 23 3) := ⟨_, rfl⟩
  rw [← hF] at q1 q2
  have key : (gOk σ ∧ ¬ F = -1 ∧ opB ρ F ∧ σ 27 3 < 4) ↔ (smR (σ 113) ∧ mayL (σ 113) a b) := by
    rw [gOk_R h]
    refine and_congr_right (fun s => ?_)
    have g := (gOk_R h).mpr s
    obtain ⟨hG, hH⟩ := hg.2 g.1
    have n36 := hG.2.1
    have gm := G0.2 s
    constructor
    · rintro ⟨f1, f2, _⟩
      rcases fi_spec (lnI ρ (min a b) (max a b)) (n := ρ 23 3) n36.1 with z | z
      · exact absurd (hF.trans z.1) f1
      · rw [← hF] at z
        have y1 : ρ 25 F / 100 = min a b := z.2.2.1.1
        have y2 : ρ 25 F % 100 = max a b := z.2.2.1.2
        have m := (op_eq h hg g.1 ⟨z.1, z.2.1⟩).mp f2
        rw [y1, y2] at m
        rcases Int.le_total a b with o | o
        · rw [Int.min_eq_left o, Int.max_eq_right o] at m; exact m
        · rw [Int.min_eq_right o, Int.max_eq_left o] at m; exact may_sw m
    · intro m
      have gl := gm_lt gm.1 gm.2.1 gm.2.2.1 gm.2.2.2 m
      have mem : 100 * min a b + max a b ∈ LN (pkC σ 28) := by
        rw [LN_mem, k7]
        rcases Int.lt_or_lt_of_ne m.1 with o | o
        · exact ⟨a, b, ⟨by omega, by omega⟩, ⟨m.2.1.2, m.2.2.1.2⟩, ⟨o, m.2.2.2.1⟩, by rw [Int.min_eq_left (by omega), Int.max_eq_right (by omega)]⟩
        · exact ⟨b, a, ⟨by omega, by omega⟩, ⟨m.2.2.1.2, m.2.1.2⟩, ⟨o, by rw [pts_sym]; exact m.2.2.2.1⟩, by rw [Int.min_eq_right (by omega), Int.max_eq_left (by omega)]⟩
      obtain ⟨j, hj, ej⟩ := GM_ix hG mem
      have d1 : (100 * min a b + max a b) / 100 = min a b ∧ (100 * min a b + max a b) % 100 = max a b := by
        rcases Int.le_total a b with o | o
        · rw [Int.min_eq_left o, Int.max_eq_right o]; omega
        · rw [Int.min_eq_right o, Int.max_eq_left o]; omega
      rcases fi_spec (lnI ρ (min a b) (max a b)) (n := ρ 23 3) n36.1 with z | z
      · exact absurd ⟨by rw [ej]; exact d1.1, by rw [ej]; exact d1.2⟩ (z.2 j hj.1 hj.2)
      · rw [← hF] at z
        have y1 : ρ 25 F / 100 = min a b := z.2.2.1.1
        have y2 : ρ 25 F % 100 = max a b := z.2.2.1.2
        refine ⟨by omega, (op_eq h hg g.1 ⟨z.1, z.2.1⟩).mpr ?_, by omega⟩
        rw [y1, y2]
        rcases Int.le_total a b with o | o
        · rw [Int.min_eq_left o, Int.max_eq_right o]; exact m
        · rw [Int.min_eq_right o, Int.max_eq_left o]; exact may_sw m
  by_cases c : smR (σ 113) ∧ mayL (σ 113) a b
  · obtain ⟨x1, x2⟩ := q1 (key.mpr c)
    have good := key.mpr c
    obtain ⟨hG, hH⟩ := hg.2 good.1.1
    have n36 := hG.2.1
    have code : ρ 25 F = 100 * min a b + max a b := by
      rcases fi_spec (lnI ρ (min a b) (max a b)) (n := ρ 23 3) n36.1 with z | z
      · exact absurd (hF.trans z.1) good.2.1
      · rw [← hF] at z
        have y1 : ρ 25 F / 100 = min a b := z.2.2.1.1
        have y2 : ρ 25 F % 100 = max a b := z.2.2.1.2
        rw [← y1, ← y2]; omega
    have k : ∀ c, ¬ c = 23 → ¬ c = 24 → ¬ c = 25 → ¬ c = 26 → ¬ c = 27 → ¬ c = 37 → τ c = σ c := fun c a1 a2 a3 a4 a5 a6 => by rw [x2, ju_off _ _ _ _ _ a5, ju_off _ _ _ _ _ a6, hg.1 c (by simp; omega)]
    have e1 : τ 113 = σ 113 := k 113 (by decide) (by decide) (by decide) (by decide) (by decide) (by decide)
    refine ⟨_, x1, (c_X13_line (okN_c k4 e1) (by rw [e1]; exact G0.2) (by rw [e1]; exact G0.1) ha hb).mono (fun r' θ z => ?_)⟩
    obtain ⟨y1, y2, y3, y4, y5⟩ := z.1 (by rw [e1]; exact c)
    rw [e1] at y5
    refine ⟨y1, ?_⟩
    obtain ⟨i1, i2, i3, i4, i5, i6, i7, i8⟩ := h
    have gm := G0.2 c.1
    have gl := gm_lt gm.1 gm.2.1 gm.2.2.1 gm.2.2.2 c.2
    have kk : ∀ c, ¬ c = 23 → ¬ c = 24 → ¬ c = 25 → ¬ c = 26 → ¬ c = 27 → ¬ c = 37 → ¬ c = 111 → ¬ c = 113 → θ c = σ c := fun c a1 a2 a3 a4 a5 a6 a7 a8 => by rw [y2 c a7 a8, k c a1 a2 a3 a4 a5 a6]
    have ks : ∀ c, ((0 ≤ c ∧ c ≤ 10) ∨ (28 ≤ c ∧ c ≤ 36) ∨ (38 ≤ c ∧ c ≤ 110) ∨ c = 112 ∨ (114 ≤ c ∧ c ≤ 130)) → θ c = σ c := fun c hc => kk c (by omega) (by omega) (by omega) (by omega) (by omega) (by omega) (by omega) (by omega)
    have mm : ∀ j, ¬ j = 0 → θ 111 j = σ 111 j := fun j j0 => by rw [y3 j j0, k 111 (by decide) (by decide) (by decide) (by decide) (by decide) (by decide)]
    have lo : ∀ j, (j < 261 ∨ 270 ≤ j) → θ 113 j = σ 113 j := fun j hj => by
      rw [y5]
      unfold layD
      rw [if_neg (by omega), if_neg (by omega), if_neg (by omega)]
    have t27 : θ 27 3 = σ 27 3 + 1 := by rw [y2 27 (by decide) (by decide), x2, ju_at]
    have t27o : ∀ j, ¬ j = 3 → θ 27 j = σ 27 j := fun j hj => by rw [y2 27 (by decide) (by decide), x2, ju_ne (by omega), ju_off _ _ _ _ _ (by decide), hg.1 27 (by decide)]
    have t37 : θ 37 (σ 27 3) = 100 * min a b + max a b := by rw [y2 37 (by decide) (by decide), x2, ju_off _ _ _ _ _ (by decide), ju_at, code]
    have t37o : ∀ j, ¬ j = σ 27 3 → θ 37 j = σ 37 j := fun j hj => by rw [y2 37 (by decide) (by decide), x2, ju_off _ _ _ _ _ (by decide), ju_ne (by omega), hg.1 37 (by decide)]
    obtain ⟨⟨h1, h2, h3⟩, h4, h5, h6, h7⟩ := i3
    have d261 : θ 113 261 = σ 113 261 + 1 := by rw [y5]; unfold layD; rw [if_pos rfl]
    refine ⟨tpR_c i1 (by rw [ks 2 (by omega)]) (ks 3 (by omega)) (ks 112 (by omega)) (mm 2 (by decide)), fwR_c i2 (by rw [ks 0 (by omega)]) (by rw [ks 0 (by omega)]) (mm 10 (by decide)) (mm 12 (by decide)), ⟨⟨okV_x h1 (fun j j0 j1 => lo j (by omega)), RC_t (RC_x h2 h1 (fun j j0 j1 => lo j (by omega))) (ks 28 (by omega)) (ks 30 (by omega)) (ks 32 (by omega)) (ks 33 (by omega)), okA_t h3 (ks _ (by omega)) (ks _ (by omega)) (ks _ (by omega)) (ks _ (by omega)) (ks _ (by omega)) (ks _ (by omega))⟩, ?_, ?_, ⟨by rw [d261, t27, l1'], by rw [y5]; exact gm_lay gm.1 gm.2.1 gm.2.2.1 gm.2.2.2 c.2, fun k k0 k1 => ?_⟩, ?_⟩, imR_c i4 (ks 7 (by omega)) (fun c a b => ks c (by omega)) (ks _ (by omega)) (ks _ (by omega)) (ks _ (by omega)) (ks _ (by omega)), paR_c i5 (by rw [ks 0 (by omega)]) (ks _ (by omega)) (fun c a b => ks c (by omega)) (ks _ (by omega)) (ks _ (by omega)) (fun j _ j1 _ => lo j (by omega)) (ks _ (by omega)) (ks _ (by omega)) (mm 27 (by decide)), foR_c i6 (by rw [ks 9 (by omega)]) (ks _ (by omega)) (ks _ (by omega)) (mm 33 (by decide)), teR_c i7 (by rw [ks 4 (by omega)]) (ks _ (by omega)) (ks _ (by omega)) (mm 36 (by decide)), drR_c i8 (fun c a b => ks c (by omega)) (ks _ (by omega))⟩
    · show nmU (θ 29) (θ 28 6) ∧ nmI (θ 31) (θ 29) (θ 28 6) (θ 113) (θ 118) ∧ _
      rw [ks 29 (by omega), ks 28 (by omega), ks 31 (by omega), ks 118 (by omega)]
      exact ⟨h4.1, fun b b0 b1 => by rw [lo 4 (by omega)] at b1; exact h4.2.1 b b0 b1, h4.2.2⟩
    · have q := clR_x h5 (E := θ 113) (fun j j0 j1 => lo j (by omega))
      unfold clR at q ⊢
      rw [show 27 + 7 = 34 from rfl, show 27 + 8 = 35 from rfl, show 27 + 9 = 36 from rfl] at q ⊢
      rw [ks 34 (by omega), ks 35 (by omega), ks 36 (by omega)]; exact q
    · show _ ∧ θ 37 k = _
      rw [d261] at k1
      rcases (show k < σ 113 261 ∨ k = σ 113 261 by omega) with u | u
      · have z1 : θ 113 (262 + 2 * k) = σ 113 (262 + 2 * k) := by rw [y5]; unfold layD; rw [if_neg (by omega), if_neg (by omega), if_neg (by omega)]
        have z2 : θ 113 (262 + 2 * k + 1) = σ 113 (262 + 2 * k + 1) := by rw [y5]; unfold layD; rw [if_neg (by omega), if_neg (by omega), if_neg (by omega)]
        rw [z1, z2, t37o k (by omega)]
        exact l3 k k0 u
      · have z1 : θ 113 (262 + 2 * k) = a := by rw [y5, u]; unfold layD; rw [if_neg (by omega), if_pos rfl]
        have z2 : θ 113 (262 + 2 * k + 1) = b := by rw [y5, u]; unfold layD; rw [if_neg (by omega), if_neg (by omega), if_pos rfl]
        rw [z1, z2, u, l1', t37]
        exact ⟨c.2.2.2.2.1, rfl⟩
    · have q := seR_x h7 (E := θ 113) (fun j j0 => lo j (by omega))
      unfold seR at q ⊢
      rw [show 27 + 11 = 38 from rfl, show 27 + 12 = 39 from rfl, show 27 + 2 = 29 from rfl, show 27 + 1 = 28 from rfl] at q ⊢
      rw [ks 38 (by omega), ks 39 (by omega), ks 29 (by omega), ks 28 (by omega), ks 121 (by omega)]; exact q
  · obtain ⟨x1, x2⟩ := q2 (fun z => c (key.mp z))
    subst x2
    refine ⟨_, x1, (c_X13_line (Inv_k hρ).2.2.2.1 (Inv_G hρ).2 (Inv_G hρ).1 ha hb).mono (fun r' θ z => ?_)⟩
    obtain ⟨y1, y2⟩ := z.2 (by rw [e]; exact c)
    exact ⟨y1, by rw [y2]; exact Inv_a hρ (agr_ju _ 0)⟩
