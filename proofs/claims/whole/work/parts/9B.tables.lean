/-! ===== sentences and images ===== -/
/-- a name told by its place and by itself -/
theorem nm_eq {ids names : Int → Int} {m : Int} {D N : Int → Int} (hU : nmU names m) (hB : nmI ids names m D N) {w b : Int} (hw : 0 < w) (b0 : 0 ≤ b) (b1 : b < D 4) : (ids b = fi (fun i => names i = w) m ∧ ¬ fi (fun i => names i = w) m = -1) ↔ N b = w := by
  have fs := fi_spec (fun i => names i = w) hU.1.1
  constructor
  · rintro ⟨h1, h2⟩
    rcases fs with f | f
    · exact absurd f.1 h2
    · rcases hB b b0 b1 with u | u
      · rw [h1] at u; exact absurd u.1 h2
      · rw [u.2, h1]; exact f.2.2.1
  · intro h
    rcases hB b b0 b1 with u | u
    · omega
    · have q : names (ids b) = w := by rw [← u.2]; exact h
      rcases fs with f | f
      · exact absurd q (f.2 (ids b) u.1.1 u.1.2)
      · obtain ⟨f1, f2, f3, f4⟩ := f
        refine ⟨?_, by omega⟩
        rcases Int.lt_trichotomy (ids b) (fi (fun i => names i = w) m) with c | c | c
        · exact absurd q (f4 (ids b) u.1.1 c)
        · exact c
        · exact absurd (f3.trans q.symm) (hU.2.2 _ _ f1 c u.1.2)
theorem ag_sentence {σ : jS} (h : Inv σ) : Ag 42 47 miX12_sentence miX13_sentence [] σ := by
  obtain ⟨k1, k2, _, k4, k5, _, _, _⟩ := Inv_k h
  obtain ⟨i1, i2, i3, i4, i5, i6, i7, i8⟩ := h
  obtain ⟨idn, hid⟩ : ∃ f : Int → Int, ∀ w, f w = fi (fun i => σ 29 i = w) (σ 28 6) := ⟨_, fun _ => rfl⟩
  obtain ⟨ex, hex⟩ : ∃ f : Int → Prop, ∀ w, f w ↔ ¬ fi (fun b => σ 31 b = idn w ∧ ¬ idn w = -1) (σ 30 0) = -1 := ⟨_, fun _ => Iff.rfl⟩
  have nU : nmU (σ 29) (σ 28 6) := i3.2.1.1
  have nB : nmI (σ 31) (σ 29) (σ 28 6) (σ 113) (σ 118) := i3.2.1.2.1
  refine (c_X12_sentence i1.1 (ex := ex) (idn := idn) ⟨k1, k2, hid, hex⟩).mono (fun r τ q => ?_)
  obtain ⟨⟨q1, q3, q4, q5⟩, q7, q8⟩ := q
  have eL : τ 111 2 = σ 2 1 := by rw [q1 111 (by decide)]; exact i1.2.1
  have eT : mTp (tpe σ) (σ 2 1) τ := by unfold mTp; rw [q1 112 (by decide)]; exact i1.2.2
  have e113 : τ 113 = σ 113 := q1 113 (by decide)
  have e118 : τ 118 = σ 118 := q1 118 (by decide)
  have mp : MPn τ ex := by
    unfold MPn
    rw [e113, e118]
    refine ⟨k4.1.2.2.2.2.1, i3.2.1.2.2, fun w hw => ?_⟩
    rw [hex, k5]
    rw [fi_c (P := fun b => σ 31 b = idn w ∧ ¬ idn w = -1) (Q := fun b => σ 118 b = w) (fun b b0 b1 => by rw [hid]; exact nm_eq nU nB hw b0 b1)]
  have md := c_X13_sentence (σ := τ) eL i1.1 eT (ex := ex) (idn := idn) mp
  have fin : ∀ ρ, mdT [0, 2, 3, 4, 5, 6, 7, 8, 9, 10, 11, 13, 14, 46, 47, 48, 49, 50] [113, 121, 137, 138] τ ρ → ρ 111 2 = 0 → ρ 111 10 = (seF (tpe σ) (σ 2 1) ex idn).1.1 → (∀ j, 0 ≤ j → j < 105 → ρ 113 j = σ 113 j) → tbR ρ 27 (ρ 113) (σ 118) (ρ 121) → Inv ρ := fun ρ w1 w3 w5 lo tb => by
    have kT : ∀ c, c ≤ 110 → ρ c = τ c := fun c hc => w1.1 c (by omega) (by simp; omega)
    have k : ∀ c, ((3 ≤ c ∧ c ≤ 5) ∨ (7 ≤ c ∧ c ≤ 10) ∨ (27 ≤ c ∧ c ≤ 37) ∨ (41 ≤ c ∧ c ≤ 46) ∨ (53 ≤ c ∧ c ≤ 110)) → ρ c = σ c := fun c hc => by rw [kT c (by omega), q1 c (by simp; omega)]
    have kM : ∀ c, 116 ≤ c → c ≤ 130 → ¬ c = 121 → ρ c = σ c := fun c a b d => by rw [w1.1 c (by omega) (by simp; omega), q1 c (by simp; omega)]
    have m : ∀ j, j ∉ ([0, 2, 3, 4, 5, 6, 7, 8, 9, 10, 11, 13, 14, 46, 47, 48, 49, 50] : List Int) → ρ 111 j = σ 111 j := fun j hj => by rw [w1.2 j hj, q1 111 (by decide)]
    refine ⟨tpR_0 (by rw [kT 2 (by omega)]; exact q3) w3, ⟨by rw [w5, kT 0 (by omega), q5], by rw [m 12 (by decide), kT 0 (by omega), q4 14 (by decide)]; exact i2.2⟩, ?_, imR_c i4 (k 7 (by omega)) (fun c a b => k c (by omega)) (kM _ (by decide) (by decide) (by decide)) (kM _ (by decide) (by decide) (by decide)) (kM _ (by decide) (by decide) (by decide)) (kM _ (by decide) (by decide) (by decide)), paR_c i5 (by rw [kT 0 (by omega), q4 6 (by decide)]) (k 8 (by omega)) (fun c a b => k c (by omega)) (k 28 (by omega)) (k 29 (by omega)) (fun j j0 j1 _ => lo j j0 j1) (kM _ (by decide) (by decide) (by decide)) (kM _ (by decide) (by decide) (by decide)) (m 27 (by decide)), foR_c i6 (by rw [k 9 (by omega)]) (k 10 (by omega)) (kM 129 (by decide) (by decide) (by decide)) (m 33 (by decide)), teR_c i7 (by rw [k 4 (by omega)]) (k 5 (by omega)) (kM 130 (by decide) (by decide) (by decide)) (m 36 (by decide)), drR_c i8 (fun c a b => k c (by omega)) (kM 119 (by decide) (by decide) (by decide))⟩
    rw [kM 118 (by decide) (by decide) (by decide)]
    exact tb
  by_cases z : (seF (tpe σ) (σ 2 1) ex idn).1.1 = 0
  · obtain ⟨x1, x2, x3, x4, x5⟩ := q7 z
    refine ⟨_, x1, md.mono (fun r' ρ w => ?_)⟩
    obtain ⟨⟨w1, w2, w3, w5⟩, w7, _⟩ := w
    obtain ⟨y1, y2, y3, N, M, y4, y5, y6, y7, y8⟩ := w7 z
    have kT : ∀ c, c ≤ 110 → ρ c = τ c := fun c hc => w1.1 c (by omega) (by simp; omega)
    have k : ∀ c, (27 ≤ c ∧ c ≤ 37) → ρ c = σ c := fun c hc => by rw [kT c (by omega), q1 c (by simp; omega)]
    have lo : ∀ j, j < 270 → ρ 113 j = σ 113 j := fun j hj => by rw [y2 j (Or.inl hj), e113]
    refine ⟨y1, fin ρ w1 w3 w5 (fun j j0 j1 => lo j (by omega)) ?_⟩
    obtain ⟨⟨h1, h2, h3⟩, h4, h5, h6, h7⟩ := i3
    refine ⟨⟨okV_x h1 (fun j j0 j1 => lo j (by omega)), RC_t (RC_x h2 h1 (fun j j0 j1 => lo j (by omega))) (k 28 (by omega)) (k 30 (by omega)) (k 32 (by omega)) (k 33 (by omega)), okA_t h3 (k _ (by omega)) (k _ (by omega)) (k _ (by omega)) (k _ (by omega)) (k _ (by omega)) (k _ (by omega))⟩, ?_, ?_, ?_, Or.inr ⟨y3, ?_, (seF (tpe σ) (σ 2 1) ex idn).2.2, N, M, idn, ?_, y4, y5, y6, y7, y8, ?_⟩⟩
    · show nmU (ρ 29) (ρ 28 6) ∧ nmI (ρ 31) (ρ 29) (ρ 28 6) (ρ 113) (σ 118) ∧ _
      rw [k 29 (by omega), k 28 (by omega), k 31 (by omega)]
      exact ⟨h4.1, fun b b0 b1 => by rw [lo 4 (by omega)] at b1; exact h4.2.1 b b0 b1, h4.2.2⟩
    · have q := clR_x h5 (E := ρ 113) (fun j j0 j1 => lo j (by omega))
      unfold clR at q ⊢
      rw [show 27 + 7 = 34 from rfl, show 27 + 8 = 35 from rfl, show 27 + 9 = 36 from rfl] at q ⊢
      rw [k 34 (by omega), k 35 (by omega), k 36 (by omega)]; exact q
    · obtain ⟨l1, l2, l3⟩ := h6
      have e261 := lo 261 (by omega)
      have pe : pkD (ρ 113) = pkD (σ 113) := by
        funext p
        unfold pkD
        rw [lo 0 (by omega), lo 1 (by omega)]
        split
        · rename_i hp
          have := h1.1
          rw [lo (5 + p) (by omega)]
        · rfl
      have m4 := l2.1
      refine ⟨by rw [e261, k 27 (by omega)]; exact l1, ⟨by rw [e261]; exact m4, fun k k0 k1 => by rw [e261] at k1; rw [pe, lo _ (by omega)]; exact l2.2.1 k k0 k1, fun k l k0 kl l1 => by rw [e261] at l1; rw [lo _ (by omega), lo _ (by omega)]; exact l2.2.2 k l k0 kl l1⟩, fun x x0 x1 => ?_⟩
      rw [e261] at x1
      show _ ∧ ρ 37 x = _
      rw [lo _ (by omega), lo _ (by omega), k 37 (by omega)]
      exact l3 x x0 x1
    · show 0 < ρ 38 0 ∧ ρ 38 0 ≤ 39
      rw [kT 38 (by omega)]; exact x4
    · show rpC (ρ 39) 0 (ρ 38 0) _ 20
      rw [kT 38 (by omega), kT 39 (by omega)]; exact x5
    · intro w
      show idn w = fi (fun i => ρ 29 i = w) (ρ 28 6)
      rw [k 29 (by omega), k 28 (by omega)]; exact hid w
  · obtain ⟨x1, x2, x3⟩ := q8 z
    refine ⟨_, x1, md.mono (fun r' ρ w => ?_)⟩
    obtain ⟨⟨w1, w2, w3, w5⟩, _, w7⟩ := w
    obtain ⟨y1, y2, y3⟩ := w7 z
    refine ⟨y1, fin ρ w1 w3 w5 (fun j j0 j1 => by rw [y2, e113]) ?_⟩
    rw [y2, e113, show ρ 121 = σ 121 by rw [y3, q1 121 (by decide)]]
    refine tbR_t i3 (fun c a b => ?_)
    rw [w1.1 c (by omega) (by simp; omega)]
    rcases (show c = 38 ∨ c = 39 ∨ (¬ c = 38 ∧ ¬ c = 39) by omega) with u | u | u
    · rw [u]; exact x2
    · rw [u]; exact x3
    · exact q1 c (by simp; omega)
theorem fi_c2 {P Q : Int → Prop} {n m : Int} (e : n = m) (h : ∀ i, 0 ≤ i → i < m → (P i ↔ Q i)) : fi P n = fi Q m := by rw [e]; exact fi_c h
/-- a table that is copied tells the same -/
theorem tbR_cp {σ τ : jS} {k o : Nat} {D N S E N' S' : Int → Int} (h : tbR σ o D N S) (c : cpT σ τ k o) (h7 : cB 5 (τ (k + 1) 7)) (eD : ∀ j, 0 ≤ j → j < 512 → E j = D j) (eN : ∀ j, 0 ≤ j → j < 8 → N' j = N j) (eS : ∀ j, 0 ≤ j → j < 20 → S' j = S j) : tbR τ k E N' S' := by
  obtain ⟨⟨h1, h2, h3⟩, ⟨h4, h5, h6⟩, h8, h9, h10⟩ := h
  obtain ⟨c1, c2, c3, c4, c5⟩ := c
  have lo : ∀ j, 0 ≤ j → j < 241 → E j = D j := fun j a b => eD j a (by omega)
  have c16 : τ (k + 1) 6 = σ (o + 1) 6 := c1.1 6 (by decide) (by decide)
  have e4 := lo 4 (by decide) (by decide)
  have n8 := h1.2.2.2.1
  have nm8 := h4.1
  have nmr : ∀ j, 0 ≤ j → j < 8 → τ (k + 2) j = σ (o + 2) j := c1.2.1
  have idr : ∀ j, 0 ≤ j → j < 8 → τ (k + 4) j = σ (o + 4) j := c1.2.2.2.1
  refine ⟨⟨okV_x h1 lo, RC_x (RC_cp h2 h1 c1) h1 lo, okA_cp h3 c1 h7⟩, ⟨?_, ?_, fun j j0 j1 => by rw [eN j j0 j1]; exact h6 j j0 j1⟩, ?_, ?_, ?_⟩
  · rw [c16]
    exact ⟨nm8, fun i a b => by rw [nmr i a (by omega)]; exact h4.2.1 i a b, fun i j a b d => by rw [nmr i a (by omega), nmr j (by omega) (by omega)]; exact h4.2.2 i j a b d⟩
  · rw [c16]
    intro b b0 b1
    rw [e4] at b1
    rw [idr b b0 (by omega), eN b b0 (by omega)]
    rcases h5 b b0 b1 with u | u
    · exact Or.inl u
    · refine Or.inr ⟨u.1, ?_⟩
      rw [nmr _ u.1.1 (by omega)]; exact u.2
  · have q := clR_x h8 (E := E) (fun j a b => eD j (by omega) (by omega))
    have r0 : τ (k + 7) 0 = σ (o + 7) 0 := c2.1 0 (by decide) (by decide)
    obtain ⟨q1, q2, q3⟩ := q
    refine ⟨by rw [r0]; exact q1, q2, ?_⟩
    rw [r0, show τ (k + 7) 1 = σ (o + 7) 1 from c2.1 1 (by decide) (by decide), show τ (k + 7) 2 = σ (o + 7) 2 from c2.1 2 (by decide) (by decide)]
    have m8 := q2.1
    refine q3.imp id (fun y => ⟨y.1, y.2.1, y.2.2.1, fun i a b => ?_⟩)
    rw [show τ (k + 8) i = σ (o + 8) i from c2.2.1 i a (by omega), show τ (k + 9) i = σ (o + 9) i from c2.2.2 i a (by omega)]
    exact y.2.2.2 i a b
  · obtain ⟨l1, l2, l3⟩ := h9
    have m4 := l2.1
    have e261 := eD 261 (by decide) (by decide)
    have pe : pkD E = pkD D := by
      funext p
      unfold pkD
      rw [lo 0 (by decide) (by decide), lo 1 (by decide) (by decide)]
      split
      · rename_i hp
        have := h1.1
        rw [lo (5 + p) (by omega) (by omega)]
      · rfl
    refine ⟨by rw [e261, c3]; exact l1, ⟨by rw [e261]; exact m4, fun x x0 x1 => by rw [e261] at x1; rw [pe, eD _ (by omega) (by omega)]; exact l2.2.1 x x0 x1, fun x y x0 xy y1 => by rw [e261] at y1; rw [eD _ (by omega) (by omega), eD _ (by omega) (by omega)]; exact l2.2.2 x y x0 xy y1⟩, fun x x0 x1 => ?_⟩
    rw [e261] at x1
    rw [eD _ (by omega) (by omega), eD _ (by omega) (by omega), c4 x x0 (by omega)]
    exact l3 x x0 x1
  · have r0 : τ (k + 11) 0 = σ (o + 11) 0 := c5.1
    unfold seR
    rw [r0, eD 270 (by decide) (by decide), eD 271 (by decide) (by decide), c16]
    refine h10.imp id (fun y => ⟨y.1, y.2.1, ?_⟩)
    obtain ⟨f, N1, M1, idn, y1, y2, y3, y4, y5, y6, y7⟩ := y.2.2
    have s39 := y.2.1
    have ee : ∀ j, 0 ≤ j → j < 4 * N1 → (fun j => E (272 + j)) j = (fun j => D (272 + j)) j := fun j a b => eD _ (by omega) (by omega)
    refine ⟨f, N1, M1, idn, rpC_c y1 (fun j a b => c5.2.2 j a (by omega)), y2, y3, ?_, fun j a b => by rw [eS j a (by omega)]; exact y5 j a b, rpM_x y6 (Int.le_refl _) (Int.le_refl _) ee (fun j a b => eS j a (by omega)), fun w => ?_⟩
    · intro i a0 a1
      have q := y4 i a0 a1
      rw [ee (4 * i) (by omega) (by omega), ee (4 * i + 1) (by omega) (by omega), ee (4 * i + 2) (by omega) (by omega), ee (4 * i + 3) (by omega) (by omega)]
      exact q
    · rw [y7 w]
      refine fi_c (fun i a b => ?_)
      rw [nmr i a (by omega)]
