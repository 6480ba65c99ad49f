/-! ===== boards stay boards ===== -/
theorem pkR_c {D E : Int → Int} (h0 : E 0 = D 0) (h1 : E 1 = D 1) (hw : D 0 ≤ 10) (hh : D 1 ≤ 10) (hp : ∀ p, 0 ≤ p → p < 100 → E (5 + p) = D (5 + p)) : pkR (dS E) 0 = pkR (dS D) 0 := by
  funext p
  unfold pkR
  show (if 0 ≤ p ∧ p % 10 < E 0 ∧ p / 10 < E 1 then (if E (5 + p) = 0 then 1 else 0) else -1) = (if 0 ≤ p ∧ p % 10 < D 0 ∧ p / 10 < D 1 then (if D (5 + p) = 0 then 1 else 0) else (-1 : Int))
  rw [h0, h1]
  split
  · rw [hp p (by omega) (by omega)]
  · rfl
theorem rP_c {D E : Int → Int} {b : Int} (hn : 0 < D (105 + 17 * b) ∧ D (105 + 17 * b) ≤ 8) (hb : ∀ j, 105 + 17 * b ≤ j → j < 105 + 17 * b + 17 → E j = D j) : rP (dS E) 0 b = rP (dS D) 0 b := by
  funext i
  have e1 := Int.emod_nonneg i (show D (105 + 17 * b) ≠ 0 by omega)
  have e2 := Int.emod_lt_of_pos i hn.1
  show 10 * E (105 + 17 * b + 2 + 2 * (i % E (105 + 17 * b))) + E (105 + 17 * b + 1 + 2 * (i % E (105 + 17 * b))) = 10 * D (105 + 17 * b + 2 + 2 * (i % D (105 + 17 * b))) + D (105 + 17 * b + 1 + 2 * (i % D (105 + 17 * b)))
  rw [hb (105 + 17 * b) (by omega) (by omega), hb _ (by omega) (by omega), hb _ (by omega) (by omega)]
theorem gB_c {D E : Int → Int} {b : Int} (h0 : E 0 = D 0) (h1 : E 1 = D 1) (hw : D 0 ≤ 10) (hh : D 1 ≤ 10) (hp : ∀ p, 0 ≤ p → p < 100 → E (5 + p) = D (5 + p)) (hb : ∀ j, 105 + 17 * b ≤ j → j < 105 + 17 * b + 17 → E j = D j) (g : gB D b) : gB E b := by
  obtain ⟨g1, g2, g3⟩ := g
  have en : E (105 + 17 * b) = D (105 + 17 * b) := hb _ (by omega) (by omega)
  have ec : cn (dS E) 0 b = cn (dS D) 0 b := en
  refine ⟨by rw [en]; exact g1, fun i i0 i1 => ?_, ?_⟩
  · rw [en] at i1
    rw [hb (105 + 17 * b + 1 + 2 * i) (by omega) (by omega), hb (105 + 17 * b + 2 + 2 * i) (by omega) (by omega), h0, h1]
    exact g2 i i0 i1
  · rw [ec, rP_c (by omega) hb, pkR_c h0 h1 hw hh hp]
    exact g3
theorem sm_0 : ∀ n : Nat, sm (fun _ => 0) n = 0
  | 0 => rfl
  | n + 1 => by rw [sm, sm_0 n]; rfl
theorem sm_up {D : Int → Int} {q : Int} (h : 0 ≤ q) (hz : D (5 + q) = 0) : ∀ n : Nat, sm (fun p => up D (5 + q) 1 (5 + p)) n = sm (fun p => D (5 + p)) n + (if q < n then 1 else 0)
  | 0 => by rw [sm, sm, if_neg (by omega)]; rfl
  | n + 1 => by
    rw [sm, sm, sm_up h hz n]
    by_cases hq : q = n
    · subst hq
      rw [up_at, hz, if_neg (by omega), if_pos (by omega)]
    · rw [up_ne (by omega)]
      by_cases h2 : q < n
      · rw [if_pos h2, if_pos (by omega)]; omega
      · rw [if_neg h2, if_neg (by omega)]; omega
section
variable {t : Int → Int} {L m : Int}
theorem okV_hd {R : Int × Int} {D : Int → Int} (hD : ∀ j, 0 ≤ j → j < 241 → D j = 0) (h : (hdR t L m R).1 = 0) : okV (hdD t L m R D) ∧ okT2 (hdD t L m R D) ∧ hdD t L m R D 4 = 0 := by
  unfold hdR at h
  obtain ⟨h1, -⟩ := xpR_f h
  obtain ⟨h2, h3, h4, -⟩ := nmR_f h1.1
  obtain ⟨h5, h6, h7, -⟩ := nmR_f h2.1
  have e0 : hdD t L m R D 0 = nQ t L m (xpR t L m 100 R).2 := by unfold hdD; rw [up_ne (by decide), up_at]
  have e1 : hdD t L m R D 1 = nQ t L m (nmR t L m 2 10 (xpR t L m 100 R)).2 := by unfold hdD; rw [up_at]
  have dn : ∀ j, 2 ≤ j → j < 241 → hdD t L m R D j = 0 := fun j j0 j1 => by unfold hdD; rw [up_ne (by omega), up_ne (by omega), hD j (by omega) j1]
  have e2 := dn 2 (by decide) (by decide)
  have e3 := dn 3 (by decide) (by decide)
  have e4 := dn 4 (by decide) (by decide)
  refine ⟨⟨Or.inr ⟨by omega, by omega, by omega, by omega⟩, by omega, by omega, by omega, fun p p0 p1 => ?_, ?_, fun b b0 b1 => by omega⟩, ⟨by omega, by omega, by omega, by omega⟩, e4⟩
  · have := dn (5 + p) (by omega) (by omega)
    exact ⟨by omega, fun z => absurd this z⟩
  · rw [e3, smI_congr (g := fun _ => 0) (fun p p0 p1 => dn (5 + p) (by omega) (by omega))]
    exact (sm_0 100).symm
theorem okV_bl {D : Int → Int} (hV : okV D) : okV (blD D) := by
  obtain ⟨v0, v2, v3, v4, v5, v6, v7⟩ := hV
  have e : ∀ j, ¬ j = 2 → blD D j = D j := fun j hj => up_ne hj
  have e2 : blD D 2 = 1 := up_at _ _ _
  refine ⟨by rw [e 0 (by decide), e 1 (by decide)]; exact v0, by rw [e2]; omega, by rw [e 3 (by decide)]; exact v3, by rw [e 4 (by decide)]; exact v4, fun p p0 p1 => by rw [e (5 + p) (by omega), e 0 (by decide), e 1 (by decide)]; exact v5 p p0 p1, ?_, fun b b0 b1 => ?_⟩
  · rw [e 3 (by decide), v6]
    exact smI_congr (fun p p0 p1 => (e (5 + p) (by omega)).symm)
  · rw [e 4 (by decide)] at b1
    exact gB_c (e 0 (by decide)) (e 1 (by decide)) (by omega) (by omega) (fun p p0 p1 => e _ (by omega)) (fun j j0 j1 => e j (by omega)) (v7 b b0 b1)
theorem ot_0 {R : Int × Int} {D : Int → Int} (h : (otR t L m R D).1 = 0) : D 4 ≤ 0 ∧ D 3 < 12 ∧ D (5 + otP t L m R D) = 0 ∧ snR t L m 2 (ot0 t L m R D) ∧ snR t L m 2 (ot1 t L m R D) ∧ (0 ≤ nQ t L m (ot0 t L m R D).2 ∧ nQ t L m (ot0 t L m R D).2 ≤ D 0 - 1) ∧ (0 ≤ nQ t L m (ot1 t L m R D).2 ∧ nQ t L m (ot1 t L m R D).2 ≤ D 1 - 1) ∧ ot2 t L m R D = ot1 t L m R D := by
  unfold otR at h
  rw [stR_f] at h
  by_cases hz : D (5 + otP t L m R D) = 0
  · rw [gte_t hz] at h
    obtain ⟨h1, h2, h3, h3b⟩ := ckR_f h
    obtain ⟨h4, h5, h6, -⟩ := nmR_f h1.1
    have h7 := h4.1
    unfold ot0 at h7
    rw [stR_f] at h7
    by_cases g1 : 0 < D 4
    · rw [gte_t g1] at h7; exact absurd h7 (flR_f (by decide))
    · rw [gte_f g1] at h7
      by_cases g2 : 12 ≤ D 3
      · rw [gte_t g2] at h7; exact absurd h7 (flR_f (by decide))
      · exact ⟨by omega, by omega, hz, h4, h1, ⟨h5, h6⟩, ⟨h2, h3⟩, h3b⟩
  · rw [gte_f hz] at h; exact absurd h (flR_f (by decide))
theorem okV_ot {R : Int × Int} {D : Int → Int} (hV : okV D) (hw : okT2 D) (h : (otR t L m R D).1 = 0) : okV (otD t L m R D) := by
  obtain ⟨v0, v2, v3, v4, v5, v6, v7⟩ := hV
  obtain ⟨h1, h2, h3, -, -, h4, h5, -⟩ := ot_0 h
  unfold okT2 at hw
  have hp : otP t L m R D = 10 * nQ t L m (ot1 t L m R D).2 + nQ t L m (ot0 t L m R D).2 := rfl
  obtain ⟨q, hq⟩ : ∃ q, otP t L m R D = q := ⟨_, rfl⟩
  rw [hq] at h3 hp
  have e : ∀ j, ¬ j = 3 → otD t L m R D j = up D (5 + q) 1 j := fun j a => by unfold otD; rw [up_ne a, hq]
  have e3 : otD t L m R D 3 = D 3 + 1 := by unfold otD; rw [up_at]
  have en : ∀ j, ¬ j = 3 → ¬ j = 5 + q → otD t L m R D j = D j := fun j a b => by rw [e j a, up_ne b]
  have e5 : otD t L m R D (5 + q) = 1 := by rw [e _ (by omega), up_at]
  refine ⟨by rw [en 0 (by decide) (by omega), en 1 (by decide) (by omega)]; exact v0, by rw [en 2 (by decide) (by omega)]; exact v2, by rw [e3]; omega, by rw [en 4 (by decide) (by omega)]; exact v4, fun p p0 p1 => ?_, ?_, fun b b0 b1 => ?_⟩
  · rw [en 0 (by decide) (by omega), en 1 (by decide) (by omega)]
    by_cases hp2 : p = q
    · subst hp2
      rw [e5]
      exact ⟨by omega, fun _ => by omega⟩
    · rw [en (5 + p) (by omega) (by omega)]
      exact v5 p p0 p1
  · have hs := sm_up (D := D) (q := q) (by omega) h3 100
    have e9 : smI (fun p => otD t L m R D (5 + p)) 100 = smI (fun p => up D (5 + q) 1 (5 + p)) 100 := smI_congr (fun p p0 p1 => e _ (by omega))
    rw [e3, e9]
    show _ = sm _ 100
    rw [hs, if_pos (by show q < ((100 : Nat) : Int); omega), v6]
    rfl
  · rw [en 4 (by decide) (by omega)] at b1
    omega
end
/-! ===== bands that are read ===== -/
theorem E5_c {n : Int} {P : Int → Int} {m x y : Int} {N N' : Int → Int} {Q Q' : Int → Int → Int} (hx : ∀ o, 0 ≤ o → o < m → (¬ o = x ↔ ¬ o = y)) (hN : ∀ o, 0 ≤ o → o < m → ¬ o = x → N' o = N o) (hQ : ∀ o, 0 ≤ o → o < m → ¬ o = x → Q' o = Q o) : E5 n P m x N Q ↔ E5 n P m y N' Q' := by
  constructor
  · rintro ⟨o, i, j, ho, hi, hj, e⟩
    refine ⟨o, i, j, ⟨ho.1, ho.2.1, (hx o ho.1 ho.2.1).mp ho.2.2⟩, hi, ?_, ?_⟩
    · rw [hN o ho.1 ho.2.1 ho.2.2]; exact hj
    · rw [hQ o ho.1 ho.2.1 ho.2.2]; exact e
  · rintro ⟨o, i, j, ho, hi, hj, e⟩
    have hx2 := (hx o ho.1 ho.2.1).mpr ho.2.2
    rw [hN o ho.1 ho.2.1 hx2] at hj
    rw [hQ o ho.1 ho.2.1 hx2] at e
    exact ⟨o, i, j, ⟨ho.1, ho.2.1, hx2⟩, hi, hj, e⟩
theorem wrF_c {n : Int} {P pk : Int → Int} {bell m x y : Int} {N N' : Int → Int} {Q Q' : Int → Int → Int} (h : E5 n P m x N Q ↔ E5 n P m y N' Q') : wrF n P pk bell m x N Q = wrF n P pk bell m y N' Q' := by
  unfold wrF
  rw [show (bell = 0 ∧ E5 n P m x N Q) = (bell = 0 ∧ E5 n P m y N' Q') by rw [propext h]]
theorem wrF_A {n : Int} {P pk : Int → Int} {bell m x : Int} {N : Int → Int} {Q : Int → Int → Int} (h : wrF n P pk bell m x N Q = 0) : wrA n P pk = 0 := by
  apply Classical.byContradiction
  intro z
  rw [wrF_n rfl z] at h
  exact z h
theorem wrA_c {n : Int} {P P' pk : Int → Int} (h : ∀ i, 0 ≤ i → P' i = P i) : wrA n P' pk = wrA n P pk := by
  have e1 : E1 n P' pk = E1 n P pk := propext ⟨fun ⟨i, a, b⟩ => ⟨i, a, by rw [← h i a.1]; exact b⟩, fun ⟨i, a, b⟩ => ⟨i, a, by rw [h i a.1]; exact b⟩⟩
  have e2 : E2 n P' = E2 n P := propext ⟨fun ⟨i, j, a, b⟩ => ⟨i, j, a, by rw [← h i (by omega), ← h j (by omega)]; exact b⟩, fun ⟨i, j, a, b⟩ => ⟨i, j, a, by rw [h i (by omega), h j (by omega)]; exact b⟩⟩
  have e3 : E3 n P' = E3 n P := propext ⟨fun ⟨i, a, b⟩ => ⟨i, a, by rw [← h i (by omega), ← h (i + 1) (by omega), ← h (i + 2) (by omega)]; exact b⟩, fun ⟨i, a, b⟩ => ⟨i, a, by rw [h i (by omega), h (i + 1) (by omega), h (i + 2) (by omega)]; exact b⟩⟩
  have e4 : E4 n P' = E4 n P := propext ⟨fun ⟨i, j, a, b⟩ => ⟨i, j, a, by rw [← h i (by omega), ← h (i + 1) (by omega), ← h j (by omega), ← h (j + 1) (by omega)]; exact b⟩, fun ⟨i, j, a, b⟩ => ⟨i, j, a, by rw [h i (by omega), h (i + 1) (by omega), h j (by omega), h (j + 1) (by omega)]; exact b⟩⟩
  unfold wrA
  rw [e1, e2, e3, e4]
/-- corners within the board are where they are told -/
theorem cP_in {D : Int → Int} {b : Int} (hn : 0 < D (105 + 17 * b)) (h : ∀ i, 0 ≤ i → i < D (105 + 17 * b) → (0 ≤ D (105 + 17 * b + 1 + 2 * i) ∧ D (105 + 17 * b + 1 + 2 * i) < D 0) ∧ (0 ≤ D (105 + 17 * b + 2 + 2 * i) ∧ D (105 + 17 * b + 2 + 2 * i) < D 1)) : cP (dS D) 0 b = rP (dS D) 0 b := by
  funext i
  have e1 := Int.emod_nonneg i (show D (105 + 17 * b) ≠ 0 by omega)
  have e2 := Int.emod_lt_of_pos i hn
  have q := h _ e1 e2
  show (if 0 ≤ D (105 + 17 * b + 1 + 2 * (i % D (105 + 17 * b))) ∧ 0 ≤ D (105 + 17 * b + 2 + 2 * (i % D (105 + 17 * b))) ∧ D (105 + 17 * b + 1 + 2 * (i % D (105 + 17 * b))) < D 0 ∧ D (105 + 17 * b + 2 + 2 * (i % D (105 + 17 * b))) < D 1 then _ else _) = _
  rw [if_pos ⟨q.1.1, q.2.1, q.1.2, q.2.2⟩]
  rfl
section
variable {t : Int → Int} {L m : Int}
def n5 (R : Int × Int) : Prop := ¬ R.1 = 5
theorem n5_fl {f : Int} {R : Int × Int} (hf : ¬ f = 5) (h : n5 R) : n5 (flR t L m f R) := by
  by_cases g : R.1 = 0
  · rw [flR_y g]; exact hf
  · rw [flR_n g]; exact h
theorem n5_st {R : Int × Int} (h : n5 R) : n5 (stR t L m R) := by unfold n5; rw [stR_f]; exact h
theorem n5_gt {P : Prop} {R S : Int × Int} (h : n5 R) (g : n5 S) : n5 (gte P R S) := by
  by_cases p : P
  · rw [gte_t p]; exact h
  · rw [gte_f p]; exact g
theorem n5_ck {a b : Int} {R : Int × Int} (h : n5 R) : n5 (ckR t L m a b R) := by
  by_cases h1 : snR t L m 2 R
  · by_cases h2 : nQ t L m R.2 < a ∨ b < nQ t L m R.2
    · rw [ckR_o h1 h2]; exact n5_fl (by decide) h
    · rw [ckR_y h1 h2]; exact h
  · rw [ckR_n h1]; exact n5_fl (by decide) h
theorem n5_nm {a b : Int} {R : Int × Int} (h : n5 R) : n5 (nmR t L m a b R) := n5_st (n5_ck h)
theorem n5_xp {k : Int} {R : Int × Int} (h : n5 R) : n5 (xpR t L m k R) := by
  by_cases g : snR t L m k R
  · rw [xpR_y g]; exact n5_st h
  · rw [xpR_n g]; exact n5_fl (by decide) h
theorem n5_co2 {n : Int} {R : Int × Int} {D : Int → Int} (h : n5 R) : n5 (co2 t L m n R D) := n5_nm (n5_st (n5_gt (n5_fl (by decide) (n5_ck h)) (n5_ck h)))
theorem n5_coF {a : Int} : ∀ (k : Nat) (n : Int) (R : Int × Int) (D : Int → Int), n5 R → n5 (coF t L m a k n R D).1
  | 0, _, _, _, h => h
  | k + 1, n, R, D, h => by
    rw [coF]
    by_cases h1 : ¬ R.1 = 0 ∨ (3 ≤ n ∧ ¬ tK t L m R.2 = 2)
    · rw [gte_t h1]; exact h
    · rw [gte_f h1]
      by_cases h2 : (co2 t L m n R D).1 = 0
      · rw [gte_t h2]; exact n5_coF k _ _ _ (n5_co2 h)
      · rw [gte_f h2]; exact n5_co2 h
theorem n5_nm1 {M : Int} {N : Int → Int} {R : Int × Int} (h : n5 R) : n5 (nm1 t L m R M N) := n5_st (n5_gt (n5_gt (n5_fl (by decide) h) h) (n5_fl (by decide) h))
theorem n5_bn0 {R : Int × Int} {D : Int → Int} (h : n5 R) : n5 (bn0 t L m R D) := n5_st (n5_gt (n5_fl (by decide) h) h)
theorem n5_bn1 {R : Int × Int} {D N : Int → Int} (h : n5 R) : n5 (bn1 t L m R D N) := n5_gt (n5_coF _ _ _ _ (n5_nm1 (n5_bn0 h))) (n5_fl (by decide) (n5_coF _ _ _ _ (n5_nm1 (n5_bn0 h))))
theorem n5_ot {R : Int × Int} {D : Int → Int} (h : n5 R) : n5 (otR t L m R D) := by
  have h1 : n5 (ot2 t L m R D) := n5_ck (n5_nm (n5_st (n5_gt (n5_fl (by decide) h) (n5_gt (n5_fl (by decide) h) h))))
  exact n5_st (n5_gt h1 (n5_fl (by decide) h1))
theorem n5_bl {R : Int × Int} {D : Int → Int} (h : n5 R) : n5 (blR t L m R D) := n5_st (n5_gt h (n5_fl (by decide) h))
theorem n5_0 {q : Int} : n5 (0, q) := fun h => absurd (show (0 : Int) = 5 from h) (by decide)
theorem bn0_0 {R : Int × Int} {D : Int → Int} (h : (bn0 t L m R D).1 = 0) : D 4 < 8 ∧ R.1 = 0 := by
  unfold bn0 at h
  rw [stR_f] at h
  by_cases g : 8 ≤ D 4
  · rw [gte_t g] at h; exact absurd h (flR_f (by decide))
  · rw [gte_f g] at h; exact ⟨by omega, h⟩
theorem nm1_0 {R : Int × Int} {M : Int} {N : Int → Int} (h : (nm1 t L m R M N).1 = 0) : snR t L m 3 R ∧ ¬ (∃ b, 0 ≤ b ∧ b < M ∧ N b = wQ t L m R.2) ∧ nm1 t L m R M N = stR t L m R := by
  unfold nm1 at h ⊢
  rw [stR_f] at h
  by_cases g : snR t L m 3 R
  · rw [gte_t g] at h ⊢
    by_cases e : ∃ b, 0 ≤ b ∧ b < M ∧ N b = wQ t L m R.2
    · rw [gte_t e] at h; exact absurd h (flR_f (by decide))
    · rw [gte_f e]; exact ⟨g, e, rfl⟩
  · rw [gte_f g] at h; exact absurd h (flR_f (by decide))
theorem coF_0 {a : Int} : ∀ (k : Nat) (n : Int) (R : Int × Int) (D : Int → Int), (coF t L m a k n R D).1.1 = 0 → R.1 = 0
  | 0, _, _, _, h => h
  | k + 1, n, R, D, h => by
    by_cases h1 : R.1 = 0
    · exact h1
    · rw [coF_e h1] at h; exact absurd h h1
theorem bn1_0 {R : Int × Int} {D N : Int → Int} (h : (bn1 t L m R D N).1 = 0) : snR t L m 59 (bnC t L m R D N).1 ∧ bn1 t L m R D N = (bnC t L m R D N).1 := by
  unfold bn1 at h ⊢
  by_cases g : snR t L m 59 (bnC t L m R D N).1
  · rw [gte_t g]; exact ⟨g, rfl⟩
  · rw [gte_f g] at h; exact absurd h (flR_f (by decide))
theorem bnC_G {R : Int × Int} {D N : Int → Int} (h0 : 0 ≤ D 4) : coG (105 + 17 * D 4) (bnC t L m R D N).2.2 (up D (105 + 17 * D 4) 0) (bnC t L m R D N).2.1 ∧ ((bnC t L m R D N).1.1 = 0 → 3 ≤ (bnC t L m R D N).2.2 ∧ (bnC t L m R D N).2.2 ≤ 8) :=
  coF_ok (by omega) 9 0 _ _ (by decide) (by decide) rfl ⟨fun i i0 i1 => by omega, up_at _ _ _, fun j hj => rfl⟩
theorem bnC_f {R : Int × Int} {D N : Int → Int} (h0 : 0 ≤ D 4) (j : Int) (hj : j < 105 + 17 * D 4 ∨ 105 + 17 * D 4 + 17 ≤ j) : (bnC t L m R D N).2.1 j = D j := by
  rw [(bnC_G h0).1.2.2 j hj, up_ne (by omega)]
theorem bnR_0 {R : Int × Int} {D N : Int → Int} (h : (bnR t L m R D N).1 = 0) : bnW t L m R D N = 0 ∧ (bn1 t L m R D N).1 = 0 ∧ bnR t L m R D N = bn1 t L m R D N := by
  unfold bnR at h ⊢
  by_cases g : bnW t L m R D N = 0
  · rw [gte_t g] at h ⊢; exact ⟨g, h, rfl⟩
  · rw [gte_f g] at h; exact absurd h (flR_f (by decide))
theorem bn_chain {R : Int × Int} {D N : Int → Int} (h : (bn1 t L m R D N).1 = 0) : snR t L m 59 (bnC t L m R D N).1 ∧ (nm1 t L m (bn0 t L m R D) (D 4) N).1 = 0 ∧ snR t L m 3 (bn0 t L m R D) ∧ ¬ (∃ b, 0 ≤ b ∧ b < D 4 ∧ N b = wQ t L m (bn0 t L m R D).2) ∧ D 4 < 8 ∧ R.1 = 0 := by
  have h1 := (bn1_0 h).1
  have h2 := coF_0 _ _ _ _ h1.1
  have h3 := nm1_0 h2
  have h4 := bn0_0 h3.1.1
  exact ⟨h1, h2, h3.1, h3.2.1, h4.1, h4.2⟩
theorem okV_bn {R : Int × Int} {D N : Int → Int} (hV : okV D) (hw : okT2 D) (h : (bnR t L m R D N).1 = 0) : okV (bnD t L m R D N) := by
  obtain ⟨v0, v2, v3, v4, v5, v6, v7⟩ := hV
  obtain ⟨w0, w1, -⟩ := bnR_0 h
  obtain ⟨c1, c2, c3, c4, c5, c6⟩ := bn_chain w1
  have hG := bnC_G (t := t) (L := L) (m := m) (R := R) (D := D) (N := N) v4.1
  have h38 := hG.2 c1.1
  obtain ⟨⟨g1, g2, g3⟩, -⟩ := hG
  have fr := bnC_f (t := t) (L := L) (m := m) (R := R) (D := D) (N := N) v4.1
  unfold okT2 at hw
  have e : ∀ j, ¬ j = 4 → bnD t L m R D N j = (bnC t L m R D N).2.1 j := fun j hj => up_ne hj
  have e4 : bnD t L m R D N 4 = D 4 + 1 := up_at _ _ _
  have eD : ∀ j, ¬ j = 4 → (j < 105 + 17 * D 4 ∨ 105 + 17 * D 4 + 17 ≤ j) → bnD t L m R D N j = D j := fun j hj h2 => by rw [e j hj, fr j h2]
  have ep : ∀ p, 0 ≤ p → p < 100 → bnD t L m R D N (5 + p) = D (5 + p) := fun p p0 p1 => eD _ (by omega) (by omega)
  have e0 := eD 0 (by decide) (by omega)
  have e1 := eD 1 (by decide) (by omega)
  refine ⟨by rw [e0, e1]; exact v0, by rw [eD 2 (by decide) (by omega)]; exact v2, by rw [eD 3 (by decide) (by omega)]; exact v3, by rw [e4]; omega, fun p p0 p1 => by rw [ep p p0 p1, e0, e1]; exact v5 p p0 p1, ?_, fun b b0 b1 => ?_⟩
  · rw [eD 3 (by decide) (by omega), v6]
    exact smI_congr (fun p p0 p1 => (ep p p0 p1).symm)
  · rw [e4] at b1
    by_cases hb : b = D 4
    · subst hb
      generalize hE : (bnC t L m R D N).2.1 = E at *
      have a0 : E (105 + 17 * D 4) = (bnC t L m R D N).2.2 := g2
      have f0 : E 0 = D 0 := fr 0 (by omega)
      have f1 : E 1 = D 1 := fr 1 (by omega)
      have gE : gB E (D 4) := by
        have u0 : up D (105 + 17 * D 4) 0 0 = D 0 := up_ne (by omega)
        have u1 : up D (105 + 17 * D 4) 0 1 = D 1 := up_ne (by omega)
        have hin : ∀ i, 0 ≤ i → i < E (105 + 17 * D 4) → (0 ≤ E (105 + 17 * D 4 + 1 + 2 * i) ∧ E (105 + 17 * D 4 + 1 + 2 * i) < E 0) ∧ (0 ≤ E (105 + 17 * D 4 + 2 + 2 * i) ∧ E (105 + 17 * D 4 + 2 + 2 * i) < E 1) := fun i i0 i1 => by
          have := g1 i i0 (by omega)
          rw [u0, u1] at this
          rw [f0, f1]
          exact this
        refine ⟨by omega, hin, ?_⟩
        rw [← cP_in (by omega) hin]
        have hW : bnW t L m R D N = wrD E (D 4) (D 4) := by unfold bnW; rw [hE]
        rw [hW] at w0
        exact wrF_A w0
      exact gB_c (D := E) (e 0 (by decide)) (e 1 (by decide)) (by omega) (by omega) (fun p p0 p1 => e _ (by omega)) (fun j j0 j1 => e j (by omega)) gE
    · exact gB_c e0 e1 (by omega) (by omega) ep (fun j j0 j1 => eD j (by omega) (by omega)) (v7 b b0 (by omega))
theorem okU_bn {R : Int × Int} {D N : Int → Int} (hU : okU D N) (hV : okV D) (hq : (bn0 t L m R D).2 ≤ L) (h : (bn1 t L m R D N).1 = 0) : okU (bnD t L m R D N) (bnN t L m R D N) := by
  obtain ⟨c1, c2, c3, c4, c5, c6⟩ := bn_chain h
  have v4 := hV.2.2.2.1
  have e4 : bnD t L m R D N 4 = D 4 + 1 := up_at _ _ _
  have w := wQ_b hq (Or.inl c3.2)
  intro b b0 b1
  rw [e4] at b1
  unfold bnN
  by_cases hb : b = D 4
  · subst hb
    rw [up_at]
    refine ⟨⟨w.1, w.2.1⟩, fun c d0 d1 => ?_⟩
    rw [up_ne (by omega)]
    exact fun z => c4 ⟨c, d0, d1, z⟩
  · rw [up_ne hb]
    have q := hU b b0 (by omega)
    refine ⟨q.1, fun c d0 d1 => ?_⟩
    rw [up_ne (by omega)]
    exact q.2 c d0 d1
/-- what stays while lines are read -/
theorem okV_ln {R : Int × Int} {D N : Int → Int} (hV : okV D) (hw : okT2 D) (h0 : R.1 = 0) (h : (lnR t L m R D N).1 = 0) : okV (lnD t L m R D N) ∧ okT2 (lnD t L m R D N) ∧ (ln0 t L m R D N).1 = 0 := by
  unfold lnR at h
  obtain ⟨h1, -⟩ := xpR_f h
  have h2 := h1.1
  have v4 := hV.2.2.2.1
  refine ⟨?_, ?_, h2⟩
  all_goals unfold lnD
  all_goals unfold ln0 at h2
  all_goals by_cases k1 : tK t L m R.2 = 101
  · rw [gte_t k1]; exact okV_bl hV
  · rw [gte_f k1] at h2 ⊢
    by_cases k2 : tK t L m R.2 = 102
    · rw [gte_t k2] at h2 ⊢; exact okV_ot hV hw h2
    · rw [gte_f k2] at h2 ⊢
      by_cases k3 : tK t L m R.2 = 103
      · rw [gte_t k3] at h2; exact okV_bn hV hw h2
      · rw [gte_f k3] at h2; exact absurd h2 (flR_f (by decide))
  · rw [gte_t k1]
    unfold okT2 blD at *
    rw [up_ne (by decide), up_ne (by decide)]; exact hw
  · rw [gte_f k1] at h2 ⊢
    by_cases k2 : tK t L m R.2 = 102
    · rw [gte_t k2] at h2 ⊢
      have := ot_0 h2
      have hp : otP t L m R D = 10 * nQ t L m (ot1 t L m R D).2 + nQ t L m (ot0 t L m R D).2 := rfl
      unfold okT2 otD at *
      rw [up_ne (by decide), up_ne (by omega), up_ne (by decide), up_ne (by omega)]; exact hw
    · rw [gte_f k2]
      unfold okT2 bnD at *
      rw [up_ne (by decide), up_ne (by decide), bnC_f v4.1 0 (by omega), bnC_f v4.1 1 (by omega)]; exact hw
end
