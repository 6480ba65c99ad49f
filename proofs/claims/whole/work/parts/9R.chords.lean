/-! ===== a chord parts a closed way in two; both parts turn the same way if the chord runs within ===== -/
theorem smI_split (f : Int → Int) {x y : Int} (hx : 0 ≤ x) (hy : 0 ≤ y) : smI f (x + y) = smI f x + smI (fun k => f (x + k)) y := by
  have key : ∀ m : Nat, smI f (x + m) = smI f x + smI (fun k => f (x + k)) m := by
    intro m
    induction m with
    | zero => rw [show x + ((0 : Nat) : Int) = x by omega]; show _ = smI f x + 0; omega
    | succ m ih =>
      rw [show x + ((m + 1 : Nat) : Int) = x + m + 1 by omega, smI_s f (by omega), ih, show ((m + 1 : Nat) : Int) = (m : Int) + 1 by omega, smI_s _ (by omega)]
      omega
  have := key y.toNat
  rw [show ((y.toNat : Nat) : Int) = y by omega] at this
  exact this
theorem smI_per {f : Int → Int} {M α : Int} (h0 : 0 ≤ α) (h1 : α ≤ M) (per : ∀ k, f (k + M) = f k) : smI (fun k => f (α + k)) M = smI f M := by
  have a := smI_split f h0 (show 0 ≤ M - α by omega)
  have b := smI_split (fun k => f (α + k)) (show 0 ≤ M - α by omega) h0
  rw [show α + (M - α) = M by omega] at a
  rw [show M - α + α = M by omega] at b
  rw [a, b, smI_congr (f := fun k => f (α + (M - α + k))) (g := f) (fun k _ _ => by rw [show α + (M - α + k) = k + M by omega]; exact per k)]
  omega
def pt (R : Int → Int) (α L k : Int) : Int := if k ≤ L then R (α + k) else R α
theorem pt_le {R : Int → Int} {α L k : Int} (h : k ≤ L) : pt R α L k = R (α + k) := if_pos h
theorem pt_L {R : Int → Int} {α L : Int} : pt R α L (L + 1) = R α := if_neg (by omega)
/-- a rim: a closed way without end, whose sides keep their order -/
def RIM (M : Int) (R : Int → Int) : Prop := (∀ k, R (k + M) = R k) ∧ (∀ k, isPg (R k)) ∧ (∀ k l, k < l → l < k + M → ¬ R k = R l) ∧ (∀ k l, k < l → l < k + M → HP (R k) (R (k + 1)) (R l) (R (l + 1)))
theorem pt_PW {M : Int} {R : Int → Int} (h : RIM M R) {α L : Int} (L0 : 1 ≤ L) (L1 : L < M) (hc : ∀ k, HP (R k) (R (k + 1)) (R (α + L)) (R α)) : PW (L + 1) (pt R α L) := by
  obtain ⟨per, pg, inj, hp⟩ := h
  refine ⟨by omega, ?_, fun i => ?_, fun i j i0 i1 j0 j1 e => ?_, fun i k i0 ik k1 => ?_⟩
  · rw [pt_L, pt_le (by omega), Int.add_zero]
  · unfold pt; split <;> exact pg _
  · rw [pt_le (by omega), pt_le (by omega)] at e
    rcases Int.lt_trichotomy i j with g | g | g
    · exact absurd e (inj _ _ (by omega) (by omega))
    · exact g
    · exact absurd e.symm (inj _ _ (by omega) (by omega))
  · by_cases c : k = L
    · subst c
      rw [pt_L, pt_le (by omega), pt_le (by omega), pt_le (by omega), show α + (i + 1) = α + i + 1 by omega]
      exact hc (α + i)
    · rw [pt_le (by omega), pt_le (by omega), pt_le (by omega), pt_le (by omega), show α + (i + 1) = α + i + 1 by omega, show α + (k + 1) = α + k + 1 by omega]
      exact hp _ _ (by omega) (by omega)
noncomputable def rt (R : Int → Int) (u t k : Int) : Int := tr (lv (R k)) (lv (R (k + 1))) u (FS (R k) (R (k + 1)) (2 * u + 1)) t
theorem pt_LW {R : Int → Int} {α L u : Int} (L0 : 1 ≤ L) (pg : ∀ k, isPg (R k)) (ne : ¬ R (α + L) = R α) {p q : Int} (hpq : (p = R (α + L) ∧ q = R α) ∨ (p = R α ∧ q = R (α + L))) : LW (L + 1) (pt R α L) u (FS p q (2 * u + 1)) = smI (fun k => rt R u (FS p q (2 * u + 1)) (α + k)) L := by
  unfold LW WW
  rw [smI_s _ (by omega)]
  have last : tr (lv (pt R α L L)) (lv (pt R α L (L + 1))) u (cS (pt R α L L) (pt R α L (L + 1)) + mS (pt R α L L) (pt R α L (L + 1)) * (2 * u + 1)) (FS p q (2 * u + 1)) = 0 := by
    rw [pt_L, pt_le (Int.le_refl _)]
    show tr _ _ _ (FS (R (α + L)) (R α) (2 * u + 1)) _ = 0
    unfold tr
    rcases hpq with ⟨e1, e2⟩ | ⟨e1, e2⟩
    · rw [e1, e2, if_neg (Int.lt_irrefl _)]
    · rw [e1, e2, FS_sw (pg _) (pg _) ne, if_neg (Int.lt_irrefl _)]
  rw [last, Int.add_zero]
  refine smI_congr (fun k k0 k1 => ?_)
  show tr (lv (pt R α L k)) (lv (pt R α L (k + 1))) u (FS (pt R α L k) (pt R α L (k + 1)) (2 * u + 1)) _ = _
  rw [pt_le (by omega), pt_le (by omega), show α + (k + 1) = α + k + 1 by omega]
  rfl
theorem pt_ar {R : Int → Int} {α L : Int} (L0 : 1 ≤ L) : areaS (L + 1) (pt R α L) = smI (fun k => sh (R (α + k)) (R (α + k + 1))) L + sh (R (α + L)) (R α) := by
  unfold areaS
  rw [smI_s _ (by omega), pt_L, pt_le (Int.le_refl _)]
  rw [smI_congr (fun k k0 k1 => by rw [pt_le (by omega), pt_le (by omega), show α + (k + 1) = α + k + 1 by omega])]
theorem sh_sw (a b : Int) : sh a b = - sh b a := by unfold sh; grind
/-- the cut's theorem -/
theorem cut_s {M : Int} {R : Int → Int} (h : RIM M R) {n : Int} {P : Int → Int} (hA : smI (fun k => sh (R k) (R (k + 1))) M = areaS n P) (hW : ∀ u t, smI (rt R u t) M = LW n P u t) {i j : Int} (i0 : 0 ≤ i) (ij : i < j) (jM : j < M) (hc : ∀ k, HP (R k) (R (k + 1)) (R i) (R j)) {u : Int} (cu : crx (lv (R i)) (lv (R j)) u) (en : LW n P u (FS (R i) (R j) (2 * u + 1)) % 2 = 1) : ∃ s, (s = 1 ∨ s = -1) ∧ 0 < s * (smI (fun k => sh (R (i + k)) (R (i + k + 1))) (j - i) + sh (R j) (R i)) ∧ 0 < s * (areaS n P - (smI (fun k => sh (R (i + k)) (R (i + k + 1))) (j - i) + sh (R j) (R i))) := by
  have H := h
  obtain ⟨per, pg, inj, hp⟩ := h
  have ne : ¬ R i = R j := inj i j ij (by omega)
  have e1 : i + (j - i) = j := by omega
  have e2 : R (j + (M - (j - i))) = R i := by rw [show j + (M - (j - i)) = i + M by omega]; exact per i
  have w1 : PW (j - i + 1) (pt R i (j - i)) := pt_PW H (by omega) (by omega) (fun k => by rw [e1]; exact HP_sv (pg _) (pg _) ne (hc k))
  have w2 : PW (M - (j - i) + 1) (pt R j (M - (j - i))) := pt_PW H (by omega) (by omega) (fun k => by rw [e2]; exact hc k)
  obtain ⟨s1, t1, v1, a1⟩ := PW_s w1
  obtain ⟨s2, t2, v2, a2⟩ := PW_s w2
  have x1 := v1 (j - i) u (by omega) (by omega) (by rw [pt_L, pt_le (Int.le_refl _), e1]; unfold crx at *; omega)
  have x2 := v2 (M - (j - i)) u (by omega) (by omega) (by rw [pt_L, pt_le (Int.le_refl _), e2]; exact cu)
  rw [pt_L, pt_le (Int.le_refl _), e1] at x1
  rw [pt_L, pt_le (Int.le_refl _), e2] at x2
  rw [FS_sw (pg i) (pg j) ne, pt_LW (by omega) pg (by rw [e1]; exact fun z => ne z.symm) (.inr ⟨rfl, by rw [e1]⟩)] at x1
  rw [pt_LW (by omega) pg (by rw [e2]; exact ne) (.inl ⟨e2.symm, rfl⟩)] at x2
  have pr : ∀ k, rt R u (FS (R i) (R j) (2 * u + 1)) (k + M) = rt R u (FS (R i) (R j) (2 * u + 1)) k := fun k => by
    unfold rt
    rw [per k, show k + M + 1 = k + 1 + M by omega, per (k + 1)]
  have tot := smI_per (f := rt R u (FS (R i) (R j) (2 * u + 1))) (M := M) (α := i) i0 (by omega) pr
  have sp := smI_split (fun k => rt R u (FS (R i) (R j) (2 * u + 1)) (i + k)) (x := j - i) (y := M - (j - i)) (by omega) (by omega)
  rw [show j - i + (M - (j - i)) = M by omega, tot, hW] at sp
  rw [smI_congr (f := fun k => rt R u (FS (R i) (R j) (2 * u + 1)) (i + (j - i + k))) (g := fun k => rt R u (FS (R i) (R j) (2 * u + 1)) (j + k)) (fun k _ _ => by rw [show i + (j - i + k) = j + k by omega])] at sp
  have dne : ¬ lv (R i) = lv (R j) := fun z => ne (lv_i z)
  have es : s1 = s2 := by
    unfold dr at x1 x2
    omega
  have shp : ∀ k, sh (R (k + M)) (R (k + M + 1)) = sh (R k) (R (k + 1)) := fun k => by rw [per k, show k + M + 1 = k + 1 + M by omega, per (k + 1)]
  have at_ := smI_per (f := fun k => sh (R k) (R (k + 1))) (M := M) (α := i) i0 (by omega) shp
  have as_ := smI_split (fun k => sh (R (i + k)) (R (i + k + 1))) (x := j - i) (y := M - (j - i)) (by omega) (by omega)
  rw [show j - i + (M - (j - i)) = M by omega, at_, hA] at as_
  rw [smI_congr (f := fun k => sh (R (i + (j - i + k))) (R (i + (j - i + k) + 1))) (g := fun k => sh (R (j + k)) (R (j + k + 1))) (fun k _ _ => by rw [show i + (j - i + k) = j + k by omega])] at as_
  rw [pt_ar (by omega), e1] at a1
  rw [pt_ar (by omega), e2] at a2
  refine ⟨s1, t1, a1, ?_⟩
  rw [← es] at a2
  have sw := sh_sw (R j) (R i)
  rw [show areaS n P - (smI (fun k => sh (R (i + k)) (R (i + k + 1))) (j - i) + sh (R j) (R i)) = smI (fun k => sh (R (j + k)) (R (j + k + 1))) (M - (j - i)) + sh (R i) (R j) by omega]
  exact a2
theorem half_iff {A B s : Int} (hs : s = 1 ∨ s = -1) (h1 : 0 < s * A) (h2 : 0 < s * (B - A)) : 2 * A = B ↔ 2 * (A.natAbs : Int) = (B.natAbs : Int) := by
  rcases hs with rfl | rfl <;> omega
