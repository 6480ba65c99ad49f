/-! ===== cuts: what both sides ask of a chord ===== -/
theorem pos_prod {x y : Int} : 0 < x * y ↔ (0 < x ∧ 0 < y) ∨ (x < 0 ∧ y < 0) := by
  constructor
  · intro h
    rcases Int.lt_trichotomy x 0 with a | a | a
    · right
      refine ⟨a, Int.not_le.mp (fun z => ?_)⟩
      have := Int.mul_nonneg (show 0 ≤ -x by omega) z
      rw [Int.neg_mul] at this; omega
    · rw [a, Int.zero_mul] at h; omega
    · left
      refine ⟨a, Int.not_le.mp (fun z => ?_)⟩
      have := Int.mul_nonneg (show 0 ≤ x by omega) (show 0 ≤ -y by omega)
      rw [Int.mul_neg] at this; omega
  · rintro (⟨a, b⟩ | ⟨a, b⟩)
    · exact Int.mul_pos a b
    · exact Int.mul_pos_of_neg_of_neg a b
theorem col_c {ax ay bx by_ zx zy : Int} (h : crs ax ay bx by_ zx zy = 0) : (20 * (by_ - ay) - (bx - ax)) * (zx - ax) = (bx - ax) * (20 * (zy - ay) - (zx - ax)) ∧ (20 * (by_ - ay) - (bx - ax)) * (zy - ay) = (by_ - ay) * (20 * (zy - ay) - (zx - ax)) := by
  unfold crs at h
  constructor <;> grind
/-- points of one line: which side of another, told by levels -/
theorem col_dt {ax ay bx by_ zx zy wx wy vx vy : Int} (hD : ¬ 20 * (by_ - ay) - (bx - ax) = 0) (hz : crs ax ay bx by_ zx zy = 0) (hw : crs ax ay bx by_ wx wy = 0) (hv : crs ax ay bx by_ vx vy = 0) : 0 < dt zx zy wx wy vx vy ↔ (20 * zy - zx < 20 * wy - wx ∧ 20 * zy - zx < 20 * vy - vx) ∨ (20 * wy - wx < 20 * zy - zx ∧ 20 * vy - vx < 20 * zy - zx) := by
  obtain ⟨z1, z2⟩ := col_c hz
  obtain ⟨w1, w2⟩ := col_c hw
  obtain ⟨v1, v2⟩ := col_c hv
  have E0 : 0 < (bx - ax) * (bx - ax) + (by_ - ay) * (by_ - ay) := by
    have u : ∀ z : Int, ¬ z = 0 → 0 < z * z := fun z g => pos_prod.mpr (by omega)
    have u0 : ∀ z : Int, 0 ≤ z * z := fun z => by
      by_cases g : z = 0
      · rw [g]; exact Int.le_refl _
      · exact Int.le_of_lt (u z g)
    by_cases c : bx - ax = 0
    · have := u (by_ - ay) (by omega)
      have := u0 (bx - ax)
      omega
    · have := u (bx - ax) c
      have := u0 (by_ - ay)
      omega
  have D0 : 0 < (20 * (by_ - ay) - (bx - ax)) * (20 * (by_ - ay) - (bx - ax)) := pos_prod.mpr (by omega)
  have key : (20 * (by_ - ay) - (bx - ax)) * (20 * (by_ - ay) - (bx - ax)) * dt zx zy wx wy vx vy = ((bx - ax) * (bx - ax) + (by_ - ay) * (by_ - ay)) * ((20 * (wy - zy) - (wx - zx)) * (20 * (vy - zy) - (vx - zx))) := by
    have a1 : (20 * (by_ - ay) - (bx - ax)) * (wx - zx) = (bx - ax) * (20 * (wy - zy) - (wx - zx)) := by grind
    have a2 : (20 * (by_ - ay) - (bx - ax)) * (wy - zy) = (by_ - ay) * (20 * (wy - zy) - (wx - zx)) := by grind
    have a3 : (20 * (by_ - ay) - (bx - ax)) * (vx - zx) = (bx - ax) * (20 * (vy - zy) - (vx - zx)) := by grind
    have a4 : (20 * (by_ - ay) - (bx - ax)) * (vy - zy) = (by_ - ay) * (20 * (vy - zy) - (vx - zx)) := by grind
    unfold dt
    generalize 20 * (by_ - ay) - (bx - ax) = D at *
    generalize 20 * (wy - zy) - (wx - zx) = L1 at *
    generalize 20 * (vy - zy) - (vx - zx) = L2 at *
    have b1 : D * D * ((wx - zx) * (vx - zx)) = (D * (wx - zx)) * (D * (vx - zx)) := by grind
    have b2 : D * D * ((wy - zy) * (vy - zy)) = (D * (wy - zy)) * (D * (vy - zy)) := by grind
    rw [Int.mul_add, b1, b2, a1, a2, a3, a4]
    grind
  have sg := (sg_pos D0 E0 key).1
  rw [sg, pos_prod]
  omega
theorem lv_ne {a b : Int} (h : ¬ a = b) : ¬ 20 * (b / 10 - a / 10) - (b % 10 - a % 10) = 0 := fun z => h (by omega)
theorem tn_aba (a b : Int) : tn a b a = 0 ∧ tn a b b = 0 := by unfold tn crs; constructor <;> grind
theorem col_al {a b z w v : Int} (n : ¬ a = b) (hz : tn a b z = 0) (hw : tn a b w = 0) (hv : tn a b v = 0) : 0 < al z w v ↔ (lv z < lv w ∧ lv z < lv v) ∨ (lv w < lv z ∧ lv v < lv z) := by
  have := col_dt (lv_ne n) hz hw hv
  unfold al
  rw [this]
  unfold lv
  omega
theorem onS_iff {p a b : Int} (n : ¬ a = b) : onS p a b ↔ tn a b p = 0 ∧ inc (lv a) (lv b) (2 * lv p) := by
  unfold onS
  constructor
  · rintro ⟨h1, h2⟩
    refine ⟨h1, ?_⟩
    have := col_al n h1 (tn_aba a b).1 (tn_aba a b).2
    unfold inc
    omega
  · rintro ⟨h1, h2⟩
    refine ⟨h1, ?_⟩
    have := col_al n h1 (tn_aba a b).1 (tn_aba a b).2
    unfold inc at h2
    omega
theorem mid_c {p q a b : Int} : crs (2 * (a % 10)) (2 * (a / 10)) (2 * (b % 10)) (2 * (b / 10)) (p % 10 + q % 10) (p / 10 + q / 10) = 2 * (tn a b p + tn a b q) := by
  unfold tn crs; grind
theorem onC_iff {p q a b : Int} (n : ¬ a = b) : onC (p % 10 + q % 10) (p / 10 + q / 10) (2 * (a % 10)) (2 * (a / 10)) (2 * (b % 10)) (2 * (b / 10)) ↔ tn a b p + tn a b q = 0 ∧ inc (lv a) (lv b) (lv p + lv q) := by
  unfold onC
  rw [mid_c]
  have key : tn a b p + tn a b q = 0 → (0 < dt (p % 10 + q % 10) (p / 10 + q / 10) (2 * (a % 10)) (2 * (a / 10)) (2 * (b % 10)) (2 * (b / 10)) ↔ _) := fun h => col_dt (ax := 2 * (a % 10)) (ay := 2 * (a / 10)) (bx := 2 * (b % 10)) (by_ := 2 * (b / 10)) (by have := lv_ne n; omega) (zx := p % 10 + q % 10) (zy := p / 10 + q / 10) (by rw [mid_c, h]; rfl) (wx := 2 * (a % 10)) (wy := 2 * (a / 10)) (by unfold crs; grind) (vx := 2 * (b % 10)) (vy := 2 * (b / 10)) (by unfold crs; grind)
  unfold inc lv
  constructor
  · rintro ⟨h1, h2⟩
    have := key (by omega)
    omega
  · rintro ⟨h1, h2⟩
    have := key h1
    omega
/-- collinearity goes from two points to a third -/
theorem col_3 {a b p q : Int} (n : ¬ a = p) (h1 : tn a b p = 0) (h2 : tn p q a = 0) : tn a b q = 0 := by
  have d : ¬ (p % 10 - a % 10 = 0 ∧ p / 10 - a / 10 = 0) := fun z => n (by omega)
  unfold tn crs at *
  generalize a % 10 = ax at *
  generalize a / 10 = ay at *
  generalize b % 10 = bx at *
  generalize b / 10 = by_ at *
  generalize p % 10 = px at *
  generalize p / 10 = py at *
  generalize q % 10 = qx at *
  generalize q / 10 = qy at *
  have e1 : (px - ax) * ((bx - ax) * (qy - ay) - (by_ - ay) * (qx - ax)) = 0 := by grind
  have e2 : (py - ay) * ((bx - ax) * (qy - ay) - (by_ - ay) * (qx - ax)) = 0 := by grind
  rcases Int.mul_eq_zero.mp e1 with w | w
  · rcases Int.mul_eq_zero.mp e2 with w2 | w2
    · exact absurd ⟨w, w2⟩ d
    · exact w2
  · exact w
theorem mt_1i {a b c d : Int} (h : mt a b c d = 1) : tn a b c * tn a b d < 0 ∧ tn c d a * tn c d b < 0 := by
  refine Classical.byContradiction (fun g => ?_)
  unfold mt at h
  rw [if_neg g] at h
  split at h <;> omega
theorem mt_12 {a b c d : Int} (h : ¬ mt a b c d = 0) : mt a b c d = 1 ∨ (onS c a b ∨ onS d a b ∨ onS a c d ∨ onS b c d) := by
  by_cases g : tn a b c * tn a b d < 0 ∧ tn c d a * tn c d b < 0
  · left; unfold mt; rw [if_pos g]
  · right
    refine Classical.byContradiction (fun k => h ?_)
    exact mt_0.mpr ⟨g, k⟩
/-- a linear difference that is 0 at one level alone -/
theorem lin_sg {m z s t : Int} {f g : Int → Int} (m0 : ¬ m = 0) (aff : ∀ x, g x - f x = m * (x - z)) (h : (z < s ∧ z < t) ∨ (s < z ∧ t < z)) : (g s < f s ↔ g t < f t) ∧ ¬ g s = f s := by
  have ex := aff s
  have ey := aff t
  rcases h with ⟨g1, g2⟩ | ⟨g1, g2⟩ <;> rcases Int.lt_or_gt_of_ne m0 with k | k
  · have a1 := Int.mul_neg_of_neg_of_pos k (show 0 < s - z by omega)
    have a2 := Int.mul_neg_of_neg_of_pos k (show 0 < t - z by omega)
    omega
  · have a1 := Int.mul_pos k (show 0 < s - z by omega)
    have a2 := Int.mul_pos k (show 0 < t - z by omega)
    omega
  · have a1 := Int.mul_pos_of_neg_of_neg k (show s - z < 0 by omega)
    have a2 := Int.mul_pos_of_neg_of_neg k (show t - z < 0 by omega)
    omega
  · have a1 := Int.mul_neg_of_pos_of_neg k (show s - z < 0 by omega)
    have a2 := Int.mul_neg_of_pos_of_neg k (show t - z < 0 by omega)
    omega
/-- a chord from a place of a line, not along it -/
theorem line_aff {a b p q r o : Int} (ha : isPg a) (hb : isPg b) (n : ¬ a = b) (hp : isPg p) (hq : isPg q) (m : ¬ p = q) (hr : (r = p ∧ o = q) ∨ (r = q ∧ o = p)) (h0 : tn a b r = 0) (h1 : ¬ tn a b o = 0) : ∃ k, ¬ k = 0 ∧ ∀ x, FS a b x - FS p q x = k * (x - 2 * lv r) := by
  have fr : FS p q (2 * lv r) = ps r := by rcases hr with ⟨e, _⟩ | ⟨e, _⟩ <;> rw [e]; exact FS_a p q; exact FS_b hp hq m
  have fo : FS p q (2 * lv o) = ps o := by rcases hr with ⟨_, e⟩ | ⟨_, e⟩ <;> rw [e]; exact FS_b hp hq m; exact FS_a p q
  have gr := FS_on ha hb n h0
  have aff : ∀ x, FS a b x - FS p q x = (mS a b - mS p q) * (x - 2 * lv r) := fun x => by unfold FS at *; grind
  refine ⟨mS a b - mS p q, fun z => ?_, aff⟩
  have e := aff (2 * lv o)
  rw [z, Int.zero_mul, fo] at e
  have g := FS_p ha hb n o
  rw [show ps o - FS a b (2 * lv o) = 0 by omega, Int.mul_zero] at g
  rcases Int.mul_eq_zero.mp g.symm with y | y
  · have := NN_0; omega
  · exact h1 y
def adm (p q a b s : Int) : Prop := inc (lv p) (lv q) s ∧ inc (lv a) (lv b) s ∧ (ino (lv p) (lv q) s ∨ (ino (lv a) (lv b) s ∧ ¬ (s = 2 * lv p ∧ onS p a b) ∧ ¬ (s = 2 * lv q ∧ onS q a b)))
theorem ch_col {a b p q : Int} (n : ¬ a = b) (m : ¬ p = q) (h1 : onS p a b) (tq : tn a b q = 0) (h3 : ¬ ldA p q a b) {s : Int} (hs : adm p q a b s ∨ adm q p a b s) : False := by
  have hp := (onS_iff n).mp h1
  have x1 := col_al n hp.1 tq (tn_aba a b).1
  have x2 := col_al n hp.1 tq (tn_aba a b).2
  have l : ¬ lv p = lv q := fun z => m (lv_i z)
  have nl : ¬ (0 < al p q a) ∧ ¬ (0 < al p q b) := ⟨fun z => h3 ⟨tq, .inl z⟩, fun z => h3 ⟨tq, .inr z⟩⟩
  have y := hp.2
  unfold adm inc ino at hs
  unfold inc at y
  rcases hs with ⟨s1, s2, s3⟩ | ⟨s1, s2, s3⟩
  · have : (2 * lv p < s ∧ s < 2 * lv q ∨ 2 * lv q < s ∧ s < 2 * lv p) ∨ (2 * lv a < s ∧ s < 2 * lv b ∨ 2 * lv b < s ∧ s < 2 * lv a) := s3.imp_right (fun z => z.1)
    omega
  · have : (2 * lv q < s ∧ s < 2 * lv p ∨ 2 * lv p < s ∧ s < 2 * lv q) ∨ (2 * lv a < s ∧ s < 2 * lv b ∨ 2 * lv b < s ∧ s < 2 * lv a) := s3.imp_right (fun z => z.1)
    omega
theorem ch_base {a b p q : Int} (ha : isPg a) (hb : isPg b) (n : ¬ a = b) (hp : isPg p) (hq : isPg q) (m : ¬ p = q) (h : ¬ stpd p q a b) {s t : Int} (hs : adm p q a b s) (ht : adm p q a b t) : (FS a b s < FS p q s ↔ FS a b t < FS p q t) ∧ ¬ FS a b s = FS p q s := by
  have l : ¬ lv p = lv q := fun z => m (lv_i z)
  have sw : ∀ x, adm p q a b x → adm q p a b x := fun x z => ⟨inc_sw.mp z.1, z.2.1, z.2.2.imp ino_sw.mp (fun w => ⟨w.1, w.2.2, w.2.1⟩)⟩
  have one : ∀ x, adm p q a b x → ∀ r, (r = p ∨ r = q) → onS r a b → ¬ x = 2 * lv r := by
    intro x z r hr ho e
    rcases z.2.2 with w | w
    · unfold ino at w; rcases hr with g | g <;> rw [g] at e <;> omega
    · rcases hr with g | g <;> rw [g] at e ho
      · exact w.2.1 ⟨e, ho⟩
      · exact w.2.2 ⟨e, ho⟩
  by_cases h1 : onS p a b <;> by_cases h2 : onS q a b
  · exact absurd (.inl ⟨h1, h2⟩) h
  · have h3 : ¬ ldA p q a b := fun z => h (.inr (.inl ⟨h1, h2, z⟩))
    by_cases tq : tn a b q = 0
    · exact (ch_col n m h1 tq h3 (.inl hs)).elim
    · obtain ⟨k, k0, aff⟩ := line_aff ha hb n hp hq m (.inl ⟨rfl, rfl⟩) h1.1 tq
      have o1 := one s hs p (.inl rfl) h1
      have o2 := one t ht p (.inl rfl) h1
      have i1 := hs.1
      have i2 := ht.1
      unfold inc at i1 i2
      exact lin_sg (f := FS p q) (g := FS a b) k0 aff (by omega)
  · have h3 : ¬ ldA q p a b := fun z => h (.inr (.inr (.inl ⟨h1, h2, z⟩)))
    by_cases tq : tn a b p = 0
    · exact (ch_col n (fun z => m z.symm) h2 tq h3 (.inl (sw s hs))).elim
    · obtain ⟨k, k0, aff⟩ := line_aff ha hb n hp hq m (.inr ⟨rfl, rfl⟩) h2.1 tq
      have o1 := one s hs q (.inr rfl) h2
      have o2 := one t ht q (.inr rfl) h2
      have i1 := hs.1
      have i2 := ht.1
      unfold inc at i1 i2
      exact lin_sg (f := FS p q) (g := FS a b) k0 aff (by omega)
  · have h3 : mt p q a b = 0 := Classical.byContradiction (fun z => h (.inr (.inr (.inr ⟨h1, h2, z⟩))))
    exact hp_nm hp hq ha hb m n h3 s t hs.1 hs.2.1 (hs.2.2.imp_right (fun z => z.1)) ht.1 ht.2.1 (ht.2.2.imp_right (fun z => z.1))
/-- the class's conditions give the reference's -/
theorem sc_1 {a b p q : Int} (ha : isPg a) (hb : isPg b) (n : ¬ a = b) (hp : isPg p) (hq : isPg q) (m : ¬ p = q) (h : ¬ stpd p q a b) : ¬ mt p q a b = 1 ∧ ¬ (¬ (a = p ∨ a = q) ∧ onS a p q) ∧ ¬ onC (p % 10 + q % 10) (p / 10 + q / 10) (2 * (a % 10)) (2 * (a / 10)) (2 * (b % 10)) (2 * (b / 10)) := by
  have l : ¬ lv p = lv q := fun z => m (lv_i z)
  refine ⟨fun z => ?_, fun ⟨z1, z2⟩ => ?_, fun z => ?_⟩
  · have g := (mt_1i z).2
    refine h (.inr (.inr (.inr ⟨fun w => ?_, fun w => ?_, by omega⟩)))
    · rw [w.1, Int.zero_mul] at g; omega
    · rw [w.1, Int.mul_zero] at g; omega
  · have on := (onS_iff m).mp z2
    have d1 : ¬ lv a = lv p := fun w => z1 (.inl (lv_i w))
    have d2 : ¬ lv a = lv q := fun w => z1 (.inr (lv_i w))
    have bt := on.2
    unfold inc at bt
    by_cases h1 : onS p a b <;> by_cases h2 : onS q a b
    · exact h (.inl ⟨h1, h2⟩)
    · have tq : tn a b q = 0 := col_3 (fun w => z1 (.inl w)) h1.1 on.1
      refine h (.inr (.inl ⟨h1, h2, tq, .inl ?_⟩))
      exact (col_al n h1.1 tq (tn_aba a b).1).mpr (by omega)
    · have tp : tn a b p = 0 := col_3 (fun w => z1 (.inr w)) h2.1 (by rw [tn_12 p q a, on.1]; rfl)
      refine h (.inr (.inr (.inl ⟨h1, h2, tp, .inl ?_⟩)))
      exact (col_al n h2.1 tp (tn_aba a b).1).mpr (by omega)
    · exact h (.inr (.inr (.inr ⟨h1, h2, fun w => (mt_0.mp w).2 (.inl z2)⟩)))
  · obtain ⟨g1, g2⟩ := (onC_iff n).mp z
    have ad : adm p q a b (lv p + lv q) := ⟨by unfold inc; omega, g2, .inl (by unfold ino; omega)⟩
    have ne := (ch_base ha hb n hp hq m h ad ad).2
    refine ne ?_
    -- both lines are at the mid
    have e1 := FS_x ha hb n (p % 10 + q % 10) (p / 10 + q / 10)
    have e2 := FS_x hp hq m (p % 10 + q % 10) (p / 10 + q / 10)
    have t1 : crT (p % 10 + q % 10) (p / 10 + q / 10) (2 * (a % 10)) (2 * (a / 10)) (2 * (b % 10)) (2 * (b / 10)) = 0 := by
      have := mid_c (p := p) (q := q) (a := a) (b := b)
      rw [g1] at this
      exact this
    have t2 : crT (p % 10 + q % 10) (p / 10 + q / 10) (2 * (p % 10)) (2 * (p / 10)) (2 * (q % 10)) (2 * (q / 10)) = 0 := by unfold crT; grind
    rw [show 20 * (p / 10 + q / 10) + 18 - (p % 10 + q % 10) = lv p + lv q by unfold lv; omega] at e1 e2
    rw [t1, Int.mul_zero] at e1
    rw [t2, Int.mul_zero] at e2
    have dl : ¬ lv a = lv b := fun z => n (lv_i z)
    rcases Int.mul_eq_zero.mp e1 with w | w
    · omega
    · rcases Int.mul_eq_zero.mp e2 with v | v <;> omega
theorem col_33 {a b p q c : Int} (n : ¬ a = b) (hp : tn a b p = 0) (hq : tn a b q = 0) (hc : tn a b c = 0) : tn p q c = 0 := by
  have D0 := lv_ne n
  obtain ⟨k11, k12⟩ := col_c hp
  obtain ⟨k21, k22⟩ := col_c hq
  obtain ⟨k31, k32⟩ := col_c hc
  unfold tn crs
  clear hp hq hc n
  generalize a % 10 = ax at *
  generalize a / 10 = ay at *
  generalize b % 10 = bx at *
  generalize b / 10 = by_ at *
  generalize p % 10 = px at *
  generalize p / 10 = py at *
  generalize q % 10 = qx at *
  generalize q / 10 = qy at *
  generalize c % 10 = cx at *
  generalize c / 10 = cy at *
  generalize 20 * (by_ - ay) - (bx - ax) = D at *
  generalize 20 * (py - ay) - (px - ax) = L1 at *
  generalize 20 * (qy - ay) - (qx - ax) = L2 at *
  generalize 20 * (cy - ay) - (cx - ax) = L3 at *
  have r1 : D * (qx - px) = (bx - ax) * (L2 - L1) := by clear k12 k22 k31 k32; grind
  have r2 : D * (qy - py) = (by_ - ay) * (L2 - L1) := by clear k11 k21 k31 k32 r1; grind
  have r3 : D * (cx - px) = (bx - ax) * (L3 - L1) := by clear k12 k21 k22 k32 r1 r2; grind
  have r4 : D * (cy - py) = (by_ - ay) * (L3 - L1) := by clear k11 k21 k22 k31 r1 r2 r3; grind
  have r5 : D * (D * ((qx - px) * (cy - py) - (qy - py) * (cx - px))) = (D * (qx - px)) * (D * (cy - py)) - (D * (qy - py)) * (D * (cx - px)) := by clear k11 k12 k21 k22 k31 k32 r1 r2 r3 r4; grind
  have e : D * (D * ((qx - px) * (cy - py) - (qy - py) * (cx - px))) = 0 := by
    rw [r5, r1, r2, r3, r4]
    clear k11 k12 k21 k22 k31 k32 r1 r2 r3 r4 r5
    grind
  rcases Int.mul_eq_zero.mp e with w | w
  · exact absurd w D0
  · rcases Int.mul_eq_zero.mp w with w | w
    · exact absurd w D0
    · exact w
/-- and back -/
theorem sc_2 {a b p q : Int} (n : ¬ a = b) (m : ¬ p = q) (h1 : ¬ mt p q a b = 1) (h2 : ¬ (¬ (a = p ∨ a = q) ∧ onS a p q)) (h2' : ¬ (¬ (b = p ∨ b = q) ∧ onS b p q)) (h3 : ¬ onC (p % 10 + q % 10) (p / 10 + q / 10) (2 * (a % 10)) (2 * (a / 10)) (2 * (b % 10)) (2 * (b / 10))) : ¬ stpd p q a b := by
  have l : ¬ lv p = lv q := fun z => m (lv_i z)
  -- an end between two places of the line
  have bet : ∀ p q c : Int, ¬ p = q → (c = a ∨ c = b) → ¬ (¬ (c = p ∨ c = q) ∧ onS c p q) → onS p a b → ¬ onS q a b → tn a b q = 0 → 0 < al p q c → False := by
    intro p q c m hc hR hp hq tq hal
    have tc : tn a b c = 0 := by rcases hc with e | e <;> rw [e]; exact (tn_aba a b).1; exact (tn_aba a b).2
    have g := (col_al n hp.1 tq tc).mp hal
    have ip := ((onS_iff n).mp hp).2
    have iq : ¬ inc (lv a) (lv b) (2 * lv q) := fun z => hq ((onS_iff n).mpr ⟨tq, z⟩)
    unfold inc at ip iq
    have bt : lv p < lv c ∧ lv c < lv q ∨ lv q < lv c ∧ lv c < lv p := by rcases hc with e | e <;> rw [e] at g ⊢ <;> omega
    refine hR ⟨fun z => ?_, (onS_iff m).mpr ⟨?_, by unfold inc; omega⟩⟩
    · rcases z with e | e <;> rw [e] at bt <;> omega
    · exact col_33 n hp.1 tq tc
  have swp : ∀ {c : Int}, ¬ (¬ (c = p ∨ c = q) ∧ onS c p q) → ¬ (¬ (c = q ∨ c = p) ∧ onS c q p) := fun h ⟨z1, z2⟩ => h ⟨fun w => z1 w.symm, onS_rev.mp z2⟩
  rintro (⟨w1, w2⟩ | ⟨w1, w2, w3, w4⟩ | ⟨w1, w2, w3, w4⟩ | ⟨w1, w2, w3⟩)
  · refine h3 ((onC_iff n).mpr ⟨by rw [w1.1, w2.1]; rfl, ?_⟩)
    have i1 := ((onS_iff n).mp w1).2
    have i2 := ((onS_iff n).mp w2).2
    unfold inc at *
    omega
  · rcases w4 with w4 | w4
    · exact bet p q a m (.inl rfl) h2 w1 w2 w3 w4
    · exact bet p q b m (.inr rfl) h2' w1 w2 w3 w4
  · rcases w4 with w4 | w4
    · exact bet q p a (fun z => m z.symm) (.inl rfl) (swp h2) w2 w1 w3 w4
    · exact bet q p b (fun z => m z.symm) (.inr rfl) (swp h2') w2 w1 w3 w4
  · rcases mt_12 w3 with g | g | g | g | g
    · exact h1 g
    · exact h2 ⟨fun z => by rcases z with e | e; exact w1 (by rw [← e]; exact onS_a _ _); exact w2 (by rw [← e]; exact onS_a _ _), g⟩
    · exact h2' ⟨fun z => by rcases z with e | e; exact w1 (by rw [← e]; exact onS_b _ _); exact w2 (by rw [← e]; exact onS_b _ _), g⟩
    · exact w1 g
    · exact w2 g
theorem hp_chord {a b c d p q : Int} (ha : isPg a) (hb : isPg b) (n : ¬ a = b) (hp : isPg p) (hq : isPg q) (m : ¬ p = q) (h : ¬ stpd p q a b) (sb : subd a b c d) (np : onS p a b → ¬ ino (lv c) (lv d) (2 * lv p)) (nq : onS q a b → ¬ ino (lv c) (lv d) (2 * lv q)) : HP p q c d := by
  have ad : ∀ s, inc (lv p) (lv q) s → inc (lv c) (lv d) s → (ino (lv p) (lv q) s ∨ ino (lv c) (lv d) s) → adm p q a b s := fun s h1 h2 h3 => ⟨h1, sb.2.2.2.2.2.1 s h2, h3.imp_right (fun z => ⟨sb.2.2.2.2.2.2 s z, fun w => np w.2 (by rw [← w.1]; exact z), fun w => nq w.2 (by rw [← w.1]; exact z)⟩)⟩
  intro s t h1 h2 h3 h4 h5 h6
  rw [sub_FS ha hb n sb.1 sb.2.1 sb.2.2.1 sb.2.2.2.1 sb.2.2.2.2.1, sub_FS ha hb n sb.1 sb.2.1 sb.2.2.1 sb.2.2.2.1 sb.2.2.2.2.1]
  exact ch_base ha hb n hp hq m h (ad s h1 h2 h3) (ad t h4 h5 h6)
/-- a place of the rim is never inside a step of it -/
theorem rim_np {n : Int} {P : Int → Int} (hn : 3 ≤ n) (W : PW n P) (i : Int) {j t : Int} (j0 : 0 ≤ j) (j1 : j < n) (t0 : 0 ≤ t) (t1 : t < pts (P j) (P (j + 1))) (ho : onS (RR1 n P i) (P j) (P (j + 1))) : ¬ ino (lv (ALf (P j) (P (j + 1)) t)) (lv (ALf (P j) (P (j + 1)) (t + 1))) (2 * lv (RR1 n P i)) := by
  intro z
  obtain ⟨k, v, k0, k1, v0, v1, e, r1, r2⟩ := rim_ex hn W i
  have pa := W.2.2.1 j
  have pb := W.2.2.1 (j + 1)
  have pc := W.2.2.1 k
  have pd := W.2.2.1 (k + 1)
  have na := PW_d W j0 j1
  have nc := PW_d W k0 k1
  have s1 := subd_al pa pb na t0 t1
  have s2 := subd_al pc pd nc v0 v1
  by_cases c : k = j
  · subst c
    obtain ⟨d, d0, g0, lb, _, _, h, _⟩ := al_lv pa pb na
    obtain ⟨_, l1, _⟩ := h t t0 (by omega)
    obtain ⟨_, l2, _⟩ := h (t + 1) (by omega) (by omega)
    obtain ⟨_, l3, _⟩ := h v v0 (by omega)
    have e1 : d * (t + 1) = d * t + d := by grind
    unfold ino at z
    rw [r1, l1, l2, l3, e1] at z
    by_cases g : v ≤ t
    · have c1 := mul_cmp (d := d) v0 g
      omega
    · have c1 := mul_cmp (d := d) (show 0 ≤ t + 1 by omega) (show t + 1 ≤ v by omega)
      rw [e1] at c1
      omega
  · have H := PW_hp W j0 j1 k0 k1 (fun e => c e.symm)
    have io := s1.2.2.2.2.2.2 _ z
    have ia : inc (lv (P j)) (lv (P (j + 1))) (2 * lv (RR1 n P i)) := by unfold inc; unfold ino at io; omega
    have ib : inc (lv (P k)) (lv (P (k + 1))) (2 * lv (RR1 n P i)) := by
      refine s2.2.2.2.2.2.1 _ ?_
      rw [r1]; unfold inc; omega
    have := (H _ _ ia ib (.inl io) ia ib (.inl io)).2
    refine this ?_
    rw [FS_on pa pb na ho.1, FS_on pc pd nc (by rw [r1]; exact s2.2.2.2.1)]
/-- the ray of the middle of a chord, counted beside it -/
theorem enc_mid {n : Int} {P : Int → Int} (W : PW n P) {p q u : Int} (hp : isPg p) (hq : isPg q) (m : ¬ p = q) (hc : ∀ k, 0 ≤ k → k < n → ¬ stpd p q (P k) (P (k + 1))) (hu : 2 * u = lv p + lv q ∨ 2 * u + 1 = lv p + lv q) : encN n P (p % 10 + q % 10) (p / 10 + q / 10) % 2 = LW n P u (FS p q (2 * u + 1)) % 2 := by
  have l : ¬ lv p = lv q := fun z => m (lv_i z)
  refine smI_m2 (fun k k0 k1 => ?_)
  have pa := W.2.2.1 k
  have pb := W.2.2.1 (k + 1)
  have na := PW_d W k0 k1
  have st := hc k k0 k1
  have nc := (sc_1 pa pb na hp hq m st).2.2
  have R := ray (x := p % 10 + q % 10) (y := p / 10 + q / 10) (by omega) pa pb na (fun c0 c1 => nc ⟨c1, on_y c1 (by omega) (by omega)⟩)
  rw [show 20 * (p / 10 + q / 10) + 18 - (p % 10 + q % 10) = lv p + lv q by unfold lv; omega] at R
  have fm : FS p q (lv p + lv q) = NN * (18 - (p % 10 + q % 10)) := by
    have f1 := FS_a p q
    have f2 := FS_b hp hq m
    unfold FS ps at *
    grind
  rw [← fm] at R
  show bI _ % 2 = tr (lv (P k)) (lv (P (k + 1))) u (FS (P k) (P (k + 1)) (2 * u + 1)) (FS p q (2 * u + 1)) % 2
  unfold cr2 at R
  unfold tr dd
  by_cases c : crx (lv (P k)) (lv (P (k + 1))) u
  · unfold crx at c
    have K : FS (P k) (P (k + 1)) (lv p + lv q) < FS p q (lv p + lv q) ↔ FS (P k) (P (k + 1)) (2 * u + 1) < FS p q (2 * u + 1) := by
      rcases hu with hu | hu
      · exact (ch_base pa pb na hp hq m st (s := lv p + lv q) (t := 2 * u + 1) ⟨by unfold inc; omega, by unfold inc; omega, .inl (by unfold ino; omega)⟩ ⟨by unfold inc; omega, by unfold inc; omega, .inl (by unfold ino; omega)⟩).1
      · rw [← hu]
    by_cases g : FS (P k) (P (k + 1)) (lv p + lv q) < FS p q (lv p + lv q)
    · rw [bI_t (R.mpr ⟨by omega, g⟩), if_pos (K.mp g)]; omega
    · rw [bI_f (fun w => g (R.mp w).2), if_neg (fun w => g (K.mpr w))]
  · unfold crx at c
    rw [bI_f (fun w => c (by have := (R.mp w).1; omega))]
    have e : (if u < lv (P (k + 1)) then (1 : Int) else 0) - (if u < lv (P k) then 1 else 0) = 0 := by omega
    rw [e, ite_self]
theorem QK_iff {n : Int} {P : Int → Int} (hn : 3 ≤ n) (W : PW n P) {i j : Int} (i0 : 0 ≤ i) (ij : i < j) (jM : j < alN n P) : QKc n P (alP n P) i j ↔ QKr n P (alP n P) i j := by
  have H := rim_RIM hn W
  have eR : ∀ k, 0 ≤ k → k < alN n P → alP n P k = RR1 n P k := fun k k0 k1 => by unfold RR1; rw [Int.emod_eq_of_lt k0 k1]
  have ei := eR i i0 (by omega)
  have ej := eR j (by omega) jM
  have hp : isPg (alP n P i) := by rw [ei]; exact H.2.1 i
  have hq : isPg (alP n P j) := by rw [ej]; exact H.2.1 j
  have m : ¬ alP n P i = alP n P j := by rw [ei, ej]; exact H.2.2.1 i j ij (by omega)
  have l : ¬ lv (alP n P i) = lv (alP n P j) := fun z => m (lv_i z)
  have sc : (∀ k, 0 ≤ k → k < n → ¬ stpd (alP n P i) (alP n P j) (P k) (P (k + 1))) ↔ (∀ k, 0 ≤ k → k < n → ¬ mt (alP n P i) (alP n P j) (P k) (P (k + 1)) = 1 ∧ ¬ (¬ (P k = alP n P i ∨ P k = alP n P j) ∧ onS (P k) (alP n P i) (alP n P j)) ∧ ¬ onC (alP n P i % 10 + alP n P j % 10) (alP n P i / 10 + alP n P j / 10) (2 * (P k % 10)) (2 * (P k / 10)) (2 * (P (k + 1) % 10)) (2 * (P (k + 1) / 10))) := by
    constructor
    · intro h k k0 k1
      exact sc_1 (W.2.2.1 k) (W.2.2.1 (k + 1)) (PW_d W k0 k1) hp hq m (h k k0 k1)
    · intro h k k0 k1
      obtain ⟨a1, a2, a3⟩ := h k k0 k1
      refine sc_2 (PW_d W k0 k1) m a1 a2 ?_ a3
      by_cases c : k + 1 = n
      · rw [c, W.2.1]; exact (h 0 (by omega) (by omega)).2.1
      · exact (h (k + 1) (by omega) (by omega)).2.1
  unfold QKc QKr rnsI
  by_cases S : ∀ k, 0 ≤ k → k < n → ¬ stpd (alP n P i) (alP n P j) (P k) (P (k + 1))
  · have S' := sc.mp S
    have en : encB n P (alP n P i % 10 + alP n P j % 10) (alP n P i / 10 + alP n P j / 10) ↔ encRB 2 n P (alP n P i % 10 + alP n P j % 10) (alP n P i / 10 + alP n P j / 10) := by
      unfold encB encRB encN encRN
      rw [smI_congr (fun k k0 k1 => bI_iff (cr_2 (x := alP n P i % 10 + alP n P j % 10) (y := alP n P i / 10 + alP n P j / 10) (a := P k) (b := P (k + 1)) (fun z => (S' k k0 k1).2.2 ⟨z.2, on_y z.2 (by have := z.1; omega) (by have := z.1; omega)⟩)))]
    by_cases E : encB n P (alP n P i % 10 + alP n P j % 10) (alP n P i / 10 + alP n P j / 10)
    · have hc : ∀ k, HP (RR1 n P k) (RR1 n P (k + 1)) (RR1 n P i) (RR1 n P j) := by
        intro k
        obtain ⟨x, t, x0, x1, t0, t1, e, r1, r2⟩ := rim_ex hn W k
        rw [r1, r2]
        have S2 := S x x0 x1
        rw [ei, ej] at S2
        rw [ei] at hp
        rw [ej] at hq
        rw [ei, ej] at m
        exact HP_sym (hp_chord (W.2.2.1 x) (W.2.2.1 (x + 1)) (PW_d W x0 x1) hp hq m S2 (subd_al (W.2.2.1 x) (W.2.2.1 (x + 1)) (PW_d W x0 x1) t0 t1) (fun z => rim_np hn W i x0 x1 t0 t1 z) (fun z => rim_np hn W j x0 x1 t0 t1 z))
      have em := enc_mid W hp hq m S (u := (lv (alP n P i) + lv (alP n P j)) / 2) (by omega)
      unfold encB at E
      rw [E, ei, ej] at em
      obtain ⟨s, s1, a1, a2⟩ := cut_s H (rim_A hn W) (rim_W hn W) i0 ij jM hc (u := (lv (RR1 n P i) + lv (RR1 n P j)) / 2) (by rw [ei, ej] at l; unfold crx; omega) em.symm
      have pr : prS (alP n P) i j = smI (fun k => sh (RR1 n P (i + k)) (RR1 n P (i + k + 1))) (j - i) + sh (RR1 n P j) (RR1 n P i) := by
        unfold prS
        have sp := smI_split (fun q => sh (alP n P q) (alP n P (q + 1))) i0 (show 0 ≤ j - i by omega)
        rw [show i + (j - i) = j by omega] at sp
        rw [sp, ej, ei, smI_congr (f := fun k => sh (alP n P (i + k)) (alP n P (i + k + 1))) (fun k k0 k1 => by rw [eR (i + k) (by omega) (by omega), eR (i + k + 1) (by omega) (by omega)])]
        omega
      rw [← pr] at a1 a2
      have hf := half_iff s1 a1 a2
      constructor
      · rintro ⟨g1, g2, g3⟩; exact ⟨hf.mp g1, S', en.mp g3⟩
      · rintro ⟨g1, g2, g3⟩; exact ⟨hf.mpr g1, S, en.mpr g3⟩
    · constructor
      · rintro ⟨_, _, g3⟩; exact absurd g3 E
      · rintro ⟨_, _, g3⟩; exact absurd (en.mpr g3) E
  · constructor
    · rintro ⟨_, g2, _⟩; exact absurd g2 S
    · rintro ⟨_, g2, _⟩; exact absurd (sc.mpr g2) S
