/-! ===== places as points of the sweep: levels 20 y + 9 - x, positions 9 - x, all made whole by a common multiple ===== -/
theorem ex_NN : ∃ N : Int, 0 < N ∧ ∀ d : Int, ¬ d = 0 → -200 ≤ d → d ≤ 200 → d ∣ N := by
  have key : ∀ m : Nat, ∃ N : Int, 0 < N ∧ ∀ d : Int, ¬ d = 0 → -(m : Int) ≤ d → d ≤ m → d ∣ N := by
    intro m
    induction m with
    | zero => exact ⟨1, by omega, fun d h0 h1 h2 => by omega⟩
    | succ m ih =>
      obtain ⟨N, N0, hN⟩ := ih
      refine ⟨N * ((m + 1 : Nat) : Int), Int.mul_pos N0 (by omega), fun d h0 h1 h2 => ?_⟩
      by_cases c : d = ((m + 1 : Nat) : Int)
      · rw [c]; exact Int.dvd_mul_left _ _
      · by_cases c2 : d = -((m + 1 : Nat) : Int)
        · rw [c2]; exact Int.neg_dvd.mpr (Int.dvd_mul_left _ _)
        · exact Int.dvd_trans (hN d h0 (by omega) (by omega)) (Int.dvd_mul_right _ _)
  exact key 200
noncomputable def NN : Int := Classical.choose ex_NN
theorem NN_0 : 0 < NN := (Classical.choose_spec ex_NN).1
theorem NN_d {d : Int} (h : ¬ d = 0) (h1 : -200 ≤ d) (h2 : d ≤ 200) : NN / d * d = NN := Int.ediv_mul_cancel ((Classical.choose_spec ex_NN).2 d h h1 h2)
def lv (p : Int) : Int := 20 * (p / 10) + 9 - p % 10
noncomputable def ps (p : Int) : Int := 2 * NN * (9 - p % 10)
noncomputable def mS (a b : Int) : Int := (a % 10 - b % 10) * (NN / (lv b - lv a))
noncomputable def cS (a b : Int) : Int := ps a - mS a b * (2 * lv a)
noncomputable def FS (a b s : Int) : Int := cS a b + mS a b * s
theorem lv_b {p : Int} (h : isPg p) : 0 ≤ lv p ∧ lv p ≤ 189 := by unfold lv; unfold isPg at h; omega
theorem lv_i {p q : Int} (h : lv p = lv q) : p = q := by unfold lv at h; omega
theorem mS_d {a b : Int} (ha : isPg a) (hb : isPg b) (h : ¬ a = b) : mS a b * (lv b - lv a) = NN * (a % 10 - b % 10) := by
  have h1 := lv_b ha
  have h2 := lv_b hb
  have e := NN_d (d := lv b - lv a) (fun z => h (lv_i (by omega))) (by omega) (by omega)
  unfold mS
  rw [Int.mul_assoc, e, Int.mul_comm]
theorem FS_a (a b : Int) : FS a b (2 * lv a) = ps a := by unfold FS cS; omega
theorem FS_b {a b : Int} (ha : isPg a) (hb : isPg b) (h : ¬ a = b) : FS a b (2 * lv b) = ps b := by
  have e := mS_d ha hb h
  unfold FS cS ps
  grind
/-- where a point lies against a side -/
theorem FS_x {a b : Int} (ha : isPg a) (hb : isPg b) (h : ¬ a = b) (x y : Int) : (lv b - lv a) * (NN * (18 - x) - FS a b (20 * y + 18 - x)) = 10 * NN * crT x y (2 * (a % 10)) (2 * (a / 10)) (2 * (b % 10)) (2 * (b / 10)) := by
  have e := mS_d ha hb h
  unfold FS cS ps crT
  unfold lv at *
  generalize mS a b = m at *
  generalize a % 10 = ax at *
  generalize a / 10 = ay at *
  generalize b % 10 = bx at *
  generalize b / 10 = by_ at *
  grind
theorem FS_p {a b : Int} (ha : isPg a) (hb : isPg b) (h : ¬ a = b) (c : Int) : (lv b - lv a) * (ps c - FS a b (2 * lv c)) = 40 * NN * tn a b c := by
  have e := FS_x ha hb h (2 * (c % 10)) (2 * (c / 10))
  rw [show 20 * (2 * (c / 10)) + 18 - 2 * (c % 10) = 2 * lv c by unfold lv; omega] at e
  rw [show ps c = NN * (18 - 2 * (c % 10)) by unfold ps; grind, e]
  unfold crT tn crs
  grind
theorem FS_sw {a b : Int} (ha : isPg a) (hb : isPg b) (h : ¬ a = b) (s : Int) : FS b a s = FS a b s := by
  have e := mS_d ha hb h
  have e2 := mS_d hb ha (fun z => h z.symm)
  have d : ¬ lv b - lv a = 0 := fun z => h (lv_i (by omega))
  have em : mS b a = mS a b := Int.eq_of_mul_eq_mul_right d (by rw [e]; grind)
  have e3 := FS_b ha hb h
  unfold FS cS at *
  rw [em]
  omega
/-- signs of a product -/
theorem sg_pos {D X K T : Int} (hD : 0 < D) (hK : 0 < K) (e : D * X = K * T) : (0 < X ↔ 0 < T) ∧ (X = 0 ↔ T = 0) ∧ (X < 0 ↔ T < 0) := by
  rcases Int.lt_trichotomy X 0 with x | x | x
  · have a := Int.mul_neg_of_pos_of_neg hD x
    have : T < 0 := Int.not_le.mp (fun z => by have := Int.mul_nonneg (Int.le_of_lt hK) z; omega)
    omega
  · rw [x, Int.mul_zero] at e
    have : T = 0 := by rcases Int.mul_eq_zero.mp e.symm with z | z <;> omega
    omega
  · have a := Int.mul_pos hD x
    have : 0 < T := Int.not_le.mp (fun z => by have := Int.mul_nonneg (Int.le_of_lt hK) (show 0 ≤ -T by omega); rw [Int.mul_neg] at this; omega)
    omega
theorem sg_neg {D X K T : Int} (hD : D < 0) (hK : 0 < K) (e : D * X = K * T) : (0 < X ↔ T < 0) ∧ (X = 0 ↔ T = 0) ∧ (X < 0 ↔ 0 < T) := by
  have := sg_pos (D := -D) (X := X) (K := K) (T := -T) (by omega) hK (by rw [Int.neg_mul, Int.mul_neg, e])
  omega
/-- ways that keep their order and never lie at one point inside -/
def HX (a b c d : Int) (f g : Int → Int) : Prop := ∀ s t, inc a b s → inc c d s → (ino a b s ∨ ino c d s) → inc a b t → inc c d t → (ino a b t ∨ ino c d t) → (g s < f s ↔ g t < f t) ∧ ¬ g s = f s
theorem HX_H {a b c d : Int} {f g : Int → Int} (h : HX a b c d f g) : HH a b c d f g := fun s t h1 h2 h3 h4 h5 h6 => (h s t h1 h2 h3 h4 h5 h6).1
theorem HX_sym {a b c d : Int} {f g : Int → Int} (h : HX a b c d f g) : HX c d a b g f := fun s t h1 h2 h3 h4 h5 h6 => by
  have A := h s t h2 h1 h3.symm h5 h4 h6.symm
  have B := h t s h5 h4 h6.symm h2 h1 h3.symm
  omega
theorem HX_lv {a b c d u : Int} {f g : Int → Int} (h : HX a b c d f g) (h1 : crx a b u) (h2 : crx c d u) : ¬ f (2 * u + 1) = g (2 * u + 1) := by
  unfold crx at h1 h2
  have := (h (2 * u + 1) (2 * u + 1) (by unfold inc; omega) (by unfold inc; omega) (by unfold ino; omega) (by unfold inc; omega) (by unfold inc; omega) (by unfold ino; omega)).2
  omega
def HP (a b c d : Int) : Prop := HX (lv a) (lv b) (lv c) (lv d) (FS a b) (FS c d)
theorem inc_sw {a b s : Int} : inc b a s ↔ inc a b s := by unfold inc; omega
theorem ino_sw {a b s : Int} : ino b a s ↔ ino a b s := by unfold ino; omega
theorem HP_sym {a b c d : Int} (h : HP a b c d) : HP c d a b := HX_sym h
theorem HP_sw {a b c d : Int} (ha : isPg a) (hb : isPg b) (n : ¬ a = b) (h : HP a b c d) : HP b a c d := fun s t h1 h2 h3 h4 h5 h6 => by
  rw [FS_sw ha hb n, FS_sw ha hb n]
  rw [inc_sw] at h1 h4
  rw [ino_sw (a := lv a)] at h3 h6
  exact h s t h1 h2 h3 h4 h5 h6
theorem HP_sv {a b c d : Int} (hc : isPg c) (hd : isPg d) (n : ¬ c = d) (h : HP a b c d) : HP a b d c := HP_sym (HP_sw hc hd n (HP_sym h))
/-- the place of the line at a point of it between the ends -/
theorem onS_lv {p a b : Int} (h : tn a b p = 0) (h1 : lv a ≤ lv p) (h2 : lv p ≤ lv b) : onS p a b := by
  refine ⟨h, ?_⟩
  by_cases c : a = b
  · subst c
    have e : p = a := lv_i (by omega)
    subst e
    unfold al dt
    simp
  have d : ¬ lv a = lv b := fun z => c (lv_i z)
  unfold tn crs at h
  unfold al dt
  unfold lv at h1 h2 d
  generalize a % 10 = ax at *
  generalize a / 10 = ay at *
  generalize b % 10 = bx at *
  generalize b / 10 = by_ at *
  generalize p % 10 = px at *
  generalize p / 10 = py at *
  have k1 : (bx - ax) * (20 * (py - ay) - (px - ax)) = (20 * (by_ - ay) - (bx - ax)) * (px - ax) := by grind
  have k2 : (by_ - ay) * (20 * (py - ay) - (px - ax)) = (20 * (by_ - ay) - (bx - ax)) * (py - ay) := by grind
  have hD : 0 < 20 * (by_ - ay) - (bx - ax) := by omega
  have e0 : 0 ≤ 20 * (py - ay) - (px - ax) := by omega
  have e1 : 0 ≤ 20 * (by_ - ay) - (bx - ax) - (20 * (py - ay) - (px - ax)) := by omega
  generalize 20 * (by_ - ay) - (bx - ax) = D at *
  generalize 20 * (py - ay) - (px - ax) = E at *
  have key : D * D * ((ax - px) * (bx - px) + (ay - py) * (by_ - py)) = -(E * (D - E) * ((bx - ax) * (bx - ax) + (by_ - ay) * (by_ - ay))) := by
    have a1 : D * D * ((ax - px) * (bx - px)) = -((bx - ax) * E * ((bx - ax) * (D - E))) := by grind
    have a2 : D * D * ((ay - py) * (by_ - py)) = -((by_ - ay) * E * ((by_ - ay) * (D - E))) := by grind
    grind
  have nn : 0 ≤ E * (D - E) * ((bx - ax) * (bx - ax) + (by_ - ay) * (by_ - ay)) := by
    refine Int.mul_nonneg (Int.mul_nonneg e0 e1) ?_
    have u : ∀ z : Int, 0 ≤ z * z := fun z => by
      rcases Int.le_total 0 z with g | g
      · exact Int.mul_nonneg g g
      · have := Int.mul_nonneg (show 0 ≤ -z by omega) (show 0 ≤ -z by omega)
        rw [Int.neg_mul_neg] at this; exact this
    exact Int.add_nonneg (u _) (u _)
  refine Int.not_lt.mp (fun z => ?_)
  have := Int.mul_pos (Int.mul_pos hD hD) z
  omega
/-- an order kept by a monotone difference that is never 0 at an end within the other -/
theorem mono_nz {G : Int → Int} {a b c d s t : Int} (mono : ∀ x y, x ≤ y → G x ≤ G y) (ab : a < b) (cd : c < d) (n1 : a ≤ c → c ≤ b → ¬ G (2 * c) = 0) (n2 : a ≤ d → d ≤ b → ¬ G (2 * d) = 0) (n3 : c ≤ a → a ≤ d → ¬ G (2 * a) = 0) (n4 : c ≤ b → b ≤ d → ¬ G (2 * b) = 0) (nx : ¬ (G (2 * a) < 0 ∧ 0 < G (2 * b) ∧ G (2 * c) < 0 ∧ 0 < G (2 * d))) (s1 : 2 * a ≤ s ∧ s ≤ 2 * b) (s2 : 2 * c ≤ s ∧ s ≤ 2 * d) (t1 : 2 * a ≤ t ∧ t ≤ 2 * b) (t2 : 2 * c ≤ t ∧ t ≤ 2 * d) (gs : G s ≤ 0) (gt : 0 ≤ G t) : False := by
  refine nx ?_
  have lo : G (2 * a) < 0 ∧ G (2 * c) < 0 := by
    by_cases g : a ≤ c
    · have x := n1 g (by omega)
      have y := mono (2 * c) s s2.1
      have z := mono (2 * a) (2 * c) (by omega)
      omega
    · have x := n3 (by omega) (by omega)
      have y := mono (2 * a) s s1.1
      have z := mono (2 * c) (2 * a) (by omega)
      omega
  have hi : 0 < G (2 * b) ∧ 0 < G (2 * d) := by
    by_cases g : d ≤ b
    · have x := n2 (by omega) g
      have y := mono t (2 * d) t2.2
      have z := mono (2 * d) (2 * b) (by omega)
      omega
    · have x := n4 (by omega) (by omega)
      have y := mono t (2 * b) t1.2
      have z := mono (2 * b) (2 * d) (by omega)
      omega
  exact ⟨lo.1, hi.1, lo.2, hi.2⟩
set_option maxHeartbeats 2000000 in
theorem hp_nm1 {a b c d : Int} (ha : isPg a) (hb : isPg b) (hc : isPg c) (hd : isPg d) (ab : lv a < lv b) (cd : lv c < lv d) (h : mt a b c d = 0) {s t : Int} (s1 : 2 * lv a ≤ s ∧ s ≤ 2 * lv b) (s2 : 2 * lv c ≤ s ∧ s ≤ 2 * lv d) (t1 : 2 * lv a ≤ t ∧ t ≤ 2 * lv b) (t2 : 2 * lv c ≤ t ∧ t ≤ 2 * lv d) (gs : FS c d s ≤ FS a b s) (gt : FS a b t ≤ FS c d t) : False := by
  obtain ⟨h1, h2⟩ := mt_0.mp h
  have nab : ¬ a = b := fun z => by rw [z] at ab; omega
  have ncd : ¬ c = d := fun z => by rw [z] at cd; omega
  have K : 0 < 40 * NN := by have := NN_0; omega
  have pc := sg_pos (by omega) K (FS_p ha hb nab c)
  have pd := sg_pos (by omega) K (FS_p ha hb nab d)
  have pa := sg_pos (by omega) K (FS_p hc hd ncd a)
  have pb := sg_pos (by omega) K (FS_p hc hd ncd b)
  have fa := FS_a a b
  have fb := FS_b ha hb nab
  have fc := FS_a c d
  have fd := FS_b hc hd ncd
  have m1 : lv a ≤ lv c → lv c ≤ lv b → ¬ tn a b c = 0 := fun x y z => h2 (.inl (onS_lv z x y))
  have m2 : lv a ≤ lv d → lv d ≤ lv b → ¬ tn a b d = 0 := fun x y z => h2 (.inr (.inl (onS_lv z x y)))
  have m3 : lv c ≤ lv a → lv a ≤ lv d → ¬ tn c d a = 0 := fun x y z => h2 (.inr (.inr (.inl (onS_lv z x y))))
  have m4 : lv c ≤ lv b → lv b ≤ lv d → ¬ tn c d b = 0 := fun x y z => h2 (.inr (.inr (.inr (onS_lv z x y))))
  have aff : ∀ x, FS c d x - FS a b x = (cS c d - cS a b) + (mS c d - mS a b) * x := fun x => by unfold FS; grind
  rcases Int.le_total 0 (mS c d - mS a b) with g | g
  · refine mono_nz (G := fun x => FS c d x - FS a b x) (a := lv a) (b := lv b) (c := lv c) (d := lv d) (s := s) (t := t) (fun x y xy => ?_) ab cd (fun x y => ?_) (fun x y => ?_) (fun x y => ?_) (fun x y => ?_) (fun z => ?_) s1 s2 t1 t2 (by omega) (by omega)
    · rw [aff, aff]; have := Int.mul_le_mul_of_nonneg_left xy g; omega
    · have := m1 x y; omega
    · have := m2 x y; omega
    · have := m3 x y; omega
    · have := m4 x y; omega
    · exact h1 ⟨Int.mul_neg_of_neg_of_pos (by omega) (by omega), Int.mul_neg_of_pos_of_neg (by omega) (by omega)⟩
  · refine mono_nz (G := fun x => FS a b x - FS c d x) (a := lv a) (b := lv b) (c := lv c) (d := lv d) (s := t) (t := s) (fun x y xy => ?_) ab cd (fun x y => ?_) (fun x y => ?_) (fun x y => ?_) (fun x y => ?_) (fun z => ?_) t1 t2 s1 s2 (by omega) (by omega)
    · have e1 := aff x
      have e2 := aff y
      have := Int.mul_le_mul_of_nonneg_left xy (show 0 ≤ -(mS c d - mS a b) by omega)
      rw [Int.neg_mul, Int.neg_mul] at this
      omega
    · have := m1 x y; omega
    · have := m2 x y; omega
    · have := m3 x y; omega
    · have := m4 x y; omega
    · exact h1 ⟨Int.mul_neg_of_pos_of_neg (by omega) (by omega), Int.mul_neg_of_neg_of_pos (by omega) (by omega)⟩
theorem hp_nm2 {a b c d : Int} (ha : isPg a) (hb : isPg b) (hc : isPg c) (hd : isPg d) (ab : lv a < lv b) (cd : lv c < lv d) (h : mt a b c d = 0) : HP a b c d := fun s t h1 h2 _ h4 h5 _ => by
  unfold inc at h1 h2 h4 h5
  have A := hp_nm1 ha hb hc hd ab cd h (s := s) (t := t) (by omega) (by omega) (by omega) (by omega)
  have B := hp_nm1 ha hb hc hd ab cd h (s := t) (t := s) (by omega) (by omega) (by omega) (by omega)
  have C := hp_nm1 ha hb hc hd ab cd h (s := s) (t := s) (by omega) (by omega) (by omega) (by omega)
  refine ⟨⟨fun z => ?_, fun z => ?_⟩, fun z => C (by omega) (by omega)⟩
  · exact Int.not_le.mp (fun y => A (by omega) y)
  · exact Int.not_le.mp (fun y => B (by omega) y)
theorem mt_rv {a b c d : Int} : mt b a c d = 0 ↔ mt a b c d = 0 := mt_sw.symm.trans (mt_rev.trans mt_sw)
theorem hp_nm {a b c d : Int} (ha : isPg a) (hb : isPg b) (hc : isPg c) (hd : isPg d) (ab : ¬ a = b) (cd : ¬ c = d) (h : mt a b c d = 0) : HP a b c d := by
  have l1 : ¬ lv a = lv b := fun z => ab (lv_i z)
  have l2 : ¬ lv c = lv d := fun z => cd (lv_i z)
  by_cases g1 : lv a < lv b <;> by_cases g2 : lv c < lv d
  · exact hp_nm2 ha hb hc hd g1 g2 h
  · exact HP_sv hd hc (fun z => cd z.symm) (hp_nm2 ha hb hd hc g1 (by omega) (mt_rev.mpr h))
  · exact HP_sw hb ha (fun z => ab z.symm) (hp_nm2 hb ha hc hd (by omega) g2 (mt_rv.mpr h))
  · exact HP_sw hb ha (fun z => ab z.symm) (HP_sv hd hc (fun z => cd z.symm) (hp_nm2 hb ha hd hc (by omega) (by omega) (mt_rev.mpr (mt_rv.mpr h))))
/-- two sides at a corner that bends -/
theorem hp_adj {a b d : Int} (ha : isPg a) (hb : isPg b) (hd : isPg d) (h : ¬ tn a b d = 0) : HP a b b d := by
  have nab : ¬ a = b := fun z => h (by rw [z]; unfold tn crs; grind)
  have nbd : ¬ b = d := fun z => h (by rw [z]; unfold tn crs; grind)
  have K : 0 < 40 * NN := by have := NN_0; omega
  have f1 := FS_b ha hb nab
  have f2 := FS_a b d
  have f3 := FS_b hb hd nbd
  have dd0 : ¬ lv b - lv a = 0 := fun z => nab (lv_i (by omega))
  have g0 : ¬ ps d - FS a b (2 * lv d) = 0 := fun z => by
    have e := FS_p ha hb nab d
    rw [z, Int.mul_zero] at e
    rcases Int.mul_eq_zero.mp e.symm with y | y
    · omega
    · exact h y
  have aff : ∀ x, FS b d x - FS a b x = (mS b d - mS a b) * (x - 2 * lv b) := fun x => by unfold FS at *; grind
  have m0 : ¬ mS b d - mS a b = 0 := fun z => by
    have := aff (2 * lv d)
    rw [z, Int.zero_mul] at this
    omega
  have sg : ∀ x y, ((2 * lv b < x ∧ 2 * lv b < y) ∨ (x < 2 * lv b ∧ y < 2 * lv b)) → (FS b d x < FS a b x ↔ FS b d y < FS a b y) ∧ ¬ FS b d x = FS a b x := by
    intro x y hxy
    have ex := aff x
    have ey := aff y
    generalize mS b d - mS a b = m at *
    rcases hxy with ⟨g1, g2⟩ | ⟨g1, g2⟩ <;> rcases Int.lt_or_gt_of_ne m0 with k | k
    · have a1 := Int.mul_neg_of_neg_of_pos k (show 0 < x - 2 * lv b by omega)
      have a2 := Int.mul_neg_of_neg_of_pos k (show 0 < y - 2 * lv b by omega)
      omega
    · have a1 := Int.mul_pos k (show 0 < x - 2 * lv b by omega)
      have a2 := Int.mul_pos k (show 0 < y - 2 * lv b by omega)
      omega
    · have a1 := Int.mul_pos_of_neg_of_neg k (show x - 2 * lv b < 0 by omega)
      have a2 := Int.mul_pos_of_neg_of_neg k (show y - 2 * lv b < 0 by omega)
      omega
    · have a1 := Int.mul_neg_of_pos_of_neg k (show x - 2 * lv b < 0 by omega)
      have a2 := Int.mul_neg_of_pos_of_neg k (show y - 2 * lv b < 0 by omega)
      omega
  intro s t h1 h2 h3 h4 h5 h6
  unfold inc at h1 h2 h4 h5
  unfold ino at h3 h6
  exact sg s t (by omega)
/-- a closed way of places, sides that keep their order -/
def PW (n : Int) (P : Int → Int) : Prop := 2 ≤ n ∧ P n = P 0 ∧ (∀ i, isPg (P i)) ∧ (∀ i j, 0 ≤ i → i < n → 0 ≤ j → j < n → P i = P j → i = j) ∧ (∀ i k, 0 ≤ i → i < k → k < n → HP (P i) (P (i + 1)) (P k) (P (k + 1)))
theorem PW_d {n : Int} {P : Int → Int} (h : PW n P) {k : Int} (k0 : 0 ≤ k) (k1 : k < n) : ¬ P k = P (k + 1) := by
  obtain ⟨n2, hq, _, hi, _⟩ := h
  intro e
  by_cases c : k + 1 = n
  · rw [c, hq] at e
    have := hi k 0 k0 k1 (by omega) (by omega) e
    omega
  · have := hi k (k + 1) k0 k1 (by omega) (by omega) e
    omega
theorem PW_hp {n : Int} {P : Int → Int} (h : PW n P) {i k : Int} (i0 : 0 ≤ i) (i1 : i < n) (k0 : 0 ≤ k) (k1 : k < n) (ik : ¬ i = k) : HP (P i) (P (i + 1)) (P k) (P (k + 1)) := by
  by_cases c : i < k
  · exact h.2.2.2.2 i k i0 c k1
  · exact HP_sym (h.2.2.2.2 k i k0 (by omega) i1)
theorem PW_PG {n : Int} {P : Int → Int} (h : PW n P) : PG n (fun k => lv (P k)) (fun k => ps (P k)) (fun k s => cS (P k) (P (k + 1)) + mS (P k) (P (k + 1)) * s) :=
  ⟨h.1, congrArg lv h.2.1, congrArg ps h.2.1, fun i j i0 i1 j0 j1 e => h.2.2.2.1 i j i0 i1 j0 j1 (lv_i e), fun k k0 k1 => ⟨FS_a _ _, FS_b (h.2.2.1 k) (h.2.2.1 (k + 1)) (PW_d h k0 k1)⟩, fun i k i0 i1 k0 k1 ik => HX_H (PW_hp h i0 i1 k0 k1 ik), fun i k u i0 i1 k0 k1 ik c1 c2 => HX_lv (PW_hp h i0 i1 k0 k1 ik) c1 c2⟩
theorem FS_bd {a b : Int} (ha : isPg a) (hb : isPg b) (h : ¬ a = b) {s : Int} (hs : inc (lv a) (lv b) s) : 0 ≤ FS a b s ∧ FS a b s ≤ 18 * NN := by
  have N0 := NN_0
  have fa := FS_a a b
  have fb := FS_b ha hb h
  have pa : 0 ≤ ps a ∧ ps a ≤ 18 * NN := by
    unfold ps
    have := Int.mul_nonneg (Int.le_of_lt N0) (show 0 ≤ 9 - a % 10 by omega)
    have := Int.mul_nonneg (Int.le_of_lt N0) (show 0 ≤ a % 10 by omega)
    constructor
    · rw [Int.mul_assoc]; omega
    · rw [Int.mul_assoc, Int.mul_sub]; omega
  have pb : 0 ≤ ps b ∧ ps b ≤ 18 * NN := by
    unfold ps
    have := Int.mul_nonneg (Int.le_of_lt N0) (show 0 ≤ 9 - b % 10 by omega)
    have := Int.mul_nonneg (Int.le_of_lt N0) (show 0 ≤ b % 10 by omega)
    constructor
    · rw [Int.mul_assoc]; omega
    · rw [Int.mul_assoc, Int.mul_sub]; omega
  have mono : ∀ x y, x ≤ y → (0 ≤ mS a b → FS a b x ≤ FS a b y) ∧ (mS a b ≤ 0 → FS a b y ≤ FS a b x) := by
    intro x y xy
    unfold FS
    refine ⟨fun g => ?_, fun g => ?_⟩
    · have := Int.mul_le_mul_of_nonneg_left xy g; omega
    · have := Int.mul_le_mul_of_nonneg_left xy (show 0 ≤ -mS a b by omega)
      rw [Int.neg_mul, Int.neg_mul] at this; omega
  unfold inc at hs
  rcases hs with ⟨g1, g2⟩ | ⟨g1, g2⟩
  · have x := mono _ _ g1
    have y := mono _ _ g2
    rcases Int.le_total 0 (mS a b) with k | k <;> omega
  · have x := mono _ _ g1
    have y := mono _ _ g2
    rcases Int.le_total 0 (mS a b) with k | k <;> omega
/-- the number of sides to the left of a place on a level, with their directions -/
noncomputable def LW (n : Int) (P : Int → Int) (u t : Int) : Int := WW n (fun k => lv (P k)) (fun k s => cS (P k) (P (k + 1)) + mS (P k) (P (k + 1)) * s) u t
theorem PW_s {n : Int} {P : Int → Int} (h : PW n P) : ∃ s, (s = 1 ∨ s = -1) ∧ (∀ i u, 0 ≤ i → i < n → crx (lv (P i)) (lv (P (i + 1))) u → dr (lv (P i)) (lv (P (i + 1))) + 2 * LW n P u (FS (P i) (P (i + 1)) (2 * u + 1)) = s) ∧ 0 < s * areaS n P := by
  obtain ⟨s, s1, hs⟩ := PG_s (PW_PG h)
  refine ⟨s, s1, hs, ?_⟩
  have A := PG_area (PW_PG h) (U := 189) (M := 18 * NN + 2) (s := s) (fun k _ _ => lv_b (h.2.2.1 k)) (fun k u k0 k1 c => by
    have := FS_bd (h.2.2.1 k) (h.2.2.1 (k + 1)) (PW_d h k0 k1) (s := 2 * u + 1) (by unfold crx at c; unfold inc; omega)
    unfold FS at this
    omega) s1 hs
  have e : smI (fun k => (lv (P (k + 1)) - lv (P k)) * (ps (P k) + ps (P (k + 1)))) n = -(40 * NN) * areaS n P := by
    have e1 : smI (fun k => (lv (P (k + 1)) - lv (P k)) * (ps (P k) + ps (P (k + 1)))) n = smI (fun k => (ps (P (k + 1)) * lv (P (k + 1)) + 360 * NN * (P (k + 1) / 10)) - (ps (P k) * lv (P k) + 360 * NN * (P k / 10))) n + smI (fun k => -(40 * NN) * sh (P k) (P (k + 1))) n := smI_ad (fun k _ _ => by
      unfold ps lv sh
      generalize P k % 10 = ax at *
      generalize P k / 10 = ay at *
      generalize P (k + 1) % 10 = bx at *
      generalize P (k + 1) / 10 = by_ at *
      grind)
    rw [e1, smI_tel (g := fun k => ps (P k) * lv (P k) + 360 * NN * (P k / 10)) (by have := h.1; omega) (fun k _ _ => rfl), h.2.1, smI_mul]
    unfold areaS
    omega
  rw [e] at A
  have N0 := NN_0
  have B : 0 < (40 * NN) * (s * areaS n P) := by
    have : s * (-(40 * NN) * areaS n P) = -((40 * NN) * (s * areaS n P)) := by grind
    omega
  exact Int.not_le.mp (fun z => by
    have := Int.mul_nonneg (show 0 ≤ 40 * NN by omega) (show 0 ≤ -(s * areaS n P) by omega)
    rw [Int.mul_neg] at this
    omega)
/-- a band that is not wrong is such a way -/
theorem PW_w {n : Int} {P : Int → Int} (hn : 3 ≤ n) (per : ∀ i, P (i + n) = P i) (pg : ∀ i, isPg (P i)) (h2 : ¬ E2 n P) (h3 : ¬ E3 n P) (h4 : ¬ E4 n P) : PW n P := by
  have inj : ∀ i j, 0 ≤ i → i < n → 0 ≤ j → j < n → P i = P j → i = j := by
    intro i j i0 i1 j0 j1 e
    rcases Int.lt_trichotomy i j with g | g | g
    · exact absurd ⟨j, i, ⟨i0, g, j1⟩, e.symm⟩ h2
    · exact g
    · exact absurd ⟨i, j, ⟨j0, g, i1⟩, e⟩ h2
  have pn : P n = P 0 := by have := per 0; rw [show 0 + n = n by omega] at this; exact this
  have nx : ∀ k, 0 ≤ k → k < n → ¬ P k = P (k + 1) := by
    intro k k0 k1 e
    by_cases c : k + 1 = n
    · rw [c, pn] at e
      have := inj k 0 k0 k1 (by omega) (by omega) e
      omega
    · have := inj k (k + 1) k0 k1 (by omega) (by omega) e
      omega
  refine ⟨by omega, pn, pg, inj, fun i k i0 ik k1 => ?_⟩
  by_cases c1 : k = i + 1
  · subst c1
    refine hp_adj (pg _) (pg _) (pg _) (fun z => h3 ⟨i, ⟨i0, by omega⟩, ?_⟩)
    rw [show i + 2 = i + 1 + 1 by omega]; exact z
  · by_cases c2 : i = 0 ∧ k = n - 1
    · have e : P (k + 1) = P i := by rw [c2.2, show n - 1 + 1 = n by omega, pn, c2.1]
      rw [e]
      refine HP_sym (hp_adj (pg _) (pg _) (pg _) (fun z => h3 ⟨k, ⟨by omega, k1⟩, ?_⟩))
      have e2 := per 1
      rw [show (1 : Int) + n = k + 2 by omega] at e2
      rw [e, e2, show (1 : Int) = i + 1 by omega]; exact z
    · exact hp_nm (pg _) (pg _) (pg _) (pg _) (nx i i0 (by omega)) (nx k (by omega) k1) (Classical.byContradiction (fun z => h4 ⟨i, k, ⟨i0, by omega, k1, c2⟩, z⟩))
theorem area_n0 {n : Int} {P : Int → Int} (hn : 3 ≤ n) (per : ∀ i, P (i + n) = P i) (pg : ∀ i, isPg (P i)) (h2 : ¬ E2 n P) (h3 : ¬ E3 n P) (h4 : ¬ E4 n P) : ¬ areaS n P = 0 := fun z => by
  obtain ⟨s, _, _, h⟩ := PW_s (PW_w hn per pg h2 h3 h4)
  rw [z, Int.mul_zero] at h
  exact absurd h (Int.lt_irrefl _)
