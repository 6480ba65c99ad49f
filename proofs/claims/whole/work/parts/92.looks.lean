/-! ===== inside, told in two ways ===== -/
theorem mulnn {a b : Int} (h : (0 ≤ a ∧ 0 ≤ b) ∨ (a ≤ 0 ∧ b ≤ 0)) : 0 ≤ a * b := by
  rcases h with h | h
  · exact Int.mul_nonneg h.1 h.2
  · have := Int.mul_nonneg (show 0 ≤ -a by omega) (show 0 ≤ -b by omega)
    rw [Int.neg_mul_neg] at this; exact this
theorem sq_nn (a : Int) : 0 ≤ a * a := mulnn (by omega)
theorem sq_pos {a : Int} (h : ¬ a = 0) : 0 < a * a := by
  rcases Int.lt_or_lt_of_ne h with c | c
  · have := Int.mul_pos (show 0 < -a by omega) (show 0 < -a by omega)
    rw [Int.neg_mul_neg] at this; exact this
  · exact Int.mul_pos c c
/-- in one line and as high as a point between: on the way -/
theorem on_y {ax ay bx by_ px py : Int} (h0 : crs ax ay bx by_ px py = 0) (hne : ¬ ay = by_) (hy : (ay ≤ py ∧ py ≤ by_) ∨ (by_ ≤ py ∧ py ≤ ay)) : dt px py ax ay bx by_ ≤ 0 := by
  have k : (px - ax) * (bx - px) * ((by_ - ay) * (by_ - ay)) = (bx - ax) * (bx - ax) * ((py - ay) * (by_ - py)) := by
    unfold crs at h0
    have e1 : (px - ax) * (by_ - ay) = (bx - ax) * (py - ay) := by grind
    have e2 : (bx - px) * (by_ - ay) = (bx - ax) * (by_ - py) := by grind
    grind
  have a1 : 0 ≤ (py - ay) * (by_ - py) := mulnn (by omega)
  have a2 := Int.mul_nonneg (sq_nn (bx - ax)) a1
  have a3 := sq_pos (a := by_ - ay) (by omega)
  have a4 : 0 ≤ (px - ax) * (bx - px) := by
    refine Int.not_lt.mp (fun c => ?_)
    have := Int.mul_neg_of_neg_of_pos c a3
    omega
  have e : dt px py ax ay bx by_ = -((px - ax) * (bx - px)) - (py - ay) * (by_ - py) := by unfold dt; grind
  omega
/-- a point on no side: the two tests of a side agree -/
theorem cr_2 {x y a b : Int} (h : ¬ (¬ (y < 2 * (a / 10) ↔ y < 2 * (b / 10)) ∧ crT x y (2 * (a % 10)) (2 * (a / 10)) (2 * (b % 10)) (2 * (b / 10)) = 0)) : crR 2 x y a b ↔ crC x y a b := by
  have e : crV 2 x y (a % 10) (a / 10) (b % 10) (b / 10) = crT x y (2 * (a % 10)) (2 * (a / 10)) (2 * (b % 10)) (2 * (b / 10)) := by unfold crV crT; grind
  unfold crR crC
  rw [e]
  generalize crT x y (2 * (a % 10)) (2 * (a / 10)) (2 * (b % 10)) (2 * (b / 10)) = t at *
  constructor
  · rintro ⟨h1, h2⟩
    refine ⟨h1, ?_⟩
    by_cases c : 2 * (a / 10) < 2 * (b / 10)
    · rw [if_pos c] at h2; exact ⟨fun _ => h2, fun _ => c⟩
    · rw [if_neg c] at h2; exact ⟨fun z => absurd z c, fun z => by omega⟩
  · rintro ⟨h1, h2⟩
    refine ⟨h1, ?_⟩
    by_cases c : 2 * (a / 10) < 2 * (b / 10)
    · rw [if_pos c]; exact h2.mp c
    · rw [if_neg c]
      have z : ¬ t = 0 := fun z => h ⟨h1, z⟩
      have w : ¬ 0 < t := fun w => c (h2.mpr w)
      omega
theorem cr_12 {px py a b : Int} : crR 1 px py a b ↔ crR 2 (2 * px) (2 * py) a b := by
  have e : crV 2 (2 * px) (2 * py) (a % 10) (a / 10) (b % 10) (b / 10) = 4 * crV 1 px py (a % 10) (a / 10) (b % 10) (b / 10) := by unfold crV; grind
  unfold crR
  rw [e]
  generalize crV 1 px py (a % 10) (a / 10) (b % 10) (b / 10) = t
  constructor
  · rintro ⟨h1, h2⟩
    refine ⟨by omega, ?_⟩
    by_cases c : 1 * (a / 10) < 1 * (b / 10)
    · rw [if_pos c] at h2; rw [if_pos (by omega)]; omega
    · rw [if_neg c] at h2; rw [if_neg (by omega)]; omega
  · rintro ⟨h1, h2⟩
    refine ⟨by omega, ?_⟩
    by_cases c : 1 * (a / 10) < 1 * (b / 10)
    · rw [if_pos (by omega)] at h2; rw [if_pos c]; omega
    · rw [if_neg (by omega)] at h2; rw [if_neg c]; omega
theorem cr_on {p a b : Int} (h : ¬ (2 * (p / 10) < 2 * (a / 10) ↔ 2 * (p / 10) < 2 * (b / 10))) (h0 : crT (2 * (p % 10)) (2 * (p / 10)) (2 * (a % 10)) (2 * (a / 10)) (2 * (b % 10)) (2 * (b / 10)) = 0) : onS p a b := by
  have e : crT (2 * (p % 10)) (2 * (p / 10)) (2 * (a % 10)) (2 * (a / 10)) (2 * (b % 10)) (2 * (b / 10)) = 4 * tn a b p := by unfold crT tn crs; grind
  have z : tn a b p = 0 := by omega
  refine ⟨z, ?_⟩
  unfold al
  exact on_y (show crs (a % 10) (a / 10) (b % 10) (b / 10) (p % 10) (p / 10) = 0 from z) (by omega) (by omega)
theorem enc_1 {n : Int} {P : Int → Int} {p : Int} (h : ¬ isOnB n P p) : encRB 1 n P (p % 10) (p / 10) ↔ encB n P (2 * (p % 10)) (2 * (p / 10)) := by
  unfold encRB encB encRN encN
  rw [smI_congr (g := fun i => bI (crC (2 * (p % 10)) (2 * (p / 10)) (P i) (P (i + 1)))) (fun i i0 i1 => bI_iff (cr_12.trans (cr_2 (fun z => h ⟨i, i0, i1, cr_on z.1 z.2⟩))))]
theorem p10 (p : Int) : 10 * (p / 10) + p % 10 = p := by omega
theorem wth_1 {n : Int} {P : Int → Int} {p : Int} : (¬ isOnB n P (10 * (p / 10) + p % 10) ∧ encRB 1 n P (p % 10) (p / 10)) ↔ wthB n P p := by
  rw [p10]
  unfold wthB
  exact ⟨fun z => ⟨z.1, (enc_1 z.1).mp z.2⟩, fun z => ⟨z.1, (enc_1 z.1).mpr z.2⟩⟩
theorem hld_1 {n : Int} {P : Int → Int} {p : Int} : (isOnB n P (10 * (p / 10) + p % 10) ∨ encRB 1 n P (p % 10) (p / 10)) ↔ hldB n P p := by
  rw [p10]
  unfold hldB
  by_cases c : isOnB n P p
  · exact ⟨fun _ => Or.inl c, fun _ => Or.inl c⟩
  · rw [enc_1 c]
theorem pk_01 {σ : jS} (hN : okN σ) {p : Int} : (¬ pkR σ 113 p = -1 ↔ (0 ≤ p ∧ p % 10 < σ 113 0 ∧ p / 10 < σ 113 1)) ∧ (pkR σ 113 p = 1 ↔ ((0 ≤ p ∧ p % 10 < σ 113 0 ∧ p / 10 < σ 113 1) ∧ σ 113 (5 + p) = 0)) := by
  unfold pkR
  by_cases c : 0 ≤ p ∧ p % 10 < σ 113 0 ∧ p / 10 < σ 113 1
  · rw [if_pos c]
    by_cases d : σ 113 (5 + p) = 0
    · rw [if_pos d]; exact ⟨⟨fun _ => c, fun _ => by omega⟩, ⟨fun _ => ⟨c, d⟩, fun _ => rfl⟩⟩
    · rw [if_neg d]; exact ⟨⟨fun _ => c, fun _ => by omega⟩, ⟨fun z => by omega, fun z => absurd z.2 d⟩⟩
  · rw [if_neg c]; exact ⟨⟨fun z => absurd rfl z, fun z => absurd z c⟩, ⟨fun z => by omega, fun z => absurd z.1 c⟩⟩
theorem gte_c {P Q : Prop} {a b c : Int} (h : P ↔ Q) (e : Q → a = b) : gte P a c = gte Q b c := by
  by_cases q : Q
  · rw [gte_t (h.mpr q), gte_t q, e q]
  · rw [gte_f (fun z => q (h.mp z)), gte_f q]
/-! ===== those that only look ===== -/
theorem ag_fault {σ : jS} (h : Inv σ) : Ag 1 1 miX12_fault miX13_fault [] σ := Ag_p h c_X12_fault c_X13_fault h.2.1.1.symm
theorem ag_why {σ : jS} (h : Inv σ) : Ag 1 1 miX12_why miX13_why [] σ := Ag_p h c_X12_why c_X13_why h.2.1.2.symm
theorem ag_peg {σ : jS} (h : Inv σ) {p : Int} (hp : iR p) : Ag 3 3 miX12_peg miX13_peg [vI p] σ := by
  obtain ⟨k1, k2, k3, k4, k5, k6, k7, k8⟩ := Inv_k h
  exact Ag_p h (c_X12_peg k1 hp) (c_X13_peg k4 hp) (by rw [k7])
theorem ag_corner {σ : jS} (h : Inv σ) {b i : Int} (hb : iR b) (hi : iR i) : Ag 3 4 miX12_corner miX13_corner [vI b, vI i] σ := by
  obtain ⟨k1, k2, k3, k4, k5, k6, k7, k8⟩ := Inv_k h
  refine Ag_p h (c_X12_corner k2 k3 hb hi) (c_X13_corner k4 hb hi) ?_
  rw [k5]
  by_cases c : 0 ≤ b ∧ b < σ 113 4
  · rw [(k6 b c.1 c.2).1, (k6 b c.1 c.2).2]
  · rw [gte_f (fun z => c z.1), gte_f (fun z => c z.1)]
theorem ag_side {σ : jS} (h : Inv σ) {b i : Int} (hb : iR b) (hi : iR i) : Ag 3 4 miX12_side miX13_side [vI b, vI i] σ := by
  obtain ⟨k1, k2, k3, k4, k5, k6, k7, k8⟩ := Inv_k h
  refine Ag_p h (c_X12_side k2 k3 hb hi) (c_X13_side k4 hb hi) ?_
  rw [k5]
  by_cases c : 0 ≤ b ∧ b < σ 113 4
  · rw [(k6 b c.1 c.2).1, (k6 b c.1 c.2).2]
  · rw [gte_f (fun z => c z.1), gte_f (fun z => c z.1)]
theorem ag_over {σ : jS} (h : Inv σ) {p w : Int} (hp : iR p) (hw : iR w) : Ag 5 6 miX12_over miX13_over [vI p, vI w] σ := by
  obtain ⟨k1, k2, k3, k4, k5, k6, k7, k8⟩ := Inv_k h
  refine Ag_p h (c_X12_over k2 k3 k1 hp hw) (c_X13_over k4 hp hw) ?_
  rw [k7]
  refine gte_c (by rw [(pk_01 k4).1]) (fun _ => ?_)
  rw [k5]
  have m := k4.1.2.2.2.2.1
  refine ovF_c _ (fun b b0 b1 => ?_)
  rw [(k6 b b0 (by omega)).1, (k6 b b0 (by omega)).2, wth_1, p10]
theorem ag_cross {σ : jS} (h : Inv σ) {a b w : Int} (ha : iR a) (hb : iR b) (hw : iR w) : Ag 4 7 miX12_cross miX13_cross [vI a, vI b, vI w] σ := by
  obtain ⟨k1, k2, k3, k4, k5, k6, k7, k8⟩ := Inv_k h
  refine Ag_p h (c_X12_cross k2 k3 ha hb hw) (c_X13_cross k4 ha hb hw) ?_
  rw [k5]
  refine gte_c Iff.rfl (fun c => ?_)
  rw [(k6 a c.1.1 c.1.2).1, (k6 a c.1.1 c.1.2).2, (k6 b c.2.1.1 c.2.1.2).1, (k6 b c.2.1.1 c.2.1.2).2]
theorem ag_wide {σ : jS} (h : Inv σ) {b : Int} (hb : iR b) : Ag 4 4 miX12_wide miX13_wide [vI b] σ := by
  obtain ⟨k1, k2, k3, k4, k5, k6, k7, k8⟩ := Inv_k h
  refine Ag_p h (c_X12_wide k2 k3 hb) (c_X13_wide k4 hb) ?_
  rw [k5]
  refine gte_c Iff.rfl (fun c => ?_)
  rw [(k6 b c.1 c.2).1, (k6 b c.1 c.2).2]
theorem ag_free {σ : jS} (h : Inv σ) : Ag 6 7 miX12_free miX13_free [] σ := by
  obtain ⟨k1, k2, k3, k4, k5, k6, k7, k8⟩ := Inv_k h
  refine Ag_p h (c_X12_free k2 k3 k1) (c_X13_free k4) ?_
  unfold freeR
  refine smI_congr (fun p p0 p1 => bI_iff ?_)
  rw [k7, (pk_01 k4).2, k5, show 5 + 10 * (p / 10) + p % 10 = 5 + p by omega]
  constructor
  · rintro ⟨a, b⟩
    refine ⟨⟨by omega, a.2⟩, fun c c0 c1 z => b ⟨c, c0, c1, by omega, ?_⟩⟩
    rw [(k6 c c0 c1).1, (k6 c c0 c1).2]; exact hld_1.mp z
  · rintro ⟨a, b⟩
    refine ⟨⟨by omega, a.2⟩, fun ⟨c, c0, c1, _, z⟩ => b c c0 c1 ?_⟩
    rw [(k6 c c0 c1).1, (k6 c c0 c1).2] at z; exact hld_1.mpr z
theorem ag_count {σ : jS} (h : Inv σ) {w : Int} (hw : iR w) : Ag 1 2 miX12_count miX13_count [vI w] σ := by
  obtain ⟨k1, k2, k3, k4, k5, k6, k7, k8⟩ := Inv_k h
  have t := h.2.2.1
  refine Ag_p h (c_X12_count k1 hw) (c_X13_count hw) ?_
  rw [k5, k8.1, k8.2.1, k8.2.2.1, k8.2.2.2, h.1.2.1, t.2.2.1.1, t.2.2.2.1.1]
theorem ag_formAt {σ : jS} (h : Inv σ) {i : Int} (hi : iR i) : Ag 1 1 miX12_formAt miX13_formAt [vI i] σ := by
  have f := h.2.2.2.2.2.1
  refine Ag_p h (c_X12_formAt hi f.1) (c_X13_formAt hi (by rw [f.2.1]; exact f.1)) ?_
  rw [f.2.1]
  by_cases c : 0 ≤ i ∧ i < σ 9 1
  · rw [if_pos c, if_pos c, f.2.2 i c.1 c.2]
  · rw [if_neg c, if_neg c]
theorem ag_byteAt {σ : jS} (h : Inv σ) {i : Int} (hi : iR i) : Ag 2 1 miX12_byteAt miX13_byteAt [vI i] σ := by
  obtain ⟨L, t1, t2, t3, t4⟩ := h.2.2.2.2.2.2.1
  have e4 : nBytes 4 = 79 := by decide
  have u1 := t1.1
  have u2 := t2.1
  refine Ag_p h (c_X12_byteAt (by unfold okY; rw [e4]; omega) hi) (c_X13_byteAt hi (by omega)) ?_
  rw [show σ 111 36 = σ 4 1 by omega]
  by_cases c : 0 ≤ i ∧ i < σ 4 1
  · rw [if_pos c, if_pos c]
    have x1 := LI_at (f := σ 5) t1 c.1 c.2
    have x2 := LI_at (f := σ 130) t2 c.1 (by omega)
    have y := t4 (L.getD i.toNat 0) (by rw [gDe (by omega)]; exact List.getElem_mem _)
    rw [x1, x2]
    omega
  · rw [if_neg c, if_neg c]
theorem ag_closes {σ : jS} (h : Inv σ) : Ag 3 3 miX12_closes miX13_closes [] σ := by
  obtain ⟨c1, c2, c3⟩ := h.2.2.1.2.2.1
  have c1' : σ 113 242 = σ 34 0 := c1
  have n8 := c2.1
  rcases c3 with c3 | c3
  · obtain ⟨z1, z2⟩ := c3
    have z1' : σ 34 0 = 0 := z1
    refine Ag_p h (c_X12_closes (by omega) (fun i i0 i1 => by omega)) (c_X13_closes c2 (by omega)) ?_
    rw [gte_t z1', gte_t z2]
  · obtain ⟨⟨z1, z2⟩, z3, z4, z5⟩ := c3
    have z1' : 3 ≤ σ 34 0 := z1
    have y : ∀ i, 0 ≤ i → i < σ 34 0 → σ 35 i = σ 113 (245 + 2 * i) ∧ σ 36 i = σ 113 (246 + 2 * i) := z5
    refine Ag_p h (c_X12_closes (by omega) (fun i i0 i1 => by rw [(y i i0 i1).1, (y i i0 i1).2]; exact c2.2.2.2 i i0 (by omega))) (c_X13_closes c2 (by omega)) ?_
    rw [gte_f (by omega), gte_f (by omega), c1']
    rw [smI_congr (f := σ 35) (g := fun i => σ 113 (245 + 2 * i + 0)) (fun i i0 i1 => by rw [(y i i0 i1).1, Int.add_zero])]
    rw [smI_congr (f := σ 36) (g := fun i => σ 113 (245 + 2 * i + 1)) (fun i i0 i1 => by rw [(y i i0 i1).2, show 245 + 2 * i + 1 = 246 + 2 * i by omega])]
