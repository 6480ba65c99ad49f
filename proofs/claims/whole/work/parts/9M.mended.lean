/-! ===== mended ===== -/
theorem cnt_mo {Q : Int → Prop} {a : Int} (a0 : 0 ≤ a) : ∀ d : Nat, smI (fun q => bI (Q q)) a ≤ smI (fun q => bI (Q q)) (a + d)
  | 0 => by rw [show a + ((0 : Nat) : Int) = a by omega]; exact Int.le_refl _
  | d + 1 => by
    have h := cnt_mo (Q := Q) a0 d
    have e := smI_s (fun q => bI (Q q)) (i := a + d) (by omega)
    have b : 0 ≤ bI (Q (a + d)) := (bI_b _).1
    rw [show a + ((d + 1 : Nat) : Int) = a + d + 1 by omega, e]
    exact Int.le_trans h (by show _ ≤ smI (fun q => bI (Q q)) (a + d) + bI (Q (a + d)); omega)
theorem cnt_lt {Q : Int → Prop} {a b : Int} (a0 : 0 ≤ a) (h : a < b) (q : Q a) : smI (fun q => bI (Q q)) a < smI (fun q => bI (Q q)) b := by
  have e := smI_s (fun q => bI (Q q)) (i := a) a0
  have m := cnt_mo (Q := Q) (a := a + 1) (by omega) (b - (a + 1)).toNat
  rw [show a + 1 + ((b - (a + 1)).toNat : Int) = b by omega, e] at m
  have t : bI (Q a) = 1 := bI_t q
  have m' : smI (fun q => bI (Q q)) a + bI (Q a) ≤ smI (fun q => bI (Q q)) b := m
  omega
theorem nthV_u {Q R : Int → Prop} {n k v w : Int} (e : ∀ i, 0 ≤ i → i < n → (Q i ↔ R i)) (h : nthV Q n k v) (g : nthV R n k w) : v = w := by
  have es : ∀ i, i ≤ n → smI (fun q => bI (R q)) i = smI (fun q => bI (Q q)) i := fun i hi => smI_congr (fun q q0 q1 => bI_iff (e q q0 (by omega)).symm)
  rcases h with ⟨i, i0, i1, i2, i3⟩ | ⟨h1, h2⟩
  · rcases g with ⟨j, j0, j1, j2, j3⟩ | ⟨g1, g2⟩
    · rw [i3, j3]
      rw [es j (by omega)] at j2
      have qj := (e j j0.1 j0.2).mpr j1
      rcases (show i < j ∨ i = j ∨ j < i by omega) with u | u | u
      · have := cnt_lt i0.1 u i1; omega
      · exact u
      · have := cnt_lt j0.1 u qj; omega
    · exact absurd (by rw [es i (by omega)]; exact i2) (g1 i i0.1 i0.2 ((e i i0.1 i0.2).mp i1))
  · rcases g with ⟨j, j0, j1, j2, j3⟩ | ⟨g1, g2⟩
    · exact absurd (by rw [es j (by omega)] at j2; exact j2) (h1 j j0.1 j0.2 ((e j j0.1 j0.2).mpr j1))
    · rw [h2, g2, es n (Int.le_refl _)]
/-- a step mended is no longer than the board -/
theorem mend_9 {f : Int → Int} {i n x w : Int} (i0 : 0 ≤ i) (i1 : i < n) (w10 : w ≤ 10) (h : ∀ c, 0 ≤ c → c < n → 0 ≤ x + wkS f i (wkZ f i n) c ∧ x + wkS f i (wkZ f i n) c < w) : -9 ≤ wkZ f i n ∧ wkZ f i n ≤ 9 := by
  have a := h i i0 i1
  by_cases c : i + 1 < n
  · have b := h (i + 1) (by omega) c
    rw [wkS_s i0, if_pos rfl] at b
    omega
  · have en : n = i + 1 := by omega
    have o := h 0 (by omega) (by omega)
    rw [wkS_0] at o
    have ez : wkZ f i n = f i - smI f n := wkZ_i i0
    have es : smI f n = smI f i + f i := by rw [en]; exact smI_s f i0
    have ew : wkS f i (wkZ f i n) i = smI f i := by
      unfold wkS
      refine smI_congr (fun q q0 q1 => ?_)
      rw [if_neg (by omega)]
    rw [ew] at a
    omega
theorem ag_mended {σ : jS} (h : Inv σ) {k : Int} (hk : iR k) : Ag 5 8 miX12_mended miX13_mended [vI k] σ := by
  obtain ⟨k1, k2, k3, k4, k5, k6, k7, k8⟩ := Inv_k h
  obtain ⟨l1, l2, l3, l4, l5, l6, l7, l8, l9⟩ := cl_k h
  have h01 := h.2.2.1.1.1.1
  have cl := h.2.2.1.2.2.1
  refine (c_X12_mended l1 l2 l3 k1 l4 hk).mono (fun r τ q => ?_)
  obtain ⟨s6, q1, q2⟩ := q
  have hτ : Inv τ := Inv_a h (same_agr s6 (by decide))
  have e113 : τ 113 = σ 113 := s6 113 (by decide)
  have md := c_X13_mended (σ := τ) (okN_c k4 e113) (by rw [e113]; exact l5) (by rw [e113]; exact l6) (by rw [e113]; exact l7) hk
  have fin : ∀ ω, mdT [0] [114] τ ω → Inv ω := fun ω g => Inv_a hτ (mdT_agr g (by decide) (by decide))
  by_cases z : σ 34 0 = 0
  · refine ⟨_, q1 (Or.inl z), md.mono (fun r' ω w => ?_)⟩
    exact ⟨w.2.1 (Or.inl (by rw [e113]; exact l8.mp z)), fin ω w.1.1⟩
  have zr : ¬ σ 113 241 = 0 := fun g => z (l8.mpr g)
  have sm := sm_call h z
  by_cases y : smI (σ 35) (σ 34 0) = 0 ∧ smI (σ 36) (σ 34 0) = 0
  · refine ⟨_, q1 (Or.inr y), md.mono (fun r' ω w => ?_)⟩
    refine ⟨w.2.1 (Or.inr ?_), fin ω w.1.1⟩
    rw [e113, ← sm.1, ← sm.2]; exact y
  · obtain ⟨v, x1, x2⟩ := q2 (fun g => g.elim z y)
    refine ⟨v, x1, md.mono (fun r' ω w => ?_)⟩
    have w3 := w.2.2
    unfold lyR pkR at w3
    rw [e113] at w3
    obtain ⟨v', y1, y2⟩ := w3 (by rw [← sm.1, ← sm.2]; exact fun g => g.elim zr y)
    refine ⟨?_, fin ω w.1.1⟩
    rw [y1, l9] at *
    refine congrArg (fun t : Int => some (vI t)) (nthV_u (fun i i0 i1 => ?_) x2 y2).symm
    obtain ⟨c1, c2, c3⟩ := cl
    rcases c3 with g | g
    · exact absurd g.1 z
    obtain ⟨_, d1, d2, d3⟩ := g
    have d1 : σ 34 1 = σ 113 243 := d1
    have d2 : σ 34 2 = σ 113 244 := d2
    have ex : wkZ (σ 35) i (σ 34 0) = σ 113 (245 + 2 * i) - smI (fun q => σ 113 (245 + 2 * q + 0)) (σ 34 0) := by
      have := sm.1; rw [l9] at this
      rw [wkZ_i i0, this, show σ 35 i = σ 113 (245 + 2 * i) from (d3 i i0 i1).1]
    have ey : wkZ (σ 36) i (σ 34 0) = σ 113 (246 + 2 * i) - smI (fun q => σ 113 (245 + 2 * q + 1)) (σ 34 0) := by
      have := sm.2; rw [l9] at this
      rw [wkZ_i i0, this, show σ 36 i = σ 113 (246 + 2 * i) from (d3 i i0 i1).2]
    have eP : (fun c => lyP σ i (c % σ 34 0)) = fun c => lyR σ i (wkZ (σ 35) i (σ 34 0)) (wkZ (σ 36) i (σ 34 0)) (c % σ 34 0) := by
      funext c
      exact ly_eq h z (Int.le_of_lt (Int.emod_lt_of_pos _ (by omega))) rfl rfl
    have key : wrA (σ 34 0) (fun c => lyP σ i (c % σ 34 0)) (pkC σ 28) = 0 → (-9 ≤ wkZ (σ 35) i (σ 34 0) ∧ wkZ (σ 35) i (σ 34 0) ≤ 9) ∧ (-9 ≤ wkZ (σ 36) i (σ 34 0) ∧ wkZ (σ 36) i (σ 34 0) ≤ 9) := fun wa => by
      have inb : ∀ c, 0 ≤ c → c < σ 34 0 → 0 ≤ σ 34 1 + wkS (σ 35) i (wkZ (σ 35) i (σ 34 0)) c ∧ 0 ≤ σ 34 2 + wkS (σ 36) i (wkZ (σ 36) i (σ 34 0)) c ∧ σ 34 1 + wkS (σ 35) i (wkZ (σ 35) i (σ 34 0)) c < σ 28 0 ∧ σ 34 2 + wkS (σ 36) i (wkZ (σ 36) i (σ 34 0)) c < σ 28 1 := fun c a0 a1 => by
        have e := (wrA0 wa).1
        have m : c % σ 34 0 = c := Int.emod_eq_of_lt a0 a1
        have p1 : pkC σ 28 (lyP σ i c) = 1 := Classical.byContradiction fun g => e ⟨c, ⟨a0, a1⟩, by show ¬ pkC σ 28 (lyP σ i (c % σ 34 0)) = 1; rw [m]; exact g⟩
        refine Classical.byContradiction fun g => ?_
        unfold lyP plG at p1
        rw [if_neg g, k7] at p1
        unfold pkR at p1
        rw [if_neg (by omega)] at p1
        omega
      have b0 := k8.1
      have b1 := k8.2.1
      exact ⟨mend_9 (x := σ 34 1) (w := σ 28 0) i0 i1 (by omega) (fun c a0 a1 => ⟨(inb c a0 a1).1, (inb c a0 a1).2.2.1⟩), mend_9 (x := σ 34 2) (w := σ 28 1) i0 i1 (by omega) (fun c a0 a1 => ⟨(inb c a0 a1).2.1, (inb c a0 a1).2.2.2⟩)⟩
    rw [← ex, ← ey]
    constructor
    · intro wa
      have kk := key wa
      refine ⟨kk.1, kk.2, ?_⟩
      rw [eP, k7] at wa; exact wa
    · rintro ⟨_, _, wa⟩
      rw [eP, k7]; exact wa
