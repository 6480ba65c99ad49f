/-! ===== write ===== -/
theorem sm_rev (f : Int → Int) : ∀ n : Nat, sm (fun i => f ((n : Int) - 1 - i)) n = sm f n := by
  have sh1 : ∀ (g : Int → Int) (n : Nat), sm g (n + 1) = g 0 + sm (fun i => g (i + 1)) n := by
    intro g n
    induction n with
    | zero => show sm g 0 + g ((0 : Nat) : Int) = g 0 + 0; show 0 + g 0 = g 0 + 0; omega
    | succ n ih =>
      show sm g (n + 1) + g ((n + 1 : Nat) : Int) = g 0 + (sm (fun i => g (i + 1)) n + g ((n : Int) + 1))
      rw [ih, show ((n + 1 : Nat) : Int) = (n : Int) + 1 by omega]
      omega
  intro n
  induction n with
  | zero => rfl
  | succ n ih =>
    rw [sh1]
    show f (((n + 1 : Nat) : Int) - 1 - 0) + _ = sm f n + f n
    rw [show ((n + 1 : Nat) : Int) - 1 - 0 = n by omega]
    have e : sm (fun i => f (((n + 1 : Nat) : Int) - 1 - (i + 1))) n = sm (fun i => f ((n : Int) - 1 - i)) n := sm_congr n (fun i _ _ => by rw [show ((n + 1 : Nat) : Int) - 1 - (i + 1) = (n : Int) - 1 - i by omega])
    rw [e, ih]
    omega
theorem smI_rev (f : Int → Int) {n : Int} (hn : 0 ≤ n) : smI (fun i => f (n - 1 - i)) n = smI f n := by
  obtain ⟨k, rfl⟩ := Int.eq_ofNat_of_zero_le hn
  exact sm_rev f k
theorem sm_add (f g : Int → Int) : ∀ n : Nat, sm (fun i => f i + g i) n = sm f n + sm g n
  | 0 => rfl
  | n + 1 => by
    show sm (fun i => f i + g i) n + (f n + g n) = sm f n + f n + (sm g n + g n)
    rw [sm_add f g n]; omega
theorem sgn_bI (d : Int) : bI (0 < d) = bI (d < 0) + sgn d := by
  unfold sgn
  rcases Int.lt_trichotomy d 0 with c | c | c
  · rw [bI_f (by omega), bI_t c, if_neg (by omega), if_pos c]; rfl
  · rw [bI_f (by omega), bI_f (by omega), if_neg (by omega), if_neg (by omega)]; rfl
  · rw [bI_t c, bI_f (by omega), if_pos c]; rfl
theorem sg_eq {P : Int → Int} {n : Int} (hn : 0 ≤ n) : sgX (tkX P n 1) (tkY P n 1) n = sgX (tkX P n 0) (tkY P n 0) n + sgW P n := by
  unfold sgX sgW
  have e : smI (fun i => bI (tkX P n 1 i < 0) + bI (tkY P n 1 i < 0)) n = smI (fun i => (fun j => bI (0 < P (j + 1) % 10 - P j % 10) + bI (0 < P (j + 1) / 10 - P j / 10)) (n - 1 - i)) n := by
    refine smI_congr (fun i i0 i1 => ?_)
    have x : tkX P n 1 i = -(P (n - 1 - i + 1) % 10 - P (n - 1 - i) % 10) := by
      unfold tkX tkF
      rw [if_neg (by decide), show n - 1 - i + 1 = n - i by omega, show n - 1 - i = n - i - 1 by omega]; dsimp only; omega
    have y : tkY P n 1 i = -(P (n - 1 - i + 1) / 10 - P (n - 1 - i) / 10) := by
      unfold tkY tkF
      rw [if_neg (by decide), show n - 1 - i + 1 = n - i by omega, show n - 1 - i = n - i - 1 by omega]; dsimp only; omega
    rw [x, y]
    dsimp only
    rw [bI_iff (show -(P (n - 1 - i + 1) % 10 - P (n - 1 - i) % 10) < 0 ↔ 0 < P (n - 1 - i + 1) % 10 - P (n - 1 - i) % 10 by omega), bI_iff (show -(P (n - 1 - i + 1) / 10 - P (n - 1 - i) / 10) < 0 ↔ 0 < P (n - 1 - i + 1) / 10 - P (n - 1 - i) / 10 by omega)]
  rw [e, smI_rev (fun j => bI (0 < P (j + 1) % 10 - P j % 10) + bI (0 < P (j + 1) / 10 - P j / 10)) hn]
  unfold smI
  rw [← sm_add]
  refine sm_congr _ (fun i _ _ => ?_)
  rw [sgn_bI, sgn_bI]
  show _ = bI (tkX P n 0 i < 0) + bI (tkY P n 0 i < 0) + _
  unfold tkX tkY tkF
  rw [if_pos rfl, if_pos rfl]
  dsimp only
  omega
abbrev ch7 (L : List Int) : Prop := ∀ x ∈ L, 0 ≤ x ∧ x < 128
theorem ch7_a {L M : List Int} (h : ch7 L) (g : ch7 M) : ch7 (L ++ M) := fun x hx => by
  rw [List.mem_append] at hx
  rcases hx with hx | hx
  · exact h x hx
  · exact g x hx
theorem nuT_7 {v : Int} (h : -9 ≤ v ∧ v ≤ 9) : ch7 (nuT v) := by
  unfold nuT
  refine ch7_a (ch7_a (by decide) ?_) (fun x hx => ?_)
  · split
    · decide
    · intro x hx; simp at hx
  · simp at hx
    omega
theorem byT_7 {f g : Int → Int} (h : ∀ i, 0 ≤ i → (-9 ≤ f i ∧ f i ≤ 9) ∧ (-9 ≤ g i ∧ g i ≤ 9)) : ∀ k : Nat, ch7 (byT f g k)
  | 0 => by intro x hx; simp [byT] at hx
  | k + 1 => by
    rw [byT]
    exact ch7_a (byT_7 h k) (ch7_a (ch7_a (ch7_a (by decide) (nuT_7 (h k (by omega)).1)) (nuT_7 (h k (by omega)).2)) (by decide))
theorem ag_write {σ : jS} (h : Inv σ) {b : Int} (hb : iR b) : Ag 4 4 miX12_write miX13_write [vI b] σ := by
  obtain ⟨k1, k2, k3, k4, k5, k6, k7, k8⟩ := Inv_k h
  obtain ⟨i1, i2, i3, i4, i5, i6, i7, i8⟩ := h
  have hI : Inv σ := ⟨i1, i2, i3, i4, i5, i6, i7, i8⟩
  refine (c_X12_write k2 k3 hb).mono (fun r τ q => ?_)
  by_cases c : 0 ≤ b ∧ b < σ 113 4
  · obtain ⟨x1, x2, x3⟩ := q.2 (by rw [k5]; exact c)
    have e : τ 113 = σ 113 := x1 113 (by decide)
    have eN : okN τ := okN_c k4 e
    have en := (k6 b c.1 c.2).1
    have ep := (k6 b c.1 c.2).2
    have v := k4.2 b c.1 c.2
    have v1 := v.1
    rw [en, ep, sg_eq (by omega)] at x3
    refine ⟨_, x2, (c_X13_write eN hb).mono (fun r' ρ z => ?_)⟩
    obtain ⟨⟨ρ0, y0, y1⟩, y2, y3⟩ := z.2 (by rw [e]; exact c)
    rw [cn_c e, rP_c2 e] at y3
    have p := rP_p v
    have ez : (if sgX (tkX (rP σ 113 b) (cn σ 113 b) 0) (tkY (rP σ 113 b) (cn σ 113 b) 0) (cn σ 113 b) ≤ sgX (tkX (rP σ 113 b) (cn σ 113 b) 0) (tkY (rP σ 113 b) (cn σ 113 b) 0) (cn σ 113 b) + sgW (rP σ 113 b) (cn σ 113 b) then (0 : Int) else 1) = if 0 ≤ sgW (rP σ 113 b) (cn σ 113 b) then 0 else 1 := by
      by_cases w : 0 ≤ sgW (rP σ 113 b) (cn σ 113 b)
      · rw [if_pos w, if_pos (by omega)]
      · rw [if_neg w, if_neg (by omega)]
    rw [ez] at x3
    generalize hz : (if 0 ≤ sgW (rP σ 113 b) (cn σ 113 b) then (0 : Int) else 1) = zz at x3 y3
    have el : ρ 111 36 = τ 4 1 := by rw [y3.1, x3.1]
    have k : ∀ c, ¬ c = 4 → ¬ c = 5 → ¬ c = 47 → ¬ c = 48 → ¬ c = 49 → ¬ c = 111 → ¬ c = 130 → ρ c = σ c := fun c c4 c5 c47 c48 c49 c1 c3 => by rw [y1.1 c c1 (by simp; omega), y0, ju_off _ _ _ _ _ c1, x1 c (by simp; omega)]
    have m : ∀ j, ¬ j = 0 → ¬ j = 36 → ρ 111 j = σ 111 j := fun j j0 j3 => by rw [y1.2 j (by simp; omega), y0, ju_ne (by omega), x1 111 (by decide)]
    have kk : ∀ c, ((0 ≤ c ∧ c ≤ 3 ∧ ¬ c = 1) ∨ (7 ≤ c ∧ c ≤ 10) ∨ (27 ≤ c ∧ c ≤ 39) ∨ (41 ≤ c ∧ c ≤ 46) ∨ (53 ≤ c ∧ c ≤ 110) ∨ c = 112 ∨ c = 113 ∨ (116 ≤ c ∧ c ≤ 124) ∨ c = 129) → ρ c = σ c := fun c hc => k c (by omega) (by omega) (by omega) (by omega) (by omega) (by omega) (by omega)
    refine ⟨by rw [y2, el], tpR_c i1 (by rw [kk 2 (by omega)]) (kk 3 (by omega)) (kk 112 (by omega)) (m 2 (by decide) (by decide)), fwR_c i2 (by rw [kk 0 (by omega)]) (by rw [kk 0 (by omega)]) (m 10 (by decide) (by decide)) (m 12 (by decide) (by decide)), ?_, imR_c i4 (kk 7 (by omega)) (fun c a b => kk c (by omega)) (kk _ (by omega)) (kk _ (by omega)) (kk _ (by omega)) (kk _ (by omega)), paR_c i5 (by rw [kk 0 (by omega)]) (kk _ (by omega)) (fun c a b => kk c (by omega)) (kk _ (by omega)) (kk _ (by omega)) (fun j _ _ _ => by rw [kk 113 (by omega)]) (kk _ (by omega)) (kk _ (by omega)) (m 27 (by decide) (by decide)), foR_c i6 (by rw [kk 9 (by omega)]) (kk _ (by omega)) (kk _ (by omega)) (m 33 (by decide) (by decide)), ⟨_, ?_, y3, ?_, ?_⟩, drR_c i8 (fun c a b => kk c (by omega)) (kk _ (by omega))⟩
    · rw [kk 113 (by omega), kk 118 (by omega), kk 121 (by omega)]
      exact tbR_t i3 (fun c a b => kk c (by omega))
    · rw [y1.1 5 (by decide) (by decide), y1.1 4 (by decide) (by decide), y0, ju_off _ _ _ _ _ (by decide), ju_off _ _ _ _ _ (by decide)]
      exact x3
    · have a := byT_l (tkX (rP σ 113 b) (cn σ 113 b) zz) (tkY (rP σ 113 b) (cn σ 113 b) zz) (cn σ 113 b).toNat
      have a2 := atT_l (x := rP σ 113 b 0 % 10) (y := rP σ 113 b 0 / 10) (by omega) (by have := p 0; omega)
      rw [List.length_append]
      omega
    · refine ch7_a ?_ (byT_7 (fun i i0 => ?_) _)
      · unfold atT
        exact ch7_a (ch7_a (ch7_a (by decide) (nuT_7 (by omega))) (nuT_7 (by have := p 0; omega))) (by decide)
      · have q1 := p (i + 1)
        have q2 := p i
        have q3 := p (cn σ 113 b - i - 1)
        have q4 := p (cn σ 113 b - i)
        unfold tkX tkY tkF
        dsimp only
        split <;> omega
  · obtain ⟨x1, x2⟩ := q.1 (by rw [k5]; exact c)
    subst x2
    refine ⟨_, x1, (c_X13_write k4 hb).mono (fun r' ρ z => ?_)⟩
    obtain ⟨y1, y2⟩ := z.1 c
    exact ⟨y1, by rw [y2]; exact Inv_a hI (agr_ju _ 0)⟩
/-! ===== triangles ===== -/
theorem gd_par (x y : Int) : gd x y % 2 = (x + y + x * y) % 2 := by
  have hx := gd_dl x y
  have hy := gd_dr x y
  have mm : (x * y) % 2 = ((x % 2) * (y % 2)) % 2 := Int.mul_emod x y 2
  by_cases c : x % 2 = 0 ∧ y % 2 = 0
  · have d : (2 : Int) ∣ gd x y := by
      unfold gd
      exact Int.dvd_coe_gcd (Int.dvd_of_emod_eq_zero c.1) (Int.dvd_of_emod_eq_zero c.2)
    have e := Int.emod_eq_zero_of_dvd d
    rw [c.1, Int.zero_mul] at mm
    omega
  · have d : ¬ gd x y % 2 = 0 := fun z => c ⟨Int.emod_eq_zero_of_dvd (Int.dvd_trans (Int.dvd_of_emod_eq_zero z) hx), Int.emod_eq_zero_of_dvd (Int.dvd_trans (Int.dvd_of_emod_eq_zero z) hy)⟩
    have a1 : x % 2 = 0 ∨ x % 2 = 1 := by omega
    have a2 : y % 2 = 0 ∨ y % 2 = 1 := by omega
    rcases a1 with a1 | a1 <;> rcases a2 with a2 | a2 <;> rw [a1, a2] at mm <;> simp at mm <;> omega
/-- Pick: what is on the rim is as even or odd as the area -/
theorem pts_par (a b c : Int) : (pts a b + pts b c + pts c a - tn a b c) % 2 = 0 := by
  unfold pts
  have h1 := gd_par (a % 10 - b % 10) (a / 10 - b / 10)
  have h2 := gd_par (b % 10 - c % 10) (b / 10 - c / 10)
  have h3 := gd_par (c % 10 - a % 10) (c / 10 - a / 10)
  have e : tn a b c = (a % 10 - b % 10) * (b / 10 - c / 10) - (a / 10 - b / 10) * (b % 10 - c % 10) := by unfold tn crs; grind
  have e3 : (c % 10 - a % 10) * (c / 10 - a / 10) = (a % 10 - b % 10) * (a / 10 - b / 10) + (b % 10 - c % 10) * (b / 10 - c / 10) + (a % 10 - b % 10) * (b / 10 - c / 10) + (a / 10 - b / 10) * (b % 10 - c % 10) := by grind
  rw [e3] at h3
  rw [e]
  omega
theorem mulw {x W k : Int} (hx : 0 ≤ x ∧ x ≤ W) : (0 ≤ k → 0 ≤ x * k ∧ x * k ≤ W * k) ∧ (k ≤ 0 → W * k ≤ x * k ∧ x * k ≤ 0) := by
  constructor
  · intro hk
    exact ⟨Int.mul_nonneg hx.1 hk, Int.mul_le_mul_of_nonneg_right hx.2 hk⟩
  · intro hk
    have a := Int.mul_nonneg hx.1 (show 0 ≤ -k by omega)
    have b := Int.mul_le_mul_of_nonneg_right hx.2 (show 0 ≤ -k by omega)
    rw [Int.mul_neg] at a
    rw [Int.mul_neg, Int.mul_neg] at b
    omega
/-- a triangle has no more than its board -/
theorem tn_box {W H a b c : Int} (ha : (0 ≤ a % 10 ∧ a % 10 ≤ W) ∧ (0 ≤ a / 10 ∧ a / 10 ≤ H)) (hb : (0 ≤ b % 10 ∧ b % 10 ≤ W) ∧ (0 ≤ b / 10 ∧ b / 10 ≤ H)) (hc : (0 ≤ c % 10 ∧ c % 10 ≤ W) ∧ (0 ≤ c / 10 ∧ c / 10 ≤ H)) : -(W * H) ≤ tn a b c ∧ tn a b c ≤ W * H := by
  have e : tn a b c = (a % 10) * (b / 10 - c / 10) + (b % 10) * (c / 10 - a / 10) + (c % 10) * (a / 10 - b / 10) := by unfold tn crs; grind
  rw [e]
  obtain ⟨ha1, ha2⟩ := ha
  obtain ⟨hb1, hb2⟩ := hb
  obtain ⟨hc1, hc2⟩ := hc
  have A := mulw (k := b / 10 - c / 10) ha1
  have B := mulw (k := c / 10 - a / 10) hb1
  have C := mulw (k := a / 10 - b / 10) hc1
  have W0 : 0 ≤ W := by omega
  have X := Int.mul_le_mul_of_nonneg_left (show b / 10 - c / 10 ≤ H by omega) W0
  have X' := Int.mul_le_mul_of_nonneg_left (show -(b / 10 - c / 10) ≤ H by omega) W0
  have Y := Int.mul_le_mul_of_nonneg_left (show c / 10 - a / 10 ≤ H by omega) W0
  have Y' := Int.mul_le_mul_of_nonneg_left (show -(c / 10 - a / 10) ≤ H by omega) W0
  have Z := Int.mul_le_mul_of_nonneg_left (show a / 10 - b / 10 ≤ H by omega) W0
  have Z' := Int.mul_le_mul_of_nonneg_left (show -(a / 10 - b / 10) ≤ H by omega) W0
  rw [Int.mul_neg] at X' Y' Z'
  have s : W * (b / 10 - c / 10) + W * (c / 10 - a / 10) + W * (a / 10 - b / 10) = 0 := by grind
  generalize (a % 10) * (b / 10 - c / 10) = t1 at *
  generalize (b % 10) * (c / 10 - a / 10) = t2 at *
  generalize (c % 10) * (a / 10 - b / 10) = t3 at *
  generalize W * (b / 10 - c / 10) = u1 at *
  generalize W * (c / 10 - a / 10) = u2 at *
  generalize W * (a / 10 - b / 10) = u3 at *
  generalize W * H = wh at *
  rcases Int.le_total (c / 10) (b / 10) with o1 | o1 <;> rcases Int.le_total (a / 10) (c / 10) with o2 | o2 <;> rcases Int.le_total (b / 10) (a / 10) with o3 | o3
  all_goals
    first
    | (have a1 := A.1 (by omega); have b1 := B.1 (by omega); have c1 := C.1 (by omega); omega)
    | (have a1 := A.1 (by omega); have b1 := B.1 (by omega); have c1 := C.2 (by omega); omega)
    | (have a1 := A.1 (by omega); have b1 := B.2 (by omega); have c1 := C.1 (by omega); omega)
    | (have a1 := A.1 (by omega); have b1 := B.2 (by omega); have c1 := C.2 (by omega); omega)
    | (have a1 := A.2 (by omega); have b1 := B.1 (by omega); have c1 := C.1 (by omega); omega)
    | (have a1 := A.2 (by omega); have b1 := B.1 (by omega); have c1 := C.2 (by omega); omega)
    | (have a1 := A.2 (by omega); have b1 := B.2 (by omega); have c1 := C.1 (by omega); omega)
    | (have a1 := A.2 (by omega); have b1 := B.2 (by omega); have c1 := C.2 (by omega); omega)
theorem td2_e {x w : Int} (h : x % 2 = 0) : x.tdiv 2 = w ↔ x = 2 * w := by
  obtain ⟨y, rfl⟩ := Int.dvd_of_emod_eq_zero h
  rw [Int.mul_tdiv_cancel_left _ (by decide)]
  omega
theorem Q_eq {w h on wi a b c : Int} (hw : cB 999 wi) (ha : (0 ≤ a % 10 ∧ a % 10 ≤ w - 1) ∧ (0 ≤ a / 10 ∧ a / 10 ≤ h - 1)) (hb : (0 ≤ b % 10 ∧ b % 10 ≤ w - 1) ∧ (0 ≤ b / 10 ∧ b / 10 ≤ h - 1)) (hc : (0 ≤ c % 10 ∧ c % 10 ≤ w - 1) ∧ (0 ≤ c / 10 ∧ c / 10 ≤ h - 1)) : QC w h on wi a b c ↔ QR on wi a b c := by
  have p := pts_par a b c
  have x := tn_box ha hb hc
  have ev : (((tn a b c).natAbs : Int) - (pts a b + pts b c + pts c a) + 2) % 2 = 0 := by omega
  unfold QC QR
  rw [td2_e ev]
  generalize (w - 1) * (h - 1) = wh at *
  omega
theorem TL_in {pk : Int → Int} {Q : Int → Int → Int → Prop} {x : Int} (h : x ∈ TL pk Q) : 0 ≤ x := by
  have hf : ∀ (f : Int → List Int), (∀ i : Int, 0 ≤ i → i < 100 → ∀ x ∈ f i, 0 ≤ x) → ∀ n : Nat, n ≤ 100 → ∀ x ∈ flN f n, 0 ≤ x := by
    intro f h n
    induction n with
    | zero => intro _ x hx; simp [flN] at hx
    | succ n ih =>
      intro hn x hx
      rw [flN, List.mem_append] at hx
      rcases hx with hx | hx
      · exact ih (by omega) x hx
      · exact h n (by omega) (by omega) x hx
  have hl : ∀ (P : Prop) (L : List Int), (∀ x ∈ L, 0 ≤ x) → ∀ x ∈ lif P L, 0 ≤ x := by
    intro P L h x hx
    by_cases c : P
    · rw [lif_t c] at hx; exact h x hx
    · rw [lif_f c] at hx; simp at hx
  unfold TL fl at h
  refine hf _ (fun a a0 a1 => hl _ _ (hf _ (fun b b0 b1 => hl _ _ (hl _ _ (hf _ (fun c c0 c1 => hl _ _ (hl _ _ (fun x hx => ?_))) _ (Nat.le_refl _)))) _ (Nat.le_refl _))) _ (Nat.le_refl _) x h
  simp at hx
  unfold cd3 at hx
  omega
theorem pk_xy {σ : jS} (hN : okN σ) {p : Int} (h : pkR σ 113 p = 1) : (0 ≤ p % 10 ∧ p % 10 ≤ σ 113 0 - 1) ∧ (0 ≤ p / 10 ∧ p / 10 ≤ σ 113 1 - 1) := by
  have := ((pk_01 hN).2.mp h).1
  omega
theorem TL_eq {σ : jS} (h : Inv σ) {on wi : Int} (hw : cB 999 wi) : TL (pkC σ 28) (QC (σ 28 0) (σ 28 1) on wi) = TL (pkR σ 113) (QR on wi) := by
  obtain ⟨k1, k2, k3, k4, k5, k6, k7, k8⟩ := Inv_k h
  rw [k7, k8.1, k8.2.1]
  exact TL_c (fun a b c _ _ _ pa pb pc _ _ => Q_eq hw (pk_xy k4 pa) (pk_xy k4 pb) (pk_xy k4 pc))
theorem ag_triangles {σ : jS} (h : Inv σ) {on wi k : Int} (hon : iR on) (hwi : iR wi) (hk : iR k) : Ag 5 4 miX12_triangles miX13_triangles [vI on, vI wi, vI k] σ := by
  have k8 := (Inv_k h).2.2.2.2.2.2.2
  refine Ag_s h (X := [15, 16]) (by decide) ((c_X12_triangles (Inv_k h).1 hon hwi hk).mono (fun r τ q => ⟨q.2, q.1⟩)) (fun τ hτ s => ?_)
  refine (c_X13_triangles (Inv_k hτ).2.2.2.1 hon hwi hk).mono (fun r ρ z => ⟨mdT_agr z.2.1 (by decide) (by decide), ?_⟩)
  rw [z.1]
  have e : τ 113 = σ 113 := s 113 (by decide)
  refine congrArg (fun z => some (vI z)) ?_
  rw [e, pkR_e e]
  refine gte_c ?_ (fun c => by rw [TL_eq h (by omega)])
  rw [k8.1]
  exact ⟨fun z => ⟨z.1.1, z.1.2, z.2⟩, fun z => ⟨⟨z.1, z.2.1⟩, z.2.2⟩⟩
theorem AF_v {σ : jS} {on wi v : Int} (hon : cB 999 on) (hw : cB 999 wi) (hA : AFp (QR on wi) (TL (pkR σ 113) (QR on wi)) v) : v = if nthL (TL (pkR σ 113) (QR on wi)) 0 = -1 then -1 else 2 * wi + on - 2 := by
  rcases hA with ⟨a, b⟩ | ⟨a, x, y, z, hb, q, e⟩
  · rw [a, b]; rfl
  · have nn : ¬ nthL (TL (pkR σ 113) (QR on wi)) 0 = -1 := by
      have hx := fun x => TL_in (pk := pkR σ 113) (Q := QR on wi) (x := x)
      generalize TL (pkR σ 113) (QR on wi) = L at a hx
      cases L with
      | nil => exact absurd rfl a
      | cons w L =>
        have := hx w (List.mem_cons_self ..)
        show ¬ nthL (w :: L) 0 = -1
        unfold nthL
        rw [if_neg (by decide), if_pos ⟨by decide, by simp⟩]
        show ¬ w = -1
        omega
    rw [if_neg nn, e]
    have p := pts_par x y z
    obtain ⟨q1, q2, q3⟩ := q
    rw [td2_e (by omega)] at q3
    omega
theorem ag_smallest {σ : jS} (h : Inv σ) {on wi : Int} (hon : iR on) (hwi : iR wi) : Ag 5 4 miX12_smallest miX13_smallest [vI on, vI wi] σ := by
  obtain ⟨k1, k2, k3, k4, k5, k6, k7, k8⟩ := Inv_k h
  refine Ag_s h (X := [15, 16]) (by decide) ((c_X12_smallest k1 hon hwi).mono (fun r τ q => ⟨q.2, q.1⟩)) (fun τ hτ s => ?_)
  have e : τ 113 = σ 113 := s 113 (by decide)
  refine (c_X13_smallest (Inv_k hτ).2.2.2.1 hon hwi).mono (fun r ρ z => ?_)
  obtain ⟨⟨v, z1, z2, z3⟩, z4, z5⟩ := z
  refine ⟨mdT_agr z4 (by decide) (by decide), ?_⟩
  rw [z1]
  refine congrArg (fun z => some (vI z)) ?_
  rw [pkR_e e] at z2
  by_cases c : (0 ≤ on ∧ on ≤ 999) ∧ (0 ≤ wi ∧ wi ≤ 999)
  · have a := AF_v (σ := σ) c.1 c.2 (z2 c)
    by_cases w : 0 < σ 28 0
    · rw [gte_t ⟨c.1, c.2, w⟩, TL_eq h c.2]; exact a
    · rw [gte_f (fun u => w u.2.2), a]
      have nil : TL (pkR σ 113) (QR on wi) = [] := fl_nil (fun x x0 x1 => lif_f (fun u => by
        have := ((pk_01 k4).2.mp u).1
        have := k8.1
        omega))
      rw [nil]; rfl
  · rw [z3 c, gte_f (fun u => c ⟨u.1, u.2.1⟩)]
