/-! ===== snap ===== -/
theorem smI_ad {f g h : Int → Int} {n : Int} (e : ∀ i, 0 ≤ i → i < n → h i = f i + g i) : smI h n = smI f n + smI g n := by
  unfold smI
  have q : ∀ m : Nat, (m : Int) ≤ n.toNat → sm h m = sm f m + sm g m := by
    intro m
    induction m with
    | zero => intro _; rfl
    | succ m ih =>
      intro hm
      have a := ih (by omega)
      have b := e m (by omega) (by omega)
      show sm h m + h m = (sm f m + f m) + (sm g m + g m)
      rw [a, b]; omega
  exact q _ (Int.le_refl _)
/-- a row without one of its bands -/
def rmD (D E : Int → Int) (b : Int) : Prop := E 4 = D 4 - 1 ∧ ∀ j, ¬ j = 4 → E j = if 105 + 17 * b ≤ j ∧ j < 105 + 17 * (D 4 - 1) then D (j + 17) else D j
def sk (b c : Int) : Int := if c < b then c else c + 1
theorem sk_b {b c n : Int} (b0 : 0 ≤ b) (b1 : b < n) (c0 : 0 ≤ c) (c1 : c < n - 1) : 0 ≤ sk b c ∧ sk b c < n ∧ ¬ sk b c = b := by unfold sk; split <;> omega
theorem sk_on {b c n : Int} (b0 : 0 ≤ b) (b1 : b < n) (c0 : 0 ≤ c) (c1 : c < n) (h : ¬ c = b) : ∃ d, 0 ≤ d ∧ d < n - 1 ∧ sk b d = c := by
  by_cases q : c < b
  · exact ⟨c, c0, by omega, by unfold sk; rw [if_pos q]⟩
  · exact ⟨c - 1, by omega, by omega, by unfold sk; rw [if_neg (by omega)]; omega⟩
theorem rmD_e {D E : Int → Int} {b : Int} (h : rmD D E b) (b0 : 0 ≤ b) (b1 : b < D 4) {c x : Int} (c0 : 0 ≤ c) (c1 : c < D 4 - 1) (x0 : 0 ≤ x) (x1 : x < 17) : E (105 + 17 * c + x) = D (105 + 17 * sk b c + x) := by
  rw [h.2 _ (by omega)]
  unfold sk
  by_cases q : c < b
  · rw [if_neg (by omega), if_pos q]
  · rw [if_pos (by omega), if_neg q, show 105 + 17 * c + x + 17 = 105 + 17 * (c + 1) + x by omega]
theorem rmD_n {D E : Int → Int} {b : Int} (h : rmD D E b) (b0 : 0 ≤ b) (b1 : b < D 4) {c : Int} (c0 : 0 ≤ c) (c1 : c < D 4 - 1) : cn (dS E) 0 c = cn (dS D) 0 (sk b c) := by
  have := rmD_e h b0 b1 c0 c1 (x := 0) (by decide) (by decide)
  rw [Int.add_zero, Int.add_zero] at this
  exact this
theorem rmD_P {D E : Int → Int} {b : Int} (h : rmD D E b) (b0 : 0 ≤ b) (b1 : b < D 4) {c : Int} (c0 : 0 ≤ c) (c1 : c < D 4 - 1) (hn : 3 ≤ cn (dS D) 0 (sk b c) ∧ cn (dS D) 0 (sk b c) ≤ 8) : rP (dS E) 0 c = rP (dS D) 0 (sk b c) := by
  funext i
  unfold rP xa ya
  rw [rmD_n h b0 b1 c0 c1]
  have a0 := Int.emod_nonneg i (show cn (dS D) 0 (sk b c) ≠ 0 by omega)
  have a1 := Int.emod_lt_of_pos i (show 0 < cn (dS D) 0 (sk b c) by omega)
  generalize i % cn (dS D) 0 (sk b c) = k at a0 a1 ⊢
  show 10 * E (105 + 17 * c + 2 + 2 * k) + E (105 + 17 * c + 1 + 2 * k) = 10 * D (105 + 17 * sk b c + 2 + 2 * k) + D (105 + 17 * sk b c + 1 + 2 * k)
  have e1 := rmD_e h b0 b1 c0 c1 (x := 2 + 2 * k) (by omega) (by omega)
  have e2 := rmD_e h b0 b1 c0 c1 (x := 1 + 2 * k) (by omega) (by omega)
  rw [show 105 + 17 * c + (2 + 2 * k) = 105 + 17 * c + 2 + 2 * k by omega, show 105 + 17 * sk b c + (2 + 2 * k) = 105 + 17 * sk b c + 2 + 2 * k by omega] at e1
  rw [show 105 + 17 * c + (1 + 2 * k) = 105 + 17 * c + 1 + 2 * k by omega, show 105 + 17 * sk b c + (1 + 2 * k) = 105 + 17 * sk b c + 1 + 2 * k by omega] at e2
  rw [e1, e2]
theorem pkR_h {D E : Int → Int} (hV : okV D) (e : ∀ j, 0 ≤ j → j < 105 → ¬ j = 4 → E j = D j) : pkR (dS E) 0 = pkR (dS D) 0 := by
  funext p
  unfold pkR
  show (if 0 ≤ p ∧ p % 10 < E 0 ∧ p / 10 < E 1 then (if E (5 + p) = 0 then 1 else 0) else (-1 : Int)) = (if 0 ≤ p ∧ p % 10 < D 0 ∧ p / 10 < D 1 then (if D (5 + p) = 0 then 1 else 0) else -1)
  rw [e 0 (by decide) (by decide) (by decide), e 1 (by decide) (by decide) (by decide)]
  split
  · rename_i hp
    have := hV.1
    rw [e (5 + p) (by omega) (by omega) (by omega)]
  · rfl
/-- a board's head, and bands that are good -/
theorem okV_b {D E : Int → Int} (hV : okV D) (e : ∀ j, 0 ≤ j → j < 105 → ¬ j = 4 → E j = D j) (h4 : cB 8 (E 4)) (hb : ∀ b, 0 ≤ b → b < E 4 → gB E b) : okV E := by
  obtain ⟨h1, h2, h3, _, h5, h6, _⟩ := hV
  refine ⟨by rw [e 0 (by decide) (by decide) (by decide), e 1 (by decide) (by decide) (by decide)]; exact h1, by rw [e 2 (by decide) (by decide) (by decide)]; exact h2, by rw [e 3 (by decide) (by decide) (by decide)]; exact h3, h4, fun p p0 p1 => ?_, ?_, hb⟩
  · rw [e (5 + p) (by omega) (by omega) (by omega), e 0 (by decide) (by decide) (by decide), e 1 (by decide) (by decide) (by decide)]; exact h5 p p0 p1
  · rw [e 3 (by decide) (by decide) (by decide), h6]
    exact smI_congr (fun p p0 p1 => (e (5 + p) (by omega) (by omega) (by omega)).symm)
theorem rmD_h {D E : Int → Int} {b : Int} (h : rmD D E b) (b0 : 0 ≤ b) : ∀ j, 0 ≤ j → j < 105 → ¬ j = 4 → E j = D j := fun j j0 j1 j4 => by rw [h.2 j j4, if_neg (by omega)]
theorem rmD_V {D E : Int → Int} {b : Int} (h : rmD D E b) (hV : okV D) (b0 : 0 ≤ b) (b1 : b < D 4) : okV E := by
  have hd := rmD_h h b0
  have n8 := hV.2.2.2.1
  refine okV_b hV hd (by rw [h.1]; omega) (fun c c0 c1 => ?_)
  rw [h.1] at c1
  have s := sk_b b0 b1 c0 c1
  obtain ⟨g1, g2, g3⟩ := hV.2.2.2.2.2.2 (sk b c) s.1 s.2.1
  have en : E (105 + 17 * c) = D (105 + 17 * sk b c) := rmD_n h b0 b1 c0 c1
  refine ⟨by rw [en]; exact g1, fun i i0 i1 => ?_, ?_⟩
  · rw [en] at i1
    have e1 := rmD_e h b0 b1 c0 c1 (x := 2 + 2 * i) (by omega) (by omega)
    have e2 := rmD_e h b0 b1 c0 c1 (x := 1 + 2 * i) (by omega) (by omega)
    rw [show 105 + 17 * c + (2 + 2 * i) = 105 + 17 * c + 2 + 2 * i by omega, show 105 + 17 * sk b c + (2 + 2 * i) = 105 + 17 * sk b c + 2 + 2 * i by omega] at e1
    rw [show 105 + 17 * c + (1 + 2 * i) = 105 + 17 * c + 1 + 2 * i by omega, show 105 + 17 * sk b c + (1 + 2 * i) = 105 + 17 * sk b c + 1 + 2 * i by omega] at e2
    rw [e1, e2, hd 0 (by decide) (by decide) (by decide), hd 1 (by decide) (by decide) (by decide)]
    exact g2 i i0 i1
  · rw [rmD_n h b0 b1 c0 c1, rmD_P h b0 b1 c0 c1 g1, pkR_h hV hd]; exact g3
theorem rm_pb {σ τ υ ω : jS} {b : Int} (hV : okV (σ 113)) (p : pbR σ 30 (σ 113) (σ 113) (σ 118)) (r : RM τ υ 30 b) (kw : ∀ c, 28 ≤ c → c ≤ 33 → ω c = υ c) (k : ∀ c, 28 ≤ c → c ≤ 33 → τ c = σ c) (rd : rmD (σ 113) (ω 113) b) (hn : ∀ j, ω 118 j = if b ≤ j ∧ j < σ 113 4 - 1 then σ 118 (j + 1) else σ 118 j) (b0 : 0 ≤ b) (b1 : b < σ 113 4) : pbR ω 30 (σ 113) (ω 113) (ω 118) := by
  obtain ⟨r1, r2, r3, r4, r5, r6⟩ := r
  have r3 : ∀ j, ω 31 j = if b ≤ j ∧ j < σ 30 0 - 1 then σ 31 (j + 1) else σ 31 j := by
    have := r3; rw [show υ (30 + 1) = ω 31 from (kw 31 (by omega) (by omega)).symm, k 30 (by omega) (by omega), show τ (30 + 1) = σ 31 from k 31 (by omega) (by omega)] at this; exact this
  have r4 : ∀ j, ω 32 j = if b ≤ j ∧ j < σ 30 0 - 1 then σ 32 (j + 1) else σ 32 j := by
    have := r4; rw [show υ (30 + 2) = ω 32 from (kw 32 (by omega) (by omega)).symm, k 30 (by omega) (by omega), show τ (30 + 2) = σ 32 from k 32 (by omega) (by omega)] at this; exact this
  have r5 : ∀ j, ω 33 j = if b * 8 ≤ j ∧ j < (σ 30 0 - 1) * 8 then σ 33 (j + 8) else σ 33 j := by
    have := r5; rw [show υ (30 + 3) = ω 33 from (kw 33 (by omega) (by omega)).symm, k 30 (by omega) (by omega), show τ (30 + 3) = σ 33 from k 33 (by omega) (by omega)] at this; exact this
  rw [k 30 (by omega) (by omega), ← kw 30 (by omega) (by omega)] at r1
  obtain ⟨⟨p1, _⟩, p2, p3, p4, p5, p6⟩ := p
  have n8 := hV.2.2.2.1
  have e29 : ω 29 = σ 29 := by rw [kw 29 (by omega) (by omega), r6 29 (by decide) (by decide) (by decide) (by decide), k 29 (by omega) (by omega)]
  have e28 : ω 28 = σ 28 := by rw [kw 28 (by omega) (by omega), r6 28 (by decide) (by decide) (by decide) (by decide), k 28 (by omega) (by omega)]
  have e4 := rd.1
  refine ⟨⟨rmD_V rd hV b0 b1, rmD_h rd b0⟩, ⟨by rw [r1, p3]; omega, fun j j0 j1 => ?_, fun j j0 j1 => ?_, fun j j0 j1 => ?_⟩, by rw [r1, p3, e4], fun c c0 c1 => ?_, fun c c0 c1 => ?_, fun j j0 j1 => ?_⟩
  · show 0 ≤ ω 32 j ∧ ω 32 j ≤ 8
    rw [r4 j]; split <;> exact p2.2.1 _ (by omega) (by omega)
  · show isPg (ω 33 j)
    rw [r5 j]; split <;> exact p2.2.2.1 _ (by omega) (by omega)
  · show -1 ≤ ω 31 j ∧ ω 31 j ≤ 7
    rw [r3 j]; split <;> exact p2.2.2.2 _ (by omega) (by omega)
  · rw [e4] at c1
    have s := sk_b b0 b1 c0 c1
    have g := (hV.2.2.2.2.2.2 (sk b c) s.1 s.2.1).1
    have q := p4 (sk b c) s.1 s.2.1
    have en : ω 113 (105 + 17 * c) = σ 113 (105 + 17 * sk b c) := rmD_n rd b0 b1 c0 c1
    have e32 : ω 32 c = σ 32 (sk b c) := by
      rw [r4 c, p3]; unfold sk
      by_cases u : c < b
      · rw [if_neg (by omega), if_pos u]
      · rw [if_pos (by omega), if_neg u]
    refine ⟨by show ω 32 c = _; rw [e32, en]; exact q.1, fun i i0 i1 => ?_⟩
    rw [en] at i1
    have e1 := rmD_e rd b0 b1 c0 c1 (x := 2 + 2 * i) (by omega) (by omega)
    have e2 := rmD_e rd b0 b1 c0 c1 (x := 1 + 2 * i) (by omega) (by omega)
    rw [show 105 + 17 * c + (2 + 2 * i) = 105 + 17 * c + 2 + 2 * i by omega, show 105 + 17 * sk b c + (2 + 2 * i) = 105 + 17 * sk b c + 2 + 2 * i by omega] at e1
    rw [show 105 + 17 * c + (1 + 2 * i) = 105 + 17 * c + 1 + 2 * i by omega, show 105 + 17 * sk b c + (1 + 2 * i) = 105 + 17 * sk b c + 1 + 2 * i by omega] at e2
    rw [e1, e2, ← q.2 i i0 i1]
    show ω 33 (c * 8 + i) = σ 33 (sk b c * 8 + i)
    rw [r5, p3]
    unfold sk
    by_cases u : c < b
    · rw [if_neg (by omega), if_pos u]
    · rw [if_pos (by omega), if_neg u, show c * 8 + i + 8 = (c + 1) * 8 + i by omega]
  · rw [e4] at c1
    have s := sk_b b0 b1 c0 c1
    have q := p5 (sk b c) s.1 s.2.1
    have e31 : ω 31 c = σ 31 (sk b c) := by
      rw [r3 c, p3]; unfold sk
      by_cases u : c < b
      · rw [if_neg (by omega), if_pos u]
      · rw [if_pos (by omega), if_neg u]
    have e18 : ω 118 c = σ 118 (sk b c) := by
      rw [hn c]; unfold sk
      by_cases u : c < b
      · rw [if_neg (by omega), if_pos u]
      · rw [if_pos (by omega), if_neg u]
    show (ω 31 c = -1 ∧ ω 118 c = 0) ∨ ((0 ≤ ω 31 c ∧ ω 31 c < ω 28 6) ∧ ω 118 c = ω 29 (ω 31 c))
    rw [e31, e18, e28, e29]; exact q
  · rw [hn j]; split <;> exact p6 _ (by omega) (by omega)
