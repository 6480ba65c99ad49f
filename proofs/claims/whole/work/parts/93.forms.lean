/-! ===== parts of what holds, each by itself ===== -/
theorem tpR_c {σ τ : jS} (h : tpR σ) (e1 : τ 2 1 = σ 2 1) (e2 : τ 3 = σ 3) (e3 : τ 112 = σ 112) (e4 : τ 111 2 = σ 111 2) : tpR τ := by
  unfold tpR mTp tpe
  rw [e1, e2, e3, e4]; exact h
theorem fwR_c {σ τ : jS} (h : fwR σ) (e1 : τ 0 13 = σ 0 13) (e2 : τ 0 14 = σ 0 14) (e3 : τ 111 10 = σ 111 10) (e4 : τ 111 12 = σ 111 12) : fwR τ := by
  unfold fwR
  rw [e1, e2, e3, e4]; exact h
theorem imR_c {σ τ : jS} (h : imR σ) (e7 : τ 7 = σ 7) (k : ∀ c, 53 ≤ c → c ≤ 78 → τ c = σ c) (e1 : τ 116 = σ 116) (e2 : τ 122 = σ 122) (e3 : τ 123 = σ 123) (e4 : τ 124 = σ 124) : imR τ := by
  obtain ⟨a, b, c⟩ := h
  unfold imR
  rw [e7, e4, k 53 (by omega) (by omega), k 54 (by omega) (by omega), k 66 (by omega) (by omega), k 67 (by omega) (by omega), e1, e2, e3]
  exact ⟨a, ⟨b.1, b.2.1, b.2.2.1, fun z => tbR_t (b.2.2.2 z) (fun c c0 c1 => k c (by omega) (by omega))⟩, ⟨c.1, c.2.1, c.2.2.1, fun z => tbR_t (c.2.2.2 z) (fun c c0 c1 => k c (by omega) (by omega))⟩⟩
theorem paR_c {σ τ : jS} (h : paR σ) (e0 : τ 0 6 = σ 0 6) (e8 : τ 8 = σ 8) (k : ∀ c, 79 ≤ c → c ≤ 110 → τ c = σ c) (e28 : τ 28 = σ 28) (e29 : τ 29 = σ 29) (e113 : ∀ j, 0 ≤ j → j < 105 → ¬ j = 4 → τ 113 j = σ 113 j) (e1 : τ 117 = σ 117) (e2 : τ 120 = σ 120) (e3 : τ 111 27 = σ 111 27) : paR τ := by
  obtain ⟨a, b⟩ := h
  refine ⟨⟨by rw [e3, e0]; exact a.1, by rw [e0]; exact a.2.1, by unfold okP; rw [e8]; exact a.2.2⟩, fun i i0 i1 => ?_⟩
  rw [e0] at i1
  have q := isPst_n (a.2.2.1 i i0 (by have := a.2.1; omega))
  rw [e8, e1, e2]
  obtain ⟨⟨p1, p2⟩, p3⟩ := b i i0 i1
  have r := pbR_t (H' := σ 113) (τ := τ) ⟨⟨p1, p2⟩, p3⟩ (k _ (by omega) (by omega)) (k _ (by omega) (by omega)) (k _ (by omega) (by omega)) (k _ (by omega) (by omega)) e29 e28 rfl rfl rfl
  exact ⟨⟨r.1.1, fun j j0 j1 j4 => (r.1.2 j j0 j1 j4).trans (e113 j j0 j1 j4).symm⟩, r.2⟩
theorem foR_c {σ τ : jS} (h : foR σ) (e1 : τ 9 1 = σ 9 1) (e2 : τ 10 = σ 10) (e3 : τ 129 = σ 129) (e4 : τ 111 33 = σ 111 33) : foR τ := by
  unfold foR
  rw [e1, e2, e3, e4]; exact h
theorem teR_c {σ τ : jS} (h : teR σ) (e1 : τ 4 1 = σ 4 1) (e2 : τ 5 = σ 5) (e3 : τ 130 = σ 130) (e4 : τ 111 36 = σ 111 36) : teR τ := by
  unfold teR
  rw [e1, e2, e3, e4]; exact h
theorem drR_c {σ τ : jS} (h : drR σ) (k : ∀ c, 41 ≤ c → c ≤ 46 → τ c = σ c) (e : τ 119 = σ 119) : drR τ := by
  refine ⟨okA_t h.1 (k _ (by omega) (by omega)) (k _ (by omega) (by omega)) (k _ (by omega) (by omega)) (k _ (by omega) (by omega)) (k _ (by omega) (by omega)) (k _ (by omega) (by omega)), ?_⟩
  rw [e]; exact h.2
theorem same_agr {X : List Nat} {σ τ : jS} (h : same X σ τ) (hX : ∀ c ∈ X, c ∈ SCR ∧ ¬ c = 111) : agr σ τ :=
  ⟨fun c hc => h c (fun q => hc (hX c q).1), fun j _ => by rw [h 111 (fun q => (hX 111 q).2 rfl)]⟩
theorem mdT_agr {X : List Int} {Y : List Nat} {σ τ : jS} (h : mdT X Y σ τ) (hX : ∀ j ∈ X, j ∉ ([2, 10, 12, 27, 33, 36] : List Int)) (hY : ∀ c ∈ Y, c ∈ SCR) : agr σ τ :=
  ⟨fun c hc => h.1 c (fun q => hc (by rw [q]; decide)) (fun q => hc (hY c q)), fun j hj => h.2 j (fun q => hX j q hj)⟩
theorem agr_o {Y : List Nat} {σ τ : jS} (h1 : ∀ c, ¬ c = 111 → c ∉ Y → τ c = σ c) (h2 : ∀ j, ¬ j = 0 → τ 111 j = σ 111 j) (hY : ∀ c ∈ Y, c ∈ SCR) : agr σ τ :=
  ⟨fun c hc => h1 c (fun q => hc (by rw [q]; decide)) (fun q => hc (hY c q)), fun j hj => h2 j (fun q => by rw [q] at hj; exact absurd hj (by decide))⟩
/-- both look, with scratch -/
theorem Ag_s {dc dm : Nat} {yc ym : jMI} {as : List Value} {σ : jS} {v : Int} {X : List Nat} (h : Inv σ) (hX : ∀ c ∈ X, c ∈ SCR ∧ ¬ c = 111) (hc : Jm dc yc (.ref 0 :: as) σ (fun r τ => same X σ τ ∧ r = some (vI v)))
    (hm : ∀ τ, Inv τ → same X σ τ → Jm dm ym (.ref 111 :: as) τ (fun r' ρ => agr τ ρ ∧ r' = some (vI v))) : Ag dc dm yc ym as σ :=
  hc.mono (fun r τ q => ⟨v, q.2, (hm τ (Inv_a h (same_agr q.1 hX)) q.1).mono (fun r' ρ z => ⟨z.2, Inv_a (Inv_a h (same_agr q.1 hX)) z.1⟩)⟩)
theorem mn_99 {f : Int → Int} : ∀ n : Nat, min (mnN f 99 n) 9 = mnN f 9 n
  | 0 => by show min (99 : Int) 9 = 9; decide
  | n + 1 => by
    show min (min (mnN f 99 n) (f n)) 9 = min (mnN f 9 n) (f n)
    rw [← mn_99 n]; omega
theorem mn_9 {f : Int → Int} {n : Int} (hn : 1 ≤ n) (h : ∀ i, 0 ≤ i → f i ≤ 9) : mnN f 9 n.toNat = mnN f 99 n.toNat := by
  obtain ⟨k, hk⟩ : ∃ k : Nat, n.toNat = k + 1 := ⟨n.toNat - 1, by omega⟩
  rw [hk, ← mn_99]
  have a : mnN f 99 (k + 1) ≤ f k := by show min (mnN f 99 k) (f k) ≤ f k; omega
  have := h k (by omega)
  omega
theorem ag_rim {σ : jS} (h : Inv σ) {b w : Int} (hb : iR b) (hw : iR w) : Ag 3 4 miX12_rim miX13_rim [vI b, vI w] σ := by
  obtain ⟨k1, k2, k3, k4, k5, k6, k7, k8⟩ := Inv_k h
  refine Ag_p h (c_X12_rim k2 k3 hb hw) (c_X13_rim k4 hb hw) ?_
  rw [k5]
  refine gte_c Iff.rfl (fun c => ?_)
  have v := k4.2 b c.1.1 c.1.2
  have v1 := v.1
  rw [(k6 b c.1.1 c.1.2).1, (k6 b c.1.1 c.1.2).2]
  have px := mn_9 (f := fun i => rP σ 113 b i % 10) (n := cn σ 113 b) (by omega) (fun i _ => by have := rP_p v i; omega)
  have py := mn_9 (f := fun i => rP σ 113 b i / 10) (n := cn σ 113 b) (by omega) (fun i _ => by have := rP_p v i; omega)
  rcases (show w = 0 ∨ w = 1 ∨ w = 2 ∨ w = 3 by omega) with rfl | rfl | rfl | rfl
  · simp only [show ((0 : Int) < 2) = True by simp, show ((0 : Int) % 2 = 0) = True by simp, if_true, px]
  · simp only [show ((1 : Int) < 2) = True by simp, show ((1 : Int) % 2 = 0) = False by simp, show ((1 : Int) = 0) = False by simp, if_true, if_false, py]
  · simp only [show ((2 : Int) < 2) = False by simp, show ((2 : Int) % 2 = 0) = True by simp, show ((2 : Int) = 0) = False by simp, show ((2 : Int) = 1) = False by simp, if_true, if_false, px]
  · simp only [show ((3 : Int) < 2) = False by simp, show ((3 : Int) % 2 = 0) = False by simp, show ((3 : Int) = 0) = False by simp, show ((3 : Int) = 1) = False by simp, show ((3 : Int) = 2) = False by simp, if_true, if_false, py]
theorem ag_alike {σ : jS} (h : Inv σ) {a b w : Int} (ha : iR a) (hb : iR b) (hw : iR w) : Ag 6 7 miX12_alike miX13_alike [vI a, vI b, vI w] σ := by
  obtain ⟨k1, k2, k3, k4, k5, k6, k7, k8⟩ := Inv_k h
  refine Ag_s h (by decide) (c_X12_alike k2 k3 ha hb hw) (fun τ hτ s => ?_)
  refine (c_X13_alike (Inv_k hτ).2.2.2.1 ha hb hw).mono (fun r ρ z => ⟨agr_o z.1 z.2.1 (by decide), ?_⟩)
  rw [z.2.2.2]
  have e : τ 113 = σ 113 := s 113 (by decide)
  refine congrArg (fun z => some (vI z)) ?_
  rw [e, k5]
  refine gte_c Iff.rfl (fun c => ?_)
  rw [cn_c e, cn_c e, rP_c2 e, rP_c2 e, (k6 a c.1.1 c.1.2).1, (k6 a c.1.1 c.1.2).2, (k6 b c.2.1.1 c.2.1.2).1, (k6 b c.2.1.1 c.2.1.2).2]
theorem ag_even {σ : jS} (h : Inv σ) {b w : Int} (hb : iR b) (hw : iR w) : Ag 6 7 miX12_even miX13_even [vI b, vI w] σ := by
  obtain ⟨k1, k2, k3, k4, k5, k6, k7, k8⟩ := Inv_k h
  refine Ag_s h (by decide) (c_X12_even k2 k3 hb hw) (fun τ hτ s => ?_)
  refine (c_X13_even (Inv_k hτ).2.2.2.1 hb hw).mono (fun r ρ z => ⟨agr_o z.1 z.2.1 (by decide), ?_⟩)
  rw [z.2.2.2]
  have e : τ 113 = σ 113 := s 113 (by decide)
  refine congrArg (fun z => some (vI z)) ?_
  rw [e, k5]
  refine gte_c Iff.rfl (fun c => ?_)
  rw [cn_c e, rP_c2 e, (k6 b c.1.1 c.1.2).1, (k6 b c.1.1 c.1.2).2]
theorem ag_form {σ : jS} (h : Inv σ) {b w : Int} (hb : iR b) (hw : iR w) : Ag 6 6 miX12_form miX13_form [vI b, vI w] σ := by
  obtain ⟨k1, k2, k3, k4, k5, k6, k7, k8⟩ := Inv_k h
  obtain ⟨i1, i2, i3, i4, i5, i6, i7, i8⟩ := h
  refine (c_X12_form k2 k3 hb hw).mono (fun r τ q => ?_)
  obtain ⟨q1, q2, q3, q4⟩ := q
  have e : τ 113 = σ 113 := q1 113 (by decide)
  have eN : okN τ := okN_c k4 e
  have m9 : ∀ j, τ 111 j = σ 111 j := fun j => by rw [q1 111 (by decide)]
  have fin : ∀ ρ, (∀ c, ¬ c = 111 → c ∉ [125, 126, 127, 129] → ρ c = τ c) → (∀ j, ¬ j = 0 → ¬ j = 33 → ρ 111 j = τ 111 j) → foR ρ → Inv ρ := fun ρ z1 z2 z3 => by
    have k : ∀ c, ((0 ≤ c ∧ c ≤ 8 ∧ ¬ c = 6 ∧ ¬ c = 1) ∨ (27 ≤ c ∧ c ≤ 39) ∨ (41 ≤ c ∧ c ≤ 46) ∨ (53 ≤ c ∧ c ≤ 110) ∨ c = 112 ∨ c = 113 ∨ (116 ≤ c ∧ c ≤ 124) ∨ c = 130) → ρ c = σ c := fun c hc => by
      rw [z1 c (by omega) (by simp; omega), q1 c (by simp; omega)]
    have m : ∀ j, ¬ j = 0 → ¬ j = 33 → ρ 111 j = σ 111 j := fun j a b => by rw [z2 j a b, m9]
    refine ⟨tpR_c i1 (by rw [k 2 (by omega)]) (k 3 (by omega)) (k 112 (by omega)) (m 2 (by decide) (by decide)), fwR_c i2 (by rw [k 0 (by omega)]) (by rw [k 0 (by omega)]) (m 10 (by decide) (by decide)) (m 12 (by decide) (by decide)), ?_, imR_c i4 (k 7 (by omega)) (fun c a b => k c (by omega)) (k 116 (by omega)) (k 122 (by omega)) (k 123 (by omega)) (k 124 (by omega)), paR_c i5 (by rw [k 0 (by omega)]) (k 8 (by omega)) (fun c a b => k c (by omega)) (k 28 (by omega)) (k 29 (by omega)) (fun j _ _ _ => by rw [k 113 (by omega)]) (k 117 (by omega)) (k 120 (by omega)) (m 27 (by decide) (by decide)), z3, teR_c i7 (by rw [k 4 (by omega)]) (k 5 (by omega)) (k 130 (by omega)) (m 36 (by decide) (by decide)), drR_c i8 (fun c a b => k c (by omega)) (k 119 (by omega))⟩
    rw [k 113 (by omega), k 118 (by omega), k 121 (by omega)]
    exact tbR_t i3 (fun c a b => k c (by omega))
  by_cases c : (0 ≤ b ∧ b < σ 113 4) ∧ 0 ≤ w ∧ w ≤ 2
  · obtain ⟨x1, x2, x3, x4⟩ := q3 (by rw [k5]; exact c)
    refine ⟨_, x1, (c_X13_form eN hb hw).mono (fun r' ρ z => ?_)⟩
    obtain ⟨z1, z2, z3, z4, z5⟩ := z
    obtain ⟨y1, y2, y3⟩ := z4 (by rw [e]; exact c)
    have en := (k6 b c.1.1 c.1.2).1
    have ep := (k6 b c.1.1 c.1.2).2
    have v := (k4.2 b c.1.1 c.1.2).1
    rw [cn_c e] at y1 y2
    rw [cn_c e, rP_c2 e] at y3
    rw [en, ep] at x4
    rw [en] at x1 x2 x3
    have r9 : ρ 9 = τ 9 := z1 9 (by decide) (by decide)
    have r10 : ρ 10 = τ 10 := z1 10 (by decide) (by decide)
    refine ⟨by rw [y1, en], fin ρ z1 z2 ⟨?_, ?_, ?_⟩⟩
    · rw [r9, x2]; omega
    · rw [y2, r9, x2]
    · intro j j0 j1
      rw [r9, x2] at j1
      rw [r10]
      exact lsO_u x4 y3 j j0 j1
  · obtain ⟨x1, x2⟩ := q4 (by rw [k5]; exact c)
    refine ⟨_, x1, (c_X13_form eN hb hw).mono (fun r' ρ z => ?_)⟩
    obtain ⟨z1, z2, z3, z4, z5⟩ := z
    obtain ⟨y1, y2, y3⟩ := z5 (by rw [e]; exact c)
    refine ⟨y1, fin ρ z1 z2 ?_⟩
    subst x2
    exact foR_c i6 (by rw [z1 9 (by decide) (by decide)]) (z1 10 (by decide) (by decide)) y3 y2
