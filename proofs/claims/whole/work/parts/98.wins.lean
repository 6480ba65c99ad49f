theorem clR_x {σ : jS} {T : Nat} {D E : Int → Int} (h : clR σ T D) (e : ∀ j, 241 ≤ j → j < 261 → E j = D j) : clR σ T E := by
  obtain ⟨x1, x2, x3⟩ := h
  have n8 := x2.1
  unfold clR okC
  rw [e 242 (by decide) (by decide), e 243 (by decide) (by decide), e 244 (by decide) (by decide), e 241 (by decide) (by decide)]
  refine ⟨x1, ⟨x2.1, x2.2.1, x2.2.2.1, fun i i0 i1 => by rw [e _ (by omega) (by omega), e _ (by omega) (by omega)]; exact x2.2.2.2 i i0 i1⟩, x3.imp id (fun y => ⟨y.1, y.2.1, y.2.2.1, fun i i0 i1 => by rw [e _ (by omega) (by omega), e _ (by omega) (by omega)]; exact y.2.2.2 i i0 i1⟩)⟩
theorem seR_x {σ : jS} {T : Nat} {D E S : Int → Int} (h : seR σ T D S) (e : ∀ j, 270 ≤ j → E j = D j) : seR σ T E S := by
  unfold seR
  rw [e 270 (by decide), e 271 (by decide)]
  refine h.imp id (fun y => ⟨y.1, y.2.1, ?_⟩)
  obtain ⟨f, N, M, idn, y1, y2, y3, y4, y5, y6, y7⟩ := y.2.2
  have ee : ∀ j, 0 ≤ j → (fun j => E (272 + j)) j = (fun j => D (272 + j)) j := fun j j0 => e _ (by omega)
  refine ⟨f, N, M, idn, y1, y2, y3, ?_, y5, rpM_x y6 (Int.le_refl _) (Int.le_refl _) (fun j j0 _ => ee j j0) (fun _ _ _ => rfl), y7⟩
  intro i a0 a1
  have q := y4 i a0 a1
  rw [ee (4 * i) (by omega), ee (4 * i + 1) (by omega), ee (4 * i + 2) (by omega), ee (4 * i + 3) (by omega)]
  exact q
theorem gOk_R {σ : jS} (h : Inv σ) : gOk σ ↔ smR (σ 113) := by
  have k7 : pkC σ 28 = pkD (σ 113) := (Inv_k h).2.2.2.2.2.2.1
  have e := pgN_eq h.2.2.1.1.1
  have k8 := (Inv_k h).2.2.2.2.2.2.2.1
  unfold gOk smR
  rw [k7, e, k8]
  omega
theorem Inv_G {σ : jS} (h : Inv σ) : okGm (σ 113) ∧ (smR (σ 113) → gmH (σ 113)) := by
  have g := h.2.2.1.2.2.2.1.2.1
  have v := h.2.2.1.1.1
  refine ⟨g, fun s => ⟨by have := v.1; omega, by have := v.1; omega, g, ?_⟩⟩
  rw [pgN_eq v]; exact s.2
theorem ln_c {σ : jS} (h : Inv σ) {i : Int} (i0 : 0 ≤ i) (i1 : i < σ 27 3) : cB 9999 (σ 37 i) := by
  obtain ⟨l1, l2, l3⟩ := h.2.2.1.2.2.2.1
  have l1' : σ 113 261 = σ 27 3 := l1
  have w01 : cB 10 (σ 113 0) ∧ cB 10 (σ 113 1) := by have := h.2.2.1.1.1.1; omega
  have p1 := pkD_p w01 (l2.2.1 (2 * i) (by omega) (by omega))
  have p2 := pkD_p w01 (l2.2.1 (2 * i + 1) (by omega) (by omega))
  rw [show 262 + (2 * i + 1) = 262 + 2 * i + 1 by omega] at p2
  have q : σ 37 i = _ := (l3 i i0 (by omega)).2
  omega
theorem ln_4 {σ : jS} (h : Inv σ) : cB 4 (σ 27 3) := by
  obtain ⟨l1, l2, l3⟩ := h.2.2.1.2.2.2.1
  have l1' : σ 113 261 = σ 27 3 := l1
  have := l2.1
  omega
theorem GB_a {σ ρ : jS} (h : GB σ ρ) : agr σ ρ := same_agr h.1 (by decide)
theorem ag_lines {σ : jS} (h : Inv σ) {k : Int} (hk : iR k) : Ag 6 6 miX12_lines miX13_lines [vI k] σ := by
  obtain ⟨k1, k2, k3, k4, k5, k6, k7, k8⟩ := Inv_k h
  refine (c_X12_lines k1 (ln_4 h) (fun i i0 i1 => ln_c h i0 i1) hk).mono (fun r ρ q => ⟨_, q.2, ?_⟩)
  have hρ := Inv_a h (GB_a q.1)
  have e : ρ 113 = σ 113 := q.1.1 113 (by decide)
  refine (c_X13_lines (Inv_k hρ).2.2.2.1 (Inv_G hρ).2 (Inv_G hρ).1 hk).mono (fun r' τ z => ⟨?_, by rw [z.1]; exact Inv_a hρ (agr_ju _ 0)⟩)
  rw [z.2]
  refine congrArg (fun z => some (vI z)) ?_
  rw [e]
  refine (gte_c (gOk_R h) (fun s => ?_)).symm
  have g := (gOk_R h).mpr s
  rw [ch_eq (D := σ 113) (pk := pkC σ 28) k7 (q.1.2 g.1).1 (R := fun a b => mayL (σ 113) a b) (fun a b z => z) (fun i i0 i1 => op_eq h q.1 g.1 ⟨i0, i1⟩)]
theorem hd_fi {ρ : jS} {Q : Int → Prop} : ∀ (k : Nat) (s : Int), 0 ≤ s → (∀ i, 0 ≤ i → i < s → ¬ Q i) → (flN (fun i => lif (Q i) [ρ 25 i]) (s.toNat + k)).headD (-1) = if fiF Q k s = -1 then -1 else ρ 25 (fiF Q k s)
  | 0, s, s0, hs => by
    rw [Nat.add_zero, flN_nil _ (fun i i0 i1 => lif_f (hs i i0 (by omega))), fiF, if_pos rfl]; rfl
  | k + 1, s, s0, hs => by
    rw [fiF]
    by_cases c : Q s
    · rw [if_pos c, if_neg (by omega)]
      have p := flN_pre (f := fun i => lif (Q i) [ρ 25 i]) s.toNat (s.toNat + (k + 1)) (by omega)
      rw [flN_nil _ (fun i i0 i1 => lif_f (hs i i0 (by omega))), Int.toNat_of_nonneg s0, lif_t c] at p
      exact hd_at p
    · rw [if_neg c, show s.toNat + (k + 1) = (s + 1).toNat + k by omega]
      exact hd_fi k (s + 1) (by omega) (fun i i0 i1 => by
        rcases (show i < s ∨ i = s by omega) with u | u
        · exact hs i i0 u
        · rw [u]; exact c)
theorem hd_ch {ρ : jS} {Q : Int → Prop} {n : Int} : (chL ρ Q n).headD (-1) = if fi Q n = -1 then -1 else ρ 25 (fi Q n) := by
  have := hd_fi (ρ := ρ) (Q := Q) n.toNat 0 (by decide) (fun i i0 i1 => by omega)
  rw [show Int.toNat 0 + n.toNat = n.toNat by simp] at this
  exact this
theorem may_lay {D : Int → Int} (w0 : cB 10 (D 0)) (w1 : cB 10 (D 1)) (hm : cB 3 (D 261)) {a b c d : Int} : mayL (layD D a b) c d ↔ (mayL D c d ∧ mt c d a b = 0) := by
  have e1 : layD D a b 261 = D 261 + 1 := by unfold layD; rw [if_pos rfl]
  have e2 : layD D a b (262 + 2 * D 261) = a := by unfold layD; rw [if_neg (by omega), if_pos rfl]
  have e3 : layD D a b (262 + 2 * D 261 + 1) = b := by unfold layD; rw [if_neg (by omega), if_neg (by omega), if_pos rfl]
  have e4 : ∀ k, 0 ≤ k → k < 2 * D 261 → layD D a b (262 + k) = D (262 + k) := fun k k0 k1 => by unfold layD; rw [if_neg (by omega), if_neg (by omega), if_neg (by omega)]
  have e5 : ∀ k, 0 ≤ k → k < D 261 → layD D a b (262 + 2 * k + 1) = D (262 + 2 * k + 1) := fun k k0 k1 => by unfold layD; rw [if_neg (by omega), if_neg (by omega), if_neg (by omega)]
  have pl := pkD_l w0 w1 (show cB 4 (D 261) by omega) a b
  constructor
  · intro h
    have q := h.2.2.2.2
    rw [e1] at q
    have all : ∀ k, 0 ≤ k → k < D 261 → mt c d (D (262 + 2 * k)) (D (262 + 2 * k + 1)) = 0 := fun k k0 k1 => by
      have := q k k0 (by omega)
      rw [e4 (2 * k) (by omega) (by omega), e5 k k0 k1] at this
      exact this
    have l := q (D 261) (by omega) (by omega)
    rw [e2, e3] at l
    exact ⟨(may_eq (by omega) (by rw [← pl]; exact h.2.1.2) (by rw [← pl]; exact h.2.2.1.2) h.2.2.2.1 h.1).mpr all, l⟩
  · rintro ⟨h, l⟩
    refine (may_eq (D := layD D a b) (by omega) (by rw [pl]; exact h.2.1.2) (by rw [pl]; exact h.2.2.1.2) h.2.2.2.1 h.1).mpr (fun k k0 k1 => ?_)
    rw [e1] at k1
    rcases (show k < D 261 ∨ k = D 261 by omega) with u | u
    · rw [e4 (2 * k) (by omega) (by omega), e5 k k0 u]; exact h.2.2.2.2 k k0 u
    · rw [u, e2, e3]; exact l
theorem wn_eq {ρ : jS} {pk : Int → Int} (hG : GM ρ (LN pk)) (hH : GH ρ) (f : Nat) : ∀ {D : Int → Int} {O : Int → Prop}, gmH D → pk = pkD D → (∀ i, 0 ≤ i → i < ρ 23 3 → (O i ↔ mayL D (ρ 25 i / 100) (ρ 25 i % 100))) → (if wpF (ρ 23 3) (fun i j => bt (ρ 26 i) j) f O = -1 then -1 else ρ 25 (wpF (ρ 23 3) (fun i j => bt (ρ 26 i) j) f O)) = wnR f D := by
  induction f with
  | zero =>
    intro D O _ _ _
    rw [wpF, wnR, if_pos rfl]
  | succ f ih =>
    intro D O hD hk hO
    rw [wpF, wnR, ← hd_ch]
    rw [ch_eq (D := D) hk hG (R := fun a b => mayL D a b ∧ wnR f (layD D a b) = -1) (fun a b z => z.1) (fun i i0 i1 => ?_)]
    have n36 := hG.2.1
    rw [hO i i0 i1]
    refine and_congr_right (fun hm => ?_)
    have gl := gm_lt hD.1 hD.2.1 hD.2.2.1 hD.2.2.2 hm
    have g4 := hD.2.2.1.1
    have hI := ih (D := layD D (ρ 25 i / 100) (ρ 25 i % 100)) (O := fun j => O j ∧ ¬ bt (ρ 26 i) j) (gmH_l hD hm) (by rw [hk, pkD_l hD.1 hD.2.1 g4]) (fun j j0 j1 => by
      rw [may_lay hD.1 hD.2.1 (by omega), hO j j0 j1, hH i j i0 i1 j0 j1, Classical.not_not]
      unfold mtC
      rw [mt_sw])
    rw [← hI]
    have fb : ∀ g : Nat, ∀ O' : Int → Prop, ¬ wpF (ρ 23 3) (fun i j => bt (ρ 26 i) j) g O' = -1 → 0 ≤ wpF (ρ 23 3) (fun i j => bt (ρ 26 i) j) g O' ∧ wpF (ρ 23 3) (fun i j => bt (ρ 26 i) j) g O' < ρ 23 3 := fun g O' hne => by
      cases g with
      | zero => rw [wpF] at hne; exact absurd rfl hne
      | succ g => rw [wpF] at hne ⊢; exact (fi_b n36).2.2 hne
    by_cases c : wpF (ρ 23 3) (fun i j => bt (ρ 26 i) j) f (fun j => O j ∧ ¬ bt (ρ 26 i) j) = -1
    · rw [if_pos c]; exact ⟨fun _ => rfl, fun _ => c⟩
    · rw [if_neg c]
      have q := fb f _ c
      have v := hG.2.2 _ q.1 q.2
      exact ⟨fun z => absurd z c, fun z => by omega⟩
theorem ag_wins {σ : jS} (h : Inv σ) : Ag 9 12 miX12_wins miX13_wins [] σ := by
  obtain ⟨k1, k2, k3, k4, k5, k6, k7, k8⟩ := Inv_k h
  refine (c_X12_wins k1 (ln_4 h) (fun i i0 i1 => ln_c h i0 i1)).mono (fun r ρ q => ⟨_, q.2, ?_⟩)
  have hρ := Inv_a h (GB_a q.1)
  have e : ρ 113 = σ 113 := q.1.1 113 (by decide)
  refine (c_X13_wins (Inv_k hρ).2.2.2.1 (Inv_G hρ).2 (Inv_G hρ).1).mono (fun r' τ z => ⟨?_, ?_⟩)
  · rw [z.1]
    refine congrArg (fun z => some (vI z)) ?_
    rw [e]
    refine (gte_c (gOk_R h) (fun s => ?_)).symm
    have g := (gOk_R h).mpr s
    have w := wn_eq (q.1.2 g.1).1 (q.1.2 g.1).2 5 (O := opB ρ) ((Inv_G h).2 s) k7 (fun i i0 i1 => op_eq h q.1 g.1 ⟨i0, i1⟩)
    exact w
  · obtain ⟨_, z1, z2, z3, z4⟩ := z
    obtain ⟨i1, i2, i3, i4, i5, i6, i7, i8⟩ := hρ
    have k : ∀ c, ¬ c = 111 → ¬ c = 113 → ¬ c = 136 → τ c = ρ c := z1
    have kk : ∀ c, c ≤ 110 → τ c = ρ c := fun c hc => k c (by omega) (by omega) (by omega)
    have lo : ∀ j, (j < 262 ∨ 270 ≤ j) → τ 113 j = ρ 113 j := fun j hj => z4 j (by have := i3.2.2.2.1.2.1.1; omega)
    obtain ⟨l1, l2, l3⟩ := i3.2.2.2.1
    have m4 := l2.1
    have e261 := lo 261 (by omega)
    have le : ∀ k, 0 ≤ k → k < 2 * ρ 113 261 → τ 113 (262 + k) = ρ 113 (262 + k) := fun k k0 k1 => z4 _ (by omega)
    have pe : pkD (τ 113) = pkD (ρ 113) := by
      funext p
      exact pkD_c (D := ρ 113) (fun j hj => lo j (by omega)) (by have := i3.1.1.1; omega) (by have := i3.1.1.1; omega)
    refine ⟨tpR_c i1 (by rw [kk 2 (by omega)]) (kk 3 (by omega)) (k 112 (by decide) (by decide) (by decide)) (z2 2 (by decide)), fwR_c i2 (by rw [kk 0 (by omega)]) (by rw [kk 0 (by omega)]) (z2 10 (by decide)) (z2 12 (by decide)), ?_, imR_c i4 (kk 7 (by omega)) (fun c a b => kk c (by omega)) (k _ (by decide) (by decide) (by decide)) (k _ (by decide) (by decide) (by decide)) (k _ (by decide) (by decide) (by decide)) (k _ (by decide) (by decide) (by decide)), paR_c i5 (by rw [kk 0 (by omega)]) (kk 8 (by omega)) (fun c a b => kk c (by omega)) (kk 28 (by omega)) (kk 29 (by omega)) (fun j _ j1 _ => lo j (by omega)) (k _ (by decide) (by decide) (by decide)) (k _ (by decide) (by decide) (by decide)) (z2 27 (by decide)), foR_c i6 (by rw [kk 9 (by omega)]) (kk 10 (by omega)) (k _ (by decide) (by decide) (by decide)) (z2 33 (by decide)), teR_c i7 (by rw [kk 4 (by omega)]) (kk 5 (by omega)) (k _ (by decide) (by decide) (by decide)) (z2 36 (by decide)), drR_c i8 (fun c a b => kk c (by omega)) (k _ (by decide) (by decide) (by decide))⟩
    rw [k 118 (by decide) (by decide) (by decide), k 121 (by decide) (by decide) (by decide)]
    refine tbR_t (tbR_x i3 (fun j j0 j1 => lo j (by omega)) (clR_x i3.2.2.1 (fun j j0 j1 => lo j (by omega))) ?_ (seR_x i3.2.2.2.2 (fun j j0 => lo j (by omega)))) (fun c a b => kk c (by omega))
    refine ⟨by rw [e261]; exact l1, ⟨by rw [e261]; exact m4, fun k k0 k1 => ?_, fun k l k0 kl l1' => ?_⟩, fun k k0 k1 => ?_⟩
    · rw [e261] at k1; rw [pe, le k k0 k1]; exact l2.2.1 k k0 k1
    · rw [e261] at l1'; rw [le k k0 (by omega), le l (by omega) l1']; exact l2.2.2 k l k0 kl l1'
    · rw [e261] at k1
      rw [le (2 * k) (by omega) (by omega), show 262 + 2 * k + 1 = 262 + (2 * k + 1) by omega, le (2 * k + 1) (by omega) (by omega), show 262 + (2 * k + 1) = 262 + 2 * k + 1 by omega]
      exact l3 k k0 k1
