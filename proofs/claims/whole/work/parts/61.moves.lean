/-- the outcome of the reference's change: w, what stands against it -/
def CH (σ τ : jS) (w : Int) : Prop := (¬ w = 0 → τ = σ) ∧ (w = 0 → ∃ τ1, SS σ τ1 ∧ (∀ c, ¬ c = 113 → τ c = τ1 c) ∧ (∀ j, 0 ≤ j → j < 241 → τ 113 j = σ 114 j) ∧ ∀ j, 241 ≤ j → τ 113 j = σ 113 j)
theorem rdB {σ ρ : jS} (hN : okN σ) {b : Int} (hb : 0 ≤ b ∧ b < σ 113 4) (h : ∀ j, 0 ≤ j → j < 241 → (j < 105 + 17 * b + 1 ∨ 105 + 17 * b + 17 ≤ j) → ρ 114 j = σ 113 j) : okH ρ 114 ∧ ρ 114 4 = σ 113 4 ∧ cn ρ 114 b = cn σ 113 b ∧ ∀ q, 0 ≤ q → q < ρ 114 4 → ¬ q = b → vB ρ 114 q := by
  have m1 := hN.1.2.2.2.2.1
  have e : ∀ j, 0 ≤ j → j < 105 → ρ 114 j = σ 113 j := fun j j0 j1 => h j j0 (by omega) (by omega)
  have e4 := e 4 (by decide) (by decide)
  refine ⟨⟨?_, ?_, ?_, ?_, ?_, ?_⟩, e4, ?_, ?_⟩
  · rw [e 0 (by decide) (by decide)]; exact hN.1.1
  · rw [e 1 (by decide) (by decide)]; exact hN.1.2.1
  · rw [e 2 (by decide) (by decide)]; exact hN.1.2.2.1
  · rw [e 3 (by decide) (by decide)]; exact hN.1.2.2.2.1
  · rw [e4]; exact m1
  · intro j j0 j1
    rw [e (5 + j) (by omega) (by omega)]; exact hN.1.2.2.2.2.2 j j0 j1
  · unfold cn; exact h _ (by omega) (by omega) (by omega)
  · intro q q0 q1 qb
    rw [e4] at q1
    have g := hN.2 q q0 q1
    have ec : cn ρ 114 q = cn σ 113 q := by unfold cn; exact h _ (by omega) (by omega) (by omega)
    refine ⟨by rw [ec]; exact g.1, fun i i0 i1 => ?_⟩
    rw [ec] at i1
    have g8 := g.1
    have g2 := g.2 i i0 i1
    have ex : xa ρ 114 q i = xa σ 113 q i := by unfold xa; exact h _ (by omega) (by omega) (by omega)
    have ey : ya ρ 114 q i = ya σ 113 q i := by unfold ya; exact h _ (by omega) (by omega) (by omega)
    rw [ex, ey]; exact g2
/-- the reference takes a band away -/
def RMr (σ τ : jS) (b : Int) : Prop := τ 113 4 = σ 113 4 - 1 ∧ (∀ j, ¬ j = 4 → τ 113 j = if 105 + 17 * b ≤ j ∧ j < 105 + 17 * (σ 113 4 - 1) then σ 113 (j + 17) else σ 113 j) ∧ ∀ j, τ 118 j = if b ≤ j ∧ j < σ 113 4 - 1 then σ 118 (j + 1) else σ 118 j
theorem RMr_N {σ τ : jS} (hN : okN σ) {b : Int} (hb : 0 ≤ b ∧ b < σ 113 4) (h1 : τ 113 4 = σ 113 4 - 1) (h2 : ∀ j, ¬ j = 4 → τ 113 j = if 105 + 17 * b ≤ j ∧ j < 105 + 17 * (σ 113 4 - 1) then σ 113 (j + 17) else σ 113 j) : okN τ := by
  have m1 := hN.1.2.2.2.2.1
  have e : ∀ j, 0 ≤ j → j < 105 → ¬ j = 4 → τ 113 j = σ 113 j := fun j j0 j1 j2 => by rw [h2 j j2, if_neg (by omega)]
  refine ⟨⟨?_, ?_, ?_, ?_, ?_, ?_⟩, ?_⟩
  · rw [e 0 (by decide) (by decide) (by decide)]; exact hN.1.1
  · rw [e 1 (by decide) (by decide) (by decide)]; exact hN.1.2.1
  · rw [e 2 (by decide) (by decide) (by decide)]; exact hN.1.2.2.1
  · rw [e 3 (by decide) (by decide) (by decide)]; exact hN.1.2.2.2.1
  · rw [h1]; omega
  · intro j j0 j1
    rw [e (5 + j) (by omega) (by omega) (by omega)]; exact hN.1.2.2.2.2.2 j j0 j1
  · intro q q0 q1
    rw [h1] at q1
    by_cases qb : b ≤ q
    · have g := hN.2 (q + 1) (by omega) (by omega)
      have ec : cn τ 113 q = cn σ 113 (q + 1) := by unfold cn; rw [h2 _ (by omega), if_pos (by omega)]; congr 1; omega
      refine ⟨by rw [ec]; exact g.1, fun i i0 i1 => ?_⟩
      rw [ec] at i1
      have g8 := g.1
      have g2 := g.2 i i0 i1
      have ex : xa τ 113 q i = xa σ 113 (q + 1) i := by unfold xa; rw [h2 _ (by omega), if_pos (by omega)]; congr 1; omega
      have ey : ya τ 113 q i = ya σ 113 (q + 1) i := by unfold ya; rw [h2 _ (by omega), if_pos (by omega)]; congr 1; omega
      rw [ex, ey]; exact g2
    · have g := hN.2 q (by omega) (by omega)
      have ec : cn τ 113 q = cn σ 113 q := by unfold cn; rw [h2 _ (by omega), if_neg (by omega)]
      refine ⟨by rw [ec]; exact g.1, fun i i0 i1 => ?_⟩
      rw [ec] at i1
      have g8 := g.1
      have g2 := g.2 i i0 i1
      have ex : xa τ 113 q i = xa σ 113 q i := by unfold xa; rw [h2 _ (by omega), if_neg (by omega)]
      have ey : ya τ 113 q i = ya σ 113 q i := by unfold ya; rw [h2 _ (by omega), if_neg (by omega)]
      rw [ex, ey]; exact g2
set_option maxRecDepth 100000 in
set_option maxHeartbeats 4000000 in
theorem c_X13_move {σ : jS} (hN : okN σ) (hp : cB 8 (σ 111 27)) {b i p : Int} (hb : iR b) (hi : iR i) (hpp : iR p) : Jm 9 miX13_move [.ref 111, vI b, vI i, vI p] σ (fun r τ => (¬ (((0 ≤ b ∧ b < σ 113 4) ∧ 0 ≤ i ∧ i < cn σ 113 b) ∧ 0 ≤ p ∧ p % 10 < σ 113 0 ∧ p / 10 < σ 113 1) → r = some (vI (-1)) ∧ τ = ju σ 111 0 0) ∧ ((((0 ≤ b ∧ b < σ 113 4) ∧ 0 ≤ i ∧ i < cn σ 113 b) ∧ 0 ≤ p ∧ p % 10 < σ 113 0 ∧ p / 10 < σ 113 1) → ∃ ρ, mdT [0] [114] σ ρ ∧ ρ 111 0 = 0 ∧ (∀ j, 0 ≤ j → j < 241 → ρ 114 j = if j = 105 + 17 * b + 1 + 2 * i then p % 10 else if j = 105 + 17 * b + 2 + 2 * i then p / 10 else σ 113 j) ∧ r = some (vI (wrF (cn ρ 114 b) (cP ρ 114 b) (pkR ρ 114) (ρ 114 2) (ρ 114 4) b (cn ρ 114) (rP ρ 114))) ∧ CH ρ τ (wrF (cn ρ 114 b) (cP ρ 114 b) (pkR ρ 114) (ρ 114 2) (ρ 114 4) b (cn ρ 114) (rP ρ 114)))) := by
  refine jm_ofF (Po := (fun r τ => (¬ (((0 ≤ b ∧ b < σ 113 4) ∧ 0 ≤ i ∧ i < cn σ 113 b) ∧ 0 ≤ p ∧ p % 10 < σ 113 0 ∧ p / 10 < σ 113 1) → r = some (vI (-1)) ∧ τ = ju σ 111 0 0) ∧ ((((0 ≤ b ∧ b < σ 113 4) ∧ 0 ≤ i ∧ i < cn σ 113 b) ∧ 0 ≤ p ∧ p % 10 < σ 113 0 ∧ p / 10 < σ 113 1) → ∃ ρ, mdT [0] [114] σ ρ ∧ ρ 111 0 = 0 ∧ (∀ j, 0 ≤ j → j < 241 → ρ 114 j = if j = 105 + 17 * b + 1 + 2 * i then p % 10 else if j = 105 + 17 * b + 2 + 2 * i then p / 10 else σ 113 j) ∧ r = some (vI (wrF (cn ρ 114 b) (cP ρ 114 b) (pkR ρ 114) (ρ 114 2) (ρ 114 4) b (cn ρ 114) (rP ρ 114))) ∧ CH ρ τ (wrF (cn ρ 114 b) (cP ρ 114 b) (pkR ρ 114) (ρ 114 2) (ρ 114 4) b (cn ρ 114) (rP ρ 114))))) (plainFor_of_name (by decide)) (Nat.le_of_ble_eq_true rfl) (lv := [(0, _), (1, _), (2, _), (3, _)]) rfl ?_
  refine r_aload_n (dc dkX13_move 0 rfl) rfl (np 1 rfl ?_)
  refine r_iconst (dc dkX13_move 1 rfl) (np 2 rfl ?_)
  refine r_pI 0 (dc dkX13_move 2 rfl) fpX13_94 fd_111_0 rfl (np 5 rfl ?_)
  refine r_abs (fun ρ => ρ = ju σ 111 0 0) rfl ?_
  intro σ0 hσ0
  have e0 : σ0 113 = σ 113 := by rw [hσ0]; exact ju_off _ _ _ _ _ (by decide)
  have hN0 := okN_c hN e0
  have e4 : σ0 113 4 = σ 113 4 := by rw [e0]
  have ec : ∀ b, cn σ0 113 b = cn σ 113 b := cn_c e0
  have eP : ∀ b, rP σ0 113 b = rP σ 113 b := rP_c2 e0
  have m1 := hN.1.2.2.2.2.1
  have w1 := hN.1.1
  have w2 := hN.1.2.1
  have k0 : ∀ c, ¬ c = 111 → σ0 c = σ c := fun c hc => by rw [hσ0]; exact ju_off _ _ _ _ _ hc
  have p0 : cB 8 (σ0 111 27) := by rw [hσ0, ju_ne (by decide)]; exact hp
  have z0 : σ0 111 0 = 0 := by rw [hσ0]; exact ju_at _ _ _ _
  have t0 : mdT [0] [114] σ σ0 := by rw [hσ0]; exact (mdT.refl _ _ _).put (by decide)
  refine r_aload_n (dc dkX13_move 3 rfl) rfl (np 6 rfl ?_)
  refine r_iload_n (dc dkX13_move 4 rfl) rfl (np 7 rfl ?_)
  refine r_pV1 (y' := miX13_isBand) (dc dkX13_move 5 rfl) mlX13_304 ceX13_isBand ob_111 (Nat.le_of_ble_eq_true rfl) (Nat.le_of_ble_eq_true rfl) (c_X13_isBand hN0 (by omega)) (np 10 rfl ?_)
  refine r_bz (tgt := 34) (dc dkX13_move 6 rfl) rfl (fun h10 => ?_) (fun h10 => (np 13 rfl ?_))
  · skip
    refine r_iconst (dc dkX13_move 18 rfl) (np 35 rfl ?_)
    exact r_iret (dc dkX13_move 19 rfl) rfl ⟨fun _ => ⟨rfl, hσ0⟩, fun z => by first | exact absurd z.2 (by rw [e0] at h31; exact h31) | (rw [e4] at h10; exact absurd z.1.1 h10) | (exfalso; omega)⟩
  rw [e4] at h10
  have nb := (hN.2 b (by omega) (by omega)).1
  have ecb := ec b
  refine r_iload_n (dc dkX13_move 7 rfl) rfl (np 14 rfl ?_)
  refine r_if_lt (tgt := 34) (dc dkX13_move 8 rfl) rfl (by first | assumption | decide | omega) (fun h14 => ?_) (fun h14 => (np 17 rfl ?_))
  · skip
    refine r_iconst (dc dkX13_move 18 rfl) (np 35 rfl ?_)
    exact r_iret (dc dkX13_move 19 rfl) rfl ⟨fun _ => ⟨rfl, hσ0⟩, fun z => by first | exact absurd z.2 (by rw [e0] at h31; exact h31) | (rw [e4] at h10; exact absurd z.1.1 h10) | (exfalso; omega)⟩
  refine r_iload_n (dc dkX13_move 9 rfl) rfl (np 18 rfl ?_)
  refine r_aload_n (dc dkX13_move 10 rfl) rfl (np 19 rfl ?_)
  refine r_iload_n (dc dkX13_move 11 rfl) rfl (np 20 rfl ?_)
  refine r_pV1 (y' := miX13_corners) (dc dkX13_move 12 rfl) mlX13_279 ceX13_corners ob_111 (Nat.le_of_ble_eq_true rfl) (Nat.le_of_ble_eq_true rfl) (c_X13_corners (by omega)) (np 23 rfl ?_)
  refine r_icmp_ge (tgt := 34) (dc dkX13_move 13 rfl) rfl (by first | assumption | decide | omega) (by first | assumption | decide | omega) (fun h23 => ?_) (fun h23 => (np 26 rfl ?_))
  · skip
    refine r_iconst (dc dkX13_move 18 rfl) (np 35 rfl ?_)
    exact r_iret (dc dkX13_move 19 rfl) rfl ⟨fun _ => ⟨rfl, hσ0⟩, fun z => by first | exact absurd z.2 (by rw [e0] at h31; exact h31) | (rw [e4] at h10; exact absurd z.1.1 h10) | (exfalso; omega)⟩
  refine r_aload_n (dc dkX13_move 14 rfl) rfl (np 27 rfl ?_)
  refine r_iload_n (dc dkX13_move 15 rfl) rfl (np 28 rfl ?_)
  refine r_pV1 (y' := miX13_isAt) (dc dkX13_move 16 rfl) mlX13_282 ceX13_isAt ob_111 (Nat.le_of_ble_eq_true rfl) (Nat.le_of_ble_eq_true rfl) (c_X13_isAt hN0 hpp) (np 31 rfl ?_)
  refine r_bn (tgt := 36) (dc dkX13_move 17 rfl) rfl (fun h31 => ?_) (fun h31 => (np 34 rfl ?_))
  · skip
    rw [e0] at h31
    refine r_aload_n (dc dkX13_move 20 rfl) rfl (np 37 rfl ?_)
    refine r_cV0 (y' := miX13_layRead) (dc dkX13_move 21 rfl) mlX13_365 ceX13_layRead ob_111 (Nat.le_of_ble_eq_true rfl) (Nat.le_of_ble_eq_true rfl) (c_X13_layRead ) (fun r τ3 hp3 => (np 40 rfl ?_))
    obtain ⟨rfl, s3, l3, o3⟩ := hp3
    refine r_aload_n (dc dkX13_move 22 rfl) rfl (np 41 rfl ?_)
    refine r_getR (dc dkX13_move 23 rfl) flX13_16 fd_111_16 (np 44 rfl ?_)
    refine r_bipush (dc dkX13_move 24 rfl) bp_105 (np 46 rfl ?_)
    refine r_bipush (dc dkX13_move 25 rfl) bp_17 (np 48 rfl ?_)
    refine r_iload_n (dc dkX13_move 26 rfl) rfl (np 49 rfl ?_)
    refine r_imul (dc dkX13_move 27 rfl) (np 50 rfl ?_)
    refine r_iadd (dc dkX13_move 28 rfl) (np 51 rfl ?_)
    refine r_iconst (dc dkX13_move 29 rfl) (np 52 rfl ?_)
    refine r_iadd (dc dkX13_move 30 rfl) (np 53 rfl ?_)
    refine r_iconst (dc dkX13_move 31 rfl) (np 54 rfl ?_)
    refine r_iload_n (dc dkX13_move 32 rfl) rfl (np 55 rfl ?_)
    refine r_imul (dc dkX13_move 33 rfl) (np 56 rfl ?_)
    refine r_iadd (dc dkX13_move 34 rfl) (np 57 rfl ?_)
    refine r_iload_n (dc dkX13_move 35 rfl) rfl (np 58 rfl ?_)
    refine r_bipush (dc dkX13_move 36 rfl) bp_10 (np 60 rfl ?_)
    refine r_iremn (dc dkX13_move 37 rfl) (by first | assumption | decide | omega) (by first | assumption | decide | omega) (np 61 rfl ?_)
    refine r_iast (dc dkX13_move 38 rfl) ar_114 (by omega) (np 62 rfl ?_)
    refine r_aload_n (dc dkX13_move 39 rfl) rfl (np 63 rfl ?_)
    refine r_getR (dc dkX13_move 40 rfl) flX13_16 fd_111_16 (np 66 rfl ?_)
    refine r_bipush (dc dkX13_move 41 rfl) bp_105 (np 68 rfl ?_)
    refine r_bipush (dc dkX13_move 42 rfl) bp_17 (np 70 rfl ?_)
    refine r_iload_n (dc dkX13_move 43 rfl) rfl (np 71 rfl ?_)
    refine r_imul (dc dkX13_move 44 rfl) (np 72 rfl ?_)
    refine r_iadd (dc dkX13_move 45 rfl) (np 73 rfl ?_)
    refine r_iconst (dc dkX13_move 46 rfl) (np 74 rfl ?_)
    refine r_iadd (dc dkX13_move 47 rfl) (np 75 rfl ?_)
    refine r_iconst (dc dkX13_move 48 rfl) (np 76 rfl ?_)
    refine r_iload_n (dc dkX13_move 49 rfl) rfl (np 77 rfl ?_)
    refine r_imul (dc dkX13_move 50 rfl) (np 78 rfl ?_)
    refine r_iadd (dc dkX13_move 51 rfl) (np 79 rfl ?_)
    refine r_iload_n (dc dkX13_move 52 rfl) rfl (np 80 rfl ?_)
    refine r_bipush (dc dkX13_move 53 rfl) bp_10 (np 82 rfl ?_)
    refine r_idivn (dc dkX13_move 54 rfl) (by first | assumption | decide | omega) (by first | assumption | decide | omega) (np 83 rfl ?_)
    refine r_iast (dc dkX13_move 55 rfl) ar_114 (by omega) (np 84 rfl ?_)
    refine r_abs (fun ρ => mdT [0] [114] σ ρ ∧ ρ 111 0 = 0 ∧ ρ 111 27 = σ0 111 27 ∧ ∀ j, 0 ≤ j → j < 241 → ρ 114 j = if j = 105 + 17 * b + 1 + 2 * i then p % 10 else if j = 105 + 17 * b + 2 + 2 * i then p / 10 else σ 113 j) ?_ ?_
    · have t3 : mdT [0] [114] σ0 τ3 := ⟨fun c h1 h2 => s3 c h2, fun j _ => by rw [s3 111 (by decide)]⟩
      refine ⟨((t0.tr t3).row (by decide) (by decide)).row (by decide) (by decide), ?_, ?_, fun j j0 j1 => ?_⟩
      · rw [ju_off _ _ _ _ _ (by decide), ju_off _ _ _ _ _ (by decide), s3 111 (by decide)]; exact z0
      · rw [ju_off _ _ _ _ _ (by decide), ju_off _ _ _ _ _ (by decide), s3 111 (by decide)]
      · by_cases y1 : j = 105 + 17 * b + 1 + 2 * i
        · rw [if_pos y1, y1, ju_ne (by omega), ju_at]
        · rw [if_neg y1]
          by_cases y2 : j = 105 + 17 * b + 2 + 2 * i
          · rw [if_pos y2, y2, ju_at]
          · rw [if_neg y2, ju_ne (by omega), ju_ne (by omega), l3 j j0 j1, e0]
    intro ρ hF
    obtain ⟨F1, F2, F3, F4⟩ := hF
    have oC : cB 8 (ρ 111 27) := by rw [F3]; exact p0
    obtain ⟨oH, oM, oc, oO⟩ := rdB (ρ := ρ) hN h10 (fun j j0 j1 j2 => by rw [F4 j j0 j1, if_neg (by omega), if_neg (by omega)])
    have oN : 3 ≤ cn ρ 114 b ∧ cn ρ 114 b ≤ 8 := by rw [oc]; exact nb
    have oX : ∀ c, 0 ≤ c → c < cn ρ 114 b → (-1000 ≤ xa ρ 114 b c ∧ xa ρ 114 b c ≤ 1000) ∧ (-1000 ≤ ya ρ 114 b c ∧ ya ρ 114 b c ≤ 1000) := fun c c0 c1 => by
      rw [oc] at c1
      have g := (hN.2 b h10.1 h10.2).2 c c0 c1
      unfold xa ya at g ⊢
      rw [F4 _ (by omega) (by omega), F4 _ (by omega) (by omega)]
      refine ⟨?_, ?_⟩
      · split
        · omega
        · split <;> omega
      · split
        · omega
        · split <;> omega
    refine r_aload_n (dc dkX13_move 56 rfl) rfl (np 85 rfl ?_)
    refine r_iload_n (dc dkX13_move 57 rfl) rfl (np 86 rfl ?_)
    refine r_cV1 (y' := miX13_change) (dc dkX13_move 58 rfl) mlX13_368 ceX13_change ob_111 (Nat.le_of_ble_eq_true rfl) (Nat.le_of_ble_eq_true rfl) (c_X13_change oC oH (by omega) oN oX oO) (fun r τ5 hp5 => (np 89 rfl ?_))
    obtain ⟨rfl, hk5⟩ := hp5
    replace hk5 : CH ρ τ5 (wrF (cn ρ 114 b) (cP ρ 114 b) (pkR ρ 114) (ρ 114 2) (ρ 114 4) b (cn ρ 114) (rP ρ 114)) := hk5
    exact r_iret (dc dkX13_move 59 rfl) rfl ⟨fun z => absurd ⟨⟨h10, by omega⟩, h31⟩ z, fun _ => ⟨ρ, F1, F2, F4, rfl, hk5⟩⟩
  refine r_iconst (dc dkX13_move 18 rfl) (np 35 rfl ?_)
  exact r_iret (dc dkX13_move 19 rfl) rfl ⟨fun _ => ⟨rfl, hσ0⟩, fun z => by first | exact absurd z.2 (by rw [e0] at h31; exact h31) | (rw [e4] at h10; exact absurd z.1.1 h10) | (exfalso; omega)⟩
