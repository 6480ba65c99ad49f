/-- the corners that calls name, in the reference -/
def lyR (σ : jS) (i x y c : Int) : Int := plG (σ 113 0) (σ 113 1) (σ 113 243 + wkS (fun q => σ 113 (245 + 2 * q)) i x c) (σ 113 244 + wkS (fun q => σ 113 (246 + 2 * q)) i y c)
theorem rd_ly {σ ρ : jS} (hN : okN σ) (hC : okC (σ 113)) {b i x y : Int} (hb : σ 113 4 ≤ b ∧ b ≤ 8) (h3 : 3 ≤ σ 113 242) (hx : -9 ≤ x ∧ x ≤ 9) (hy : -9 ≤ y ∧ y ≤ 9) (h : ∀ j, 0 ≤ j → j < 105 + 17 * b → ρ 114 j = σ 113 j) (hn : ρ 114 (105 + 17 * b) = σ 113 242)
    (hl : ∀ c, 0 ≤ c → c < σ 113 242 → ρ 114 (105 + 17 * b + 1 + 2 * c) = σ 113 243 + wkS (fun q => σ 113 (245 + 2 * q)) i x c ∧ ρ 114 (105 + 17 * b + 2 + 2 * c) = σ 113 244 + wkS (fun q => σ 113 (246 + 2 * q)) i y c) :
    okH ρ 114 ∧ pkR ρ 114 = pkR σ 113 ∧ ρ 114 2 = σ 113 2 ∧ cn ρ 114 b = σ 113 242 ∧ (cP ρ 114 b = fun c => lyR σ i x y (c % σ 113 242)) ∧ (∀ c, 0 ≤ c → c < cn ρ 114 b → (-1000 ≤ xa ρ 114 b c ∧ xa ρ 114 b c ≤ 1000) ∧ (-1000 ≤ ya ρ 114 b c ∧ ya ρ 114 b c ≤ 1000)) ∧ ∀ q, 0 ≤ q → q < σ 113 4 → vB ρ 114 q ∧ cn ρ 114 q = cn σ 113 q ∧ rP ρ 114 q = rP σ 113 q := by
  have m1 := hN.1.2.2.2.2.1
  have n8 := hC.1
  have e : ∀ j, 0 ≤ j → j < 105 → ρ 114 j = σ 113 j := fun j j0 j1 => h j j0 (by omega)
  have w0 := hN.1.1
  have w1 := hN.1.2.1
  have ec : cn ρ 114 b = σ 113 242 := hn
  have e0 := e 0 (by decide) (by decide)
  have e1 := e 1 (by decide) (by decide)
  refine ⟨⟨?_, ?_, ?_, ?_, ?_, ?_⟩, ?_, e 2 (by decide) (by decide), ec, ?_, ?_, ?_⟩
  · rw [e0]; exact w0
  · rw [e1]; exact w1
  · rw [e 2 (by decide) (by decide)]; exact hN.1.2.2.1
  · rw [e 3 (by decide) (by decide)]; exact hN.1.2.2.2.1
  · rw [e 4 (by decide) (by decide)]; exact m1
  · intro j j0 j1
    rw [e (5 + j) (by omega) (by omega)]; exact hN.1.2.2.2.2.2 j j0 j1
  · funext p
    unfold pkR
    rw [e0, e1]
    split
    · rw [e (5 + p) (by omega) (by omega)]
    · rfl
  · funext c
    have c0 := Int.emod_nonneg c (show σ 113 242 ≠ 0 by omega)
    have c1 := Int.emod_lt_of_pos c (show 0 < σ 113 242 by omega)
    have g := hl (c % σ 113 242) c0 c1
    unfold cP plc lyR plG
    rw [ec, e0, e1, show xa ρ 114 b (c % σ 113 242) = ρ 114 (105 + 17 * b + 1 + 2 * (c % σ 113 242)) from rfl, show ya ρ 114 b (c % σ 113 242) = ρ 114 (105 + 17 * b + 2 + 2 * (c % σ 113 242)) from rfl, g.1, g.2]
  · intro c c0 c1
    rw [ec] at c1
    have g := hl c c0 c1
    have a0 := hC.2.1
    have a1 := hC.2.2.1
    have u := wkS_b (f := fun q => σ 113 (245 + 2 * q)) (i := i) (z := x) (c := c) (A := 9) (by omega) (by decide) hx (fun j j0 j1 => (hC.2.2.2 j j0 (by omega)).1)
    have v := wkS_b (f := fun q => σ 113 (246 + 2 * q)) (i := i) (z := y) (c := c) (A := 9) (by omega) (by decide) hy (fun j j0 j1 => (hC.2.2.2 j j0 (by omega)).2)
    rw [show xa ρ 114 b c = ρ 114 (105 + 17 * b + 1 + 2 * c) from rfl, show ya ρ 114 b c = ρ 114 (105 + 17 * b + 2 + 2 * c) from rfl, g.1, g.2]
    omega
  · intro q q0 q1
    have g := hN.2 q q0 q1
    have g8 := g.1
    have eq : cn ρ 114 q = cn σ 113 q := by unfold cn; exact h _ (by omega) (by omega)
    have ex : ∀ c, 0 ≤ c → c < 8 → xa ρ 114 q c = xa σ 113 q c := fun c c0 c1 => by unfold xa; exact h _ (by omega) (by omega)
    have ey : ∀ c, 0 ≤ c → c < 8 → ya ρ 114 q c = ya σ 113 q c := fun c c0 c1 => by unfold ya; exact h _ (by omega) (by omega)
    refine ⟨⟨by rw [eq]; exact g8, fun c c0 c1 => ?_⟩, eq, ?_⟩
    · rw [eq] at c1
      rw [ex c c0 (by omega), ey c c0 (by omega)]; exact g.2 c c0 c1
    · funext c
      have c0 := Int.emod_nonneg c (show cn σ 113 q ≠ 0 by omega)
      have c1 := Int.emod_lt_of_pos c (show 0 < cn σ 113 q by omega)
      unfold rP
      rw [eq, ex _ c0 (by omega), ey _ c0 (by omega)]
theorem wrF_z {n : Int} {P pk : Int → Int} {bell x : Int} {N : Int → Int} {Q : Int → Int → Int} : wrF n P pk bell 0 x N Q = wrA n P pk := by
  by_cases h : wrA n P pk = 0
  · rw [wrF_0 h (fun z => by obtain ⟨_, o, i, j, g, _⟩ := z; omega), h]
  · exact wrF_n rfl h
set_option maxRecDepth 100000 in
set_option maxHeartbeats 4000000 in
theorem c_X13_lay {σ : jS} (hN : okN σ) (hp : cB 8 (σ 111 27)) (hC : okC (σ 113)) (hF : cB 1 (σ 113 241)) (h3 : ¬ σ 113 241 = 0 → 3 ≤ σ 113 242) : Jm 8 miX13_lay [.ref 111] σ (fun r τ => (σ 113 241 = 0 → r = some (vI (-1)) ∧ τ = ju σ 111 0 0) ∧ (¬ σ 113 241 = 0 → ¬ (smI (fun i => σ 113 (245 + 2 * i + 0)) (σ 113 242) = 0 ∧ smI (fun i => σ 113 (245 + 2 * i + 1)) (σ 113 242) = 0) → r = some (vI 6) ∧ τ = ju σ 111 0 0) ∧ (¬ σ 113 241 = 0 → (smI (fun i => σ 113 (245 + 2 * i + 0)) (σ 113 242) = 0 ∧ smI (fun i => σ 113 (245 + 2 * i + 1)) (σ 113 242) = 0) → ∃ ρ, mdT [0] [114] σ ρ ∧ ρ 111 0 = 0 ∧ (∀ j, 0 ≤ j → j < 241 → (j < 105 + 17 * σ 113 4 ∨ 105 + 17 * σ 113 4 + 17 ≤ j) → ρ 114 j = σ 113 j) ∧ ρ 114 (105 + 17 * σ 113 4) = σ 113 242 ∧ (∀ c, 0 ≤ c → c < σ 113 242 → ρ 114 (105 + 17 * σ 113 4 + 1 + 2 * c) = σ 113 243 + wkS (fun q => σ 113 (245 + 2 * q)) (-1) 0 c ∧ ρ 114 (105 + 17 * σ 113 4 + 2 + 2 * c) = σ 113 244 + wkS (fun q => σ 113 (246 + 2 * q)) (-1) 0 c) ∧ (¬ wrF (σ 113 242) (fun c => lyR σ (-1) 0 0 (c % σ 113 242)) (pkR σ 113) (σ 113 2) (σ 113 4) (σ 113 4) (cn σ 113) (rP σ 113) = 0 → r = some (vI (wrF (σ 113 242) (fun c => lyR σ (-1) 0 0 (c % σ 113 242)) (pkR σ 113) (σ 113 2) (σ 113 4) (σ 113 4) (cn σ 113) (rP σ 113))) ∧ τ = ρ) ∧ (wrF (σ 113 242) (fun c => lyR σ (-1) 0 0 (c % σ 113 242)) (pkR σ 113) (σ 113 2) (σ 113 4) (σ 113 4) (cn σ 113) (rP σ 113) = 0 → (σ 113 4 = 8 → r = some (vI 7) ∧ τ = ρ) ∧ (¬ σ 113 4 = 8 → r = some (vI 0) ∧ ∃ ρ2, SS ρ ρ2 ∧ (∀ c, ¬ c = 113 → ¬ c = 118 → τ c = ρ2 c) ∧ τ 113 4 = σ 113 4 + 1 ∧ (∀ j, 0 ≤ j → j < 241 → ¬ j = 4 → τ 113 j = ρ 114 j) ∧ (∀ j, 241 ≤ j → τ 113 j = σ 113 j) ∧ τ 118 (σ 113 4) = 0 ∧ ∀ j, ¬ j = σ 113 4 → τ 118 j = σ 118 j)))) := by
  refine jm_ofF (Po := (fun r τ => (σ 113 241 = 0 → r = some (vI (-1)) ∧ τ = ju σ 111 0 0) ∧ (¬ σ 113 241 = 0 → ¬ (smI (fun i => σ 113 (245 + 2 * i + 0)) (σ 113 242) = 0 ∧ smI (fun i => σ 113 (245 + 2 * i + 1)) (σ 113 242) = 0) → r = some (vI 6) ∧ τ = ju σ 111 0 0) ∧ (¬ σ 113 241 = 0 → (smI (fun i => σ 113 (245 + 2 * i + 0)) (σ 113 242) = 0 ∧ smI (fun i => σ 113 (245 + 2 * i + 1)) (σ 113 242) = 0) → ∃ ρ, mdT [0] [114] σ ρ ∧ ρ 111 0 = 0 ∧ (∀ j, 0 ≤ j → j < 241 → (j < 105 + 17 * σ 113 4 ∨ 105 + 17 * σ 113 4 + 17 ≤ j) → ρ 114 j = σ 113 j) ∧ ρ 114 (105 + 17 * σ 113 4) = σ 113 242 ∧ (∀ c, 0 ≤ c → c < σ 113 242 → ρ 114 (105 + 17 * σ 113 4 + 1 + 2 * c) = σ 113 243 + wkS (fun q => σ 113 (245 + 2 * q)) (-1) 0 c ∧ ρ 114 (105 + 17 * σ 113 4 + 2 + 2 * c) = σ 113 244 + wkS (fun q => σ 113 (246 + 2 * q)) (-1) 0 c) ∧ (¬ wrF (σ 113 242) (fun c => lyR σ (-1) 0 0 (c % σ 113 242)) (pkR σ 113) (σ 113 2) (σ 113 4) (σ 113 4) (cn σ 113) (rP σ 113) = 0 → r = some (vI (wrF (σ 113 242) (fun c => lyR σ (-1) 0 0 (c % σ 113 242)) (pkR σ 113) (σ 113 2) (σ 113 4) (σ 113 4) (cn σ 113) (rP σ 113))) ∧ τ = ρ) ∧ (wrF (σ 113 242) (fun c => lyR σ (-1) 0 0 (c % σ 113 242)) (pkR σ 113) (σ 113 2) (σ 113 4) (σ 113 4) (cn σ 113) (rP σ 113) = 0 → (σ 113 4 = 8 → r = some (vI 7) ∧ τ = ρ) ∧ (¬ σ 113 4 = 8 → r = some (vI 0) ∧ ∃ ρ2, SS ρ ρ2 ∧ (∀ c, ¬ c = 113 → ¬ c = 118 → τ c = ρ2 c) ∧ τ 113 4 = σ 113 4 + 1 ∧ (∀ j, 0 ≤ j → j < 241 → ¬ j = 4 → τ 113 j = ρ 114 j) ∧ (∀ j, 241 ≤ j → τ 113 j = σ 113 j) ∧ τ 118 (σ 113 4) = 0 ∧ ∀ j, ¬ j = σ 113 4 → τ 118 j = σ 118 j))))) (plainFor_of_name (by decide)) (Nat.le_of_ble_eq_true rfl) (lv := [(0, _)]) rfl ?_
  refine r_aload_n (dc dkX13_lay 0 rfl) rfl (np 1 rfl ?_)
  refine r_iconst (dc dkX13_lay 1 rfl) (np 2 rfl ?_)
  refine r_pI 0 (dc dkX13_lay 2 rfl) fpX13_94 fd_111_0 rfl (np 5 rfl ?_)
  refine r_abs (fun ρ => ρ = ju σ 111 0 0) rfl ?_
  intro σ0 hσ0
  have e0 : σ0 113 = σ 113 := by rw [hσ0]; exact ju_off _ _ _ _ _ (by decide)
  have hN0 := okN_c hN e0
  have e4 : σ0 113 4 = σ 113 4 := by rw [e0]
  have ec : ∀ b, cn σ0 113 b = cn σ 113 b := cn_c e0
  have eP : ∀ b, rP σ0 113 b = rP σ 113 b := rP_c2 e0
  have m1 := hN.1.2.2.2.2.1
  have w1 := hN.1.1
  have w2 := hN.1.2.1
  have k0 : ∀ c, ¬ c = 111 → σ0 c = σ c := fun c hc => by rw [hσ0]; exact ju_off _ _ _ _ _ hc
  have p0 : cB 8 (σ0 111 27) := by rw [hσ0, ju_ne (by decide)]; exact hp
  have z0 : σ0 111 0 = 0 := by rw [hσ0]; exact ju_at _ _ _ _
  have t0 : mdT [0] [114] σ σ0 := by rw [hσ0]; exact (mdT.refl _ _ _).put (by decide)
  have hC0 : okC (σ0 113) := by rw [e0]; exact hC
  have e241 : σ0 113 241 = σ 113 241 := by rw [e0]
  have n8 := hC.1
  refine r_aload_n (dc dkX13_lay 3 rfl) rfl (np 6 rfl ?_)
  refine r_getR (dc dkX13_lay 4 rfl) flX13_13 fd_111_15 (np 9 rfl ?_)
  refine r_sipush (dc dkX13_lay 5 rfl) sp_241 (np 12 rfl ?_)
  refine r_iald (dc dkX13_lay 6 rfl) ar_113 (by omega) (np 13 rfl ?_)
  refine r_if_ne (tgt := 18) (dc dkX13_lay 7 rfl) rfl (by first | assumption | decide | omega) (fun h13 => ?_) (fun h13 => (np 16 rfl ?_))
  · skip
    refine r_aload_n (dc dkX13_lay 10 rfl) rfl (np 19 rfl ?_)
    refine r_pV0 (y' := miX13_doClose) (dc dkX13_lay 11 rfl) mlX13_392 ceX13_doClose ob_111 (Nat.le_of_ble_eq_true rfl) (Nat.le_of_ble_eq_true rfl) (c_X13_doClose hC0) (np 22 rfl ?_)
    refine r_bn (tgt := 28) (dc dkX13_lay 12 rfl) rfl (fun h22 => ?_) (fun h22 => (np 25 rfl ?_))
    · skip
      rw [e0] at h22
      have n3 := h3 (by omega)
      refine r_aload_n (dc dkX13_lay 15 rfl) rfl (np 29 rfl ?_)
      refine r_cV0 (y' := miX13_layRead) (dc dkX13_lay 16 rfl) mlX13_365 ceX13_layRead ob_111 (Nat.le_of_ble_eq_true rfl) (Nat.le_of_ble_eq_true rfl) (c_X13_layRead ) (fun r τ3 hp3 => (np 32 rfl ?_))
      obtain ⟨rfl, s3, l3, o3⟩ := hp3
      have y34 : τ3 113 4 = σ 113 4 := by rw [s3 113 (by decide), e0]
      have hC3 : okC (τ3 113) := by rw [s3 113 (by decide), e0]; exact hC
      refine r_aload_n (dc dkX13_lay 17 rfl) rfl (np 33 rfl ?_)
      refine r_aload_n (dc dkX13_lay 18 rfl) rfl (np 34 rfl ?_)
      refine r_pV0 (y' := miX13_bands) (dc dkX13_lay 19 rfl) mlX13_276 ceX13_bands ob_111 (Nat.le_of_ble_eq_true rfl) (Nat.le_of_ble_eq_true rfl) (c_X13_bands ) (np 37 rfl ?_)
      refine r_eqI _ y34 ?_
      refine r_iconst (dc dkX13_lay 20 rfl) (np 38 rfl ?_)
      refine r_iconst (dc dkX13_lay 21 rfl) (np 39 rfl ?_)
      refine r_iconst (dc dkX13_lay 22 rfl) (np 40 rfl ?_)
      refine r_cV4 (y' := miX13_layCalls) (dc dkX13_lay 23 rfl) mlX13_395 ceX13_layCalls ob_111 (Nat.le_of_ble_eq_true rfl) (Nat.le_of_ble_eq_true rfl) (c_X13_layCalls hC3 m1 (by decide) (by decide) (by decide)) (fun r τ4 hp4 => (np 43 rfl ?_))
      obtain ⟨rfl, s4, a4, b4, c4⟩ := hp4
      have rr : (mdT [0] [114] σ τ4 ∧ τ4 111 0 = 0 ∧ τ4 111 27 = σ0 111 27) ∧ (∀ j, 0 ≤ j → j < 241 → (j < 105 + 17 * σ 113 4 ∨ 105 + 17 * σ 113 4 + 17 ≤ j) → τ4 114 j = σ 113 j) ∧ τ4 114 (105 + 17 * σ 113 4) = σ 113 242 ∧ (∀ c, 0 ≤ c → c < σ 113 242 → τ4 114 (105 + 17 * σ 113 4 + 1 + 2 * c) = σ 113 243 + wkS (fun q => σ 113 (245 + 2 * q)) (-1) 0 c ∧ τ4 114 (105 + 17 * σ 113 4 + 2 + 2 * c) = σ 113 244 + wkS (fun q => σ 113 (246 + 2 * q)) (-1) 0 c) := by
        have t4 : mdT [0] [114] σ0 τ4 := ⟨fun c h1 h2 => by rw [s4 c h2, s3 c h2], fun j _ => by rw [s4 111 (by decide), s3 111 (by decide)]⟩
        have y113 : τ3 113 = σ 113 := by rw [s3 113 (by decide)]; exact e0
        rw [y113] at b4 c4
        refine ⟨⟨t0.tr t4, by rw [s4 111 (by decide), s3 111 (by decide)]; exact z0, by rw [s4 111 (by decide), s3 111 (by decide)]⟩, fun j j0 j1 j2 => by rw [a4 j j2, l3 j j0 j1, e0], b4, c4⟩
      obtain ⟨⟨F1, F2, F3⟩, F4, F5, F6⟩ := rr
      obtain ⟨oH, oK, o2, oc, oP, oX, oQ⟩ := rd_ly (ρ := τ4) hN hC (b := σ 113 4) (i := -1) (x := 0) (y := 0) ⟨by omega, m1.2⟩ n3 (by decide) (by decide) (fun j j0 j1 => F4 j j0 (by omega) (by omega)) F5 F6
      have y4 : τ4 113 = σ 113 := F1.1 113 (by decide) (by decide)
      have y44 : τ4 113 4 = σ 113 4 := by rw [y4]
      have oN : 3 ≤ cn τ4 114 (σ 113 4) ∧ cn τ4 114 (σ 113 4) ≤ 8 := by rw [oc]; omega
      have eW : wrF (cn τ4 114 (σ 113 4)) (cP τ4 114 (σ 113 4)) (pkR τ4 114) (τ4 114 2) (σ 113 4) (σ 113 4) (cn τ4 114) (rP τ4 114) = wrF (σ 113 242) (fun c => lyR σ (-1) 0 0 (c % σ 113 242)) (pkR σ 113) (σ 113 2) (σ 113 4) (σ 113 4) (cn σ 113) (rP σ 113) := by
        rw [oc, oP, oK, o2]
        exact wrF_c (E5_c (fun o o0 o1 => Iff.rfl) (fun o o0 o1 _ => (oQ o o0 o1).2.1.symm) (fun o o0 o1 _ => (oQ o o0 o1).2.2.symm))
      have wb := wrF_b (σ 113 242) (fun c => lyR σ (-1) 0 0 (c % σ 113 242)) (pkR σ 113) (σ 113 2) (σ 113 4) (σ 113 4) (cn σ 113) (rP σ 113)
      refine r_aload_n (dc dkX13_lay 24 rfl) rfl (np 44 rfl ?_)
      refine r_getR (dc dkX13_lay 25 rfl) flX13_16 fd_111_16 (np 47 rfl ?_)
      refine r_aload_n (dc dkX13_lay 26 rfl) rfl (np 48 rfl ?_)
      refine r_pV0 (y' := miX13_bands) (dc dkX13_lay 27 rfl) mlX13_276 ceX13_bands ob_111 (Nat.le_of_ble_eq_true rfl) (Nat.le_of_ble_eq_true rfl) (c_X13_bands ) (np 51 rfl ?_)
      refine r_eqI _ y44 ?_
      refine r_aload_n (dc dkX13_lay 28 rfl) rfl (np 52 rfl ?_)
      refine r_pV0 (y' := miX13_bands) (dc dkX13_lay 29 rfl) mlX13_276 ceX13_bands ob_111 (Nat.le_of_ble_eq_true rfl) (Nat.le_of_ble_eq_true rfl) (c_X13_bands ) (np 55 rfl ?_)
      refine r_eqI _ y44 ?_
      refine r_pS3 (y' := miX13_wrong) (dc dkX13_lay 30 rfl) mlX13_246 seX13_wrong (Nat.le_of_ble_eq_true rfl) (Nat.le_of_ble_eq_true rfl) (c_X13_wrong ar_114 (by decide) oH m1 m1 oN oX (fun q q0 q1 _ => (oQ q q0 q1).1)) (np 58 rfl ?_)
      refine r_eqI _ eW ?_
      refine r_istore_n (lv' := [(1, _), (0, _)]) (dc dkX13_lay 31 rfl) (Nat.le_of_ble_eq_true rfl) rfl (np 59 rfl ?_)
      refine r_iload_n (dc dkX13_lay 32 rfl) rfl (np 60 rfl ?_)
      refine r_if_eq (tgt := 65) (dc dkX13_lay 33 rfl) rfl (by first | assumption | decide | omega) (fun h60 => ?_) (fun h60 => (np 63 rfl ?_))
      · skip
        refine r_aload_n (dc dkX13_lay 36 rfl) rfl (np 66 rfl ?_)
        refine r_pV0 (y' := miX13_bands) (dc dkX13_lay 37 rfl) mlX13_276 ceX13_bands ob_111 (Nat.le_of_ble_eq_true rfl) (Nat.le_of_ble_eq_true rfl) (c_X13_bands ) (np 69 rfl ?_)
        refine r_eqI _ y44 ?_
        refine r_bipush (dc dkX13_lay 38 rfl) bp_8 (np 71 rfl ?_)
        refine r_icmp_ne (tgt := 77) (dc dkX13_lay 39 rfl) rfl (by first | assumption | decide | omega) (by first | assumption | decide | omega) (fun h71 => ?_) (fun h71 => (np 74 rfl ?_))
        · skip
          refine r_aload_n (dc dkX13_lay 42 rfl) rfl (np 78 rfl ?_)
          refine r_cV0 (y' := miX13_snapShot) (dc dkX13_lay 43 rfl) mlX13_362 ceX13_snapShot ob_111 (Nat.le_of_ble_eq_true rfl) (Nat.le_of_ble_eq_true rfl) (c_X13_snapShot (by rw [F3]; exact p0)) (fun r τ5 hp5 => (np 81 rfl ?_))
          obtain ⟨rfl, hk5⟩ := hp5
          refine r_iconst (dc dkX13_lay 44 rfl) (np 82 rfl ?_)
          refine r_istore_n (lv' := [(2, _), (1, _), (0, _)]) (dc dkX13_lay 45 rfl) (Nat.le_of_ble_eq_true rfl) rfl (np 83 rfl ?_)
          refine r_pick [2, 0] (lv' := [(0, _), (2, _)]) rfl ?_
          refine jlp2 (P := fun (i : Int) (τ : jS) => jR _ _ _ 83 [(0, .ref 111), (2, vI i)] [] τ) (I := fun (i : Int) (τ : jS) => (0 ≤ i ∧ i ≤ 241) ∧ (∀ c, ¬ c = 113 → τ c = τ5 c) ∧ (∀ j, 0 ≤ j → j < i → τ 113 j = τ4 114 j) ∧ ∀ j, i ≤ j → τ 113 j = σ 113 j) (fun (i : Int) (τ : jS) => (241 - i).toNat) ?_ _ _ ⟨by omega, fun _ _ => rfl, fun _ _ _ => by omega, fun j _ => by rw [hk5.1.1 113 (by decide) (by decide), y4]⟩
          intro i τ hI83 ih83
          refine r_iload_n (dc dkX13_lay 46 rfl) rfl (np 84 rfl ?_)
          refine r_sipush (dc dkX13_lay 47 rfl) sp_241 (np 87 rfl ?_)
          refine r_icmp_ge (tgt := 108) (dc dkX13_lay 48 rfl) rfl (by first | assumption | decide | omega) (by first | assumption | decide | omega) (fun h87 => ?_) (fun h87 => (np 90 rfl ?_))
          · skip
            have e9 : τ 113 4 = σ 113 4 := by rw [hI83.2.2.1 4 (by decide) (by omega), F4 4 (by decide) (by decide) (by omega)]
            refine r_aload_n (dc dkX13_lay 59 rfl) rfl (np 109 rfl ?_)
            refine r_getR (dc dkX13_lay 60 rfl) flX13_28 fd_111_20 (np 112 rfl ?_)
            refine r_aload_n (dc dkX13_lay 61 rfl) rfl (np 113 rfl ?_)
            refine r_pV0 (y' := miX13_bands) (dc dkX13_lay 62 rfl) mlX13_276 ceX13_bands ob_111 (Nat.le_of_ble_eq_true rfl) (Nat.le_of_ble_eq_true rfl) (c_X13_bands ) (np 116 rfl ?_)
            refine r_eqI _ e9 ?_
            refine r_lconst (dc dkX13_lay 63 rfl) lc_0 (np 117 rfl ?_)
            refine r_last (dc dkX13_lay 64 rfl) ar_118 (by omega) (np 118 rfl ?_)
            refine r_aload_n (dc dkX13_lay 65 rfl) rfl (np 119 rfl ?_)
            refine r_getR (dc dkX13_lay 66 rfl) flX13_13 fd_111_15 (np 122 rfl ?_)
            refine r_iconst (dc dkX13_lay 67 rfl) (np 123 rfl ?_)
            refine r_dup2 (dc dkX13_lay 68 rfl) ⟨rfl, rfl⟩ (np 124 rfl ?_)
            refine r_iald (dc dkX13_lay 69 rfl) ar_113 (by omega) (np 125 rfl ?_)
            refine r_iconst (dc dkX13_lay 70 rfl) (np 126 rfl ?_)
            refine r_iadd (dc dkX13_lay 71 rfl) (np 127 rfl ?_)
            refine r_iast (dc dkX13_lay 72 rfl) ar_113 (by omega) (np 128 rfl ?_)
            refine r_iconst (dc dkX13_lay 73 rfl) (np 129 rfl ?_)
            exact r_iret (dc dkX13_lay 74 rfl) rfl (by
                have e10 : τ 118 = σ 118 := by rw [hI83.2.1 118 (by decide), hk5.1.1 118 (by decide) (by decide)]; exact F1.1 118 (by decide) (by decide)
                refine ⟨fun z => by exfalso; omega, fun _ z => absurd h22 z, fun _ _ => ⟨τ4, F1, F2, F4, F5, F6, fun z => absurd h60 z, fun _ => ⟨fun z => by exfalso; omega, fun _ => ⟨rfl, τ5, hk5, fun c c1 c2 => ?_, ?_, fun j j0 j1 j2 => ?_, fun j j0 => ?_, ?_, fun j hj => ?_⟩⟩⟩⟩
                · rw [ju_off _ _ _ _ _ c1, ju_off _ _ _ _ _ c2]; exact hI83.2.1 c c1
                · rw [ju_at, ju_off _ _ _ _ _ (by decide), e9]
                · rw [ju_ne (by omega), ju_off _ _ _ _ _ (by decide)]; exact hI83.2.2.1 j j0 (by omega)
                · rw [ju_ne (by omega), ju_off _ _ _ _ _ (by decide)]; exact hI83.2.2.2 j (by omega)
                · rw [ju_off _ _ _ _ _ (by decide), ju_at]
                · rw [ju_off _ _ _ _ _ (by decide), ju_ne (by omega), e10])
          refine r_aload_n (dc dkX13_lay 49 rfl) rfl (np 91 rfl ?_)
          refine r_getR (dc dkX13_lay 50 rfl) flX13_13 fd_111_15 (np 94 rfl ?_)
          refine r_iload_n (dc dkX13_lay 51 rfl) rfl (np 95 rfl ?_)
          refine r_aload_n (dc dkX13_lay 52 rfl) rfl (np 96 rfl ?_)
          refine r_getR (dc dkX13_lay 53 rfl) flX13_16 fd_111_16 (np 99 rfl ?_)
          refine r_iload_n (dc dkX13_lay 54 rfl) rfl (np 100 rfl ?_)
          refine r_iald (dc dkX13_lay 55 rfl) ar_114 (by omega) (np 101 rfl ?_)
          refine r_iast (dc dkX13_lay 56 rfl) ar_113 (by omega) (np 102 rfl ?_)
          refine r_iinc (lv' := [(2, _), (0, _)]) (dc dkX13_lay 57 rfl) (Nat.le_of_ble_eq_true rfl) rfl rfl (np 105 rfl ?_)
          refine r_goto (tgt := 83) (dc dkX13_lay 58 rfl) rfl ?_
          refine r_pick [1, 0] rfl ?_
          exact ih83 _ _ ⟨by omega, fun c hc => by rw [ju_off _ _ _ _ _ hc]; exact hI83.2.1 c hc, fun j j0 j1 => by by_cases hj : j = i; rw [hj, ju_at, hI83.2.1 114 (by decide), hk5.1.1 114 (by decide) (by decide)]; rw [ju_ne (by omega)]; exact hI83.2.2.1 j j0 (by omega), fun j hj => by rw [ju_ne (by omega)]; exact hI83.2.2.2 j (by omega)⟩ (by omega)
        refine r_bipush (dc dkX13_lay 40 rfl) bp_7 (np 76 rfl ?_)
        exact r_iret (dc dkX13_lay 41 rfl) rfl ⟨fun z => by exfalso; omega, fun _ z => absurd h22 z, fun _ _ => ⟨τ4, F1, F2, F4, F5, F6, fun z => absurd h60 z, fun _ => ⟨fun _ => ⟨rfl, rfl⟩, fun z => by exfalso; omega⟩⟩⟩
      refine r_iload_n (dc dkX13_lay 34 rfl) rfl (np 64 rfl ?_)
      exact r_iret (dc dkX13_lay 35 rfl) rfl ⟨fun z => by exfalso; omega, fun _ z => absurd h22 z, fun _ _ => ⟨τ4, F1, F2, F4, F5, F6, fun _ => ⟨rfl, rfl⟩, fun z => absurd z h60⟩⟩
    refine r_bipush (dc dkX13_lay 13 rfl) bp_6 (np 27 rfl ?_)
    exact r_iret (dc dkX13_lay 14 rfl) rfl (by rw [e0] at h22; exact ⟨fun z => by exfalso; omega, fun _ _ => ⟨rfl, hσ0⟩, fun _ z => absurd z h22⟩)
  refine r_iconst (dc dkX13_lay 8 rfl) (np 17 rfl ?_)
  exact r_iret (dc dkX13_lay 9 rfl) rfl ⟨fun _ => ⟨rfl, hσ0⟩, fun z => absurd (show σ 113 241 = 0 by omega) z, fun z => absurd (show σ 113 241 = 0 by omega) z⟩
