set_option maxRecDepth 100000 in
set_option maxHeartbeats 4000000 in
theorem c_X13_slide {σ : jS} (hN : okN σ) (hp : cB 8 (σ 111 27)) {b x y : Int} (hb : iR b) (hx : iR x) (hy : iR y) : Jm 9 miX13_slide [.ref 111, vI b, vI x, vI y] σ (fun r τ => (¬ (0 ≤ b ∧ b < σ 113 4) → r = some (vI (-1)) ∧ τ = ju σ 111 0 0) ∧ ((0 ≤ b ∧ b < σ 113 4) → ¬ (∀ j, 0 ≤ j → j < cn σ 113 b → 0 ≤ xa σ 113 b j + x ∧ xa σ 113 b j + x < σ 113 0 ∧ 0 ≤ ya σ 113 b j + y ∧ ya σ 113 b j + y < σ 113 1) → r = some (vI 1) ∧ mdT [0] [114] σ τ ∧ τ 111 0 = 0) ∧ ((0 ≤ b ∧ b < σ 113 4) → (∀ j, 0 ≤ j → j < cn σ 113 b → 0 ≤ xa σ 113 b j + x ∧ xa σ 113 b j + x < σ 113 0 ∧ 0 ≤ ya σ 113 b j + y ∧ ya σ 113 b j + y < σ 113 1) → ∃ ρ, mdT [0] [114] σ ρ ∧ ρ 111 0 = 0 ∧ (∀ j, 0 ≤ j → j < 241 → (j < 105 + 17 * b + 1 ∨ 105 + 17 * b + 17 ≤ j) → ρ 114 j = σ 113 j) ∧ (∀ c, 0 ≤ c → c < cn σ 113 b → xa ρ 114 b c = xa σ 113 b c + x ∧ ya ρ 114 b c = ya σ 113 b c + y) ∧ r = some (vI (wrF (cn ρ 114 b) (cP ρ 114 b) (pkR ρ 114) (ρ 114 2) (ρ 114 4) b (cn ρ 114) (rP ρ 114))) ∧ CH ρ τ (wrF (cn ρ 114 b) (cP ρ 114 b) (pkR ρ 114) (ρ 114 2) (ρ 114 4) b (cn ρ 114) (rP ρ 114)))) := by
  refine jm_ofF (Po := (fun r τ => (¬ (0 ≤ b ∧ b < σ 113 4) → r = some (vI (-1)) ∧ τ = ju σ 111 0 0) ∧ ((0 ≤ b ∧ b < σ 113 4) → ¬ (∀ j, 0 ≤ j → j < cn σ 113 b → 0 ≤ xa σ 113 b j + x ∧ xa σ 113 b j + x < σ 113 0 ∧ 0 ≤ ya σ 113 b j + y ∧ ya σ 113 b j + y < σ 113 1) → r = some (vI 1) ∧ mdT [0] [114] σ τ ∧ τ 111 0 = 0) ∧ ((0 ≤ b ∧ b < σ 113 4) → (∀ j, 0 ≤ j → j < cn σ 113 b → 0 ≤ xa σ 113 b j + x ∧ xa σ 113 b j + x < σ 113 0 ∧ 0 ≤ ya σ 113 b j + y ∧ ya σ 113 b j + y < σ 113 1) → ∃ ρ, mdT [0] [114] σ ρ ∧ ρ 111 0 = 0 ∧ (∀ j, 0 ≤ j → j < 241 → (j < 105 + 17 * b + 1 ∨ 105 + 17 * b + 17 ≤ j) → ρ 114 j = σ 113 j) ∧ (∀ c, 0 ≤ c → c < cn σ 113 b → xa ρ 114 b c = xa σ 113 b c + x ∧ ya ρ 114 b c = ya σ 113 b c + y) ∧ r = some (vI (wrF (cn ρ 114 b) (cP ρ 114 b) (pkR ρ 114) (ρ 114 2) (ρ 114 4) b (cn ρ 114) (rP ρ 114))) ∧ CH ρ τ (wrF (cn ρ 114 b) (cP ρ 114 b) (pkR ρ 114) (ρ 114 2) (ρ 114 4) b (cn ρ 114) (rP ρ 114))))) (plainFor_of_name (by decide)) (Nat.le_of_ble_eq_true rfl) (lv := [(0, _), (1, _), (2, _), (3, _)]) rfl ?_
  refine r_aload_n (dc dkX13_slide 0 rfl) rfl (np 1 rfl ?_)
  refine r_iconst (dc dkX13_slide 1 rfl) (np 2 rfl ?_)
  refine r_pI 0 (dc dkX13_slide 2 rfl) fpX13_94 fd_111_0 rfl (np 5 rfl ?_)
  refine r_abs (fun ρ => ρ = ju σ 111 0 0) rfl ?_
  intro σ0 hσ0
  have e0 : σ0 113 = σ 113 := by rw [hσ0]; exact ju_off _ _ _ _ _ (by decide)
  have hN0 := okN_c hN e0
  have e4 : σ0 113 4 = σ 113 4 := by rw [e0]
  have ec : ∀ b, cn σ0 113 b = cn σ 113 b := cn_c e0
  have eP : ∀ b, rP σ0 113 b = rP σ 113 b := rP_c2 e0
  have m1 := hN.1.2.2.2.2.1
  have w1 := hN.1.1
  have w2 := hN.1.2.1
  have k0 : ∀ c, ¬ c = 111 → σ0 c = σ c := fun c hc => by rw [hσ0]; exact ju_off _ _ _ _ _ hc
  have p0 : cB 8 (σ0 111 27) := by rw [hσ0, ju_ne (by decide)]; exact hp
  have z0 : σ0 111 0 = 0 := by rw [hσ0]; exact ju_at _ _ _ _
  have t0 : mdT [0] [114] σ σ0 := by rw [hσ0]; exact (mdT.refl _ _ _).put (by decide)
  refine r_aload_n (dc dkX13_slide 3 rfl) rfl (np 6 rfl ?_)
  refine r_iload_n (dc dkX13_slide 4 rfl) rfl (np 7 rfl ?_)
  refine r_pV1 (y' := miX13_isBand) (dc dkX13_slide 5 rfl) mlX13_304 ceX13_isBand ob_111 (Nat.le_of_ble_eq_true rfl) (Nat.le_of_ble_eq_true rfl) (c_X13_isBand hN0 (by omega)) (np 10 rfl ?_)
  refine r_bn (tgt := 15) (dc dkX13_slide 6 rfl) rfl (fun h10 => ?_) (fun h10 => (np 13 rfl ?_))
  · skip
    rw [e4] at h10
    have nb := (hN.2 b (by omega) (by omega)).1
    have ecb := ec b
    have exb : ∀ j, xa σ0 113 b j = xa σ 113 b j := fun j => by unfold xa; rw [e0]
    have eyb : ∀ j, ya σ0 113 b j = ya σ 113 b j := fun j => by unfold ya; rw [e0]
    refine r_aload_n (dc dkX13_slide 9 rfl) rfl (np 16 rfl ?_)
    refine r_cV0 (y' := miX13_layRead) (dc dkX13_slide 10 rfl) mlX13_365 ceX13_layRead ob_111 (Nat.le_of_ble_eq_true rfl) (Nat.le_of_ble_eq_true rfl) (c_X13_layRead ) (fun r τ3 hp3 => (np 19 rfl ?_))
    obtain ⟨rfl, s3, l3, o3⟩ := hp3
    refine r_iconst (dc dkX13_slide 11 rfl) (np 20 rfl ?_)
    refine r_istore (lv' := [(4, _), (0, _), (1, _), (2, _), (3, _)]) (dc dkX13_slide 12 rfl) (Nat.le_of_ble_eq_true rfl) rfl (np 22 rfl ?_)
    refine r_pick [1, 2, 3, 4, 0] (lv' := [(0, _), (1, _), (2, _), (3, _), (4, _)]) rfl ?_
    refine jlp2 (P := fun (i : Int) (ρ : jS) => jR _ _ _ 22 [(0, .ref 111), (1, vI b), (2, vI x), (3, vI y), (4, vI i)] [] ρ) (I := fun (i : Int) (ρ : jS) => (0 ≤ i ∧ i ≤ cn σ 113 b) ∧ mdT [0] [114] σ ρ ∧ ρ 111 0 = 0 ∧ ρ 111 27 = σ0 111 27 ∧ (∀ j, 0 ≤ j → j < 241 → (j < 105 + 17 * b + 1 ∨ 105 + 17 * b + 17 ≤ j) → ρ 114 j = σ 113 j) ∧ (∀ c, 0 ≤ c → c < i → xa ρ 114 b c = xa σ 113 b c + x ∧ ya ρ 114 b c = ya σ 113 b c + y) ∧ ∀ j, 0 ≤ j → j < i → 0 ≤ xa σ 113 b j + x ∧ xa σ 113 b j + x < σ 113 0 ∧ 0 ≤ ya σ 113 b j + y ∧ ya σ 113 b j + y < σ 113 1) (fun (i : Int) (ρ : jS) => (cn σ 113 b - i).toNat) ?_ _ _ (by
          have t3 : mdT [0] [114] σ0 τ3 := ⟨fun c h1 h2 => s3 c h2, fun j _ => by rw [s3 111 (by decide)]⟩
          exact ⟨by omega, t0.tr t3, by rw [s3 111 (by decide)]; exact z0, by rw [s3 111 (by decide)], fun j j0 j1 _ => by rw [l3 j j0 j1, e0], fun _ _ _ => by omega, fun _ _ _ => by omega⟩)
    intro i ρ hI22 ih22
    have U1 := hI22.2.1
    have U2 := hI22.2.2.1
    have U3 := hI22.2.2.2.1
    have U4 := hI22.2.2.2.2.1
    have r0 : ρ 113 = σ 113 := U1.1 113 (by decide) (by decide)
    have hNr := okN_c hN r0
    have rc : ∀ q, cn ρ 113 q = cn σ 113 q := cn_c r0
    have rcb := rc b
    have rm : ρ 113 4 = σ 113 4 := by rw [r0]
    have rx : ∀ j, xa ρ 113 b j = xa σ 113 b j := fun j => by unfold xa; rw [r0]
    have ry : ∀ j, ya ρ 113 b j = ya σ 113 b j := fun j => by unfold ya; rw [r0]
    have rxi := rx i
    have ryi := ry i
    have rw0 : ρ 113 0 = σ 113 0 := by rw [r0]
    have rw1 : ρ 113 1 = σ 113 1 := by rw [r0]
    refine r_iload (dc dkX13_slide 13 rfl) rfl (np 24 rfl ?_)
    refine r_aload_n (dc dkX13_slide 14 rfl) rfl (np 25 rfl ?_)
    refine r_iload_n (dc dkX13_slide 15 rfl) rfl (np 26 rfl ?_)
    refine r_pV1 (y' := miX13_corners) (dc dkX13_slide 16 rfl) mlX13_279 ceX13_corners ob_111 (Nat.le_of_ble_eq_true rfl) (Nat.le_of_ble_eq_true rfl) (c_X13_corners (by omega)) (np 29 rfl ?_)
    refine r_icmp_ge (tgt := 150) (dc dkX13_slide 17 rfl) rfl (by first | assumption | decide | omega) (by first | assumption | decide | omega) (fun h29 => ?_) (fun h29 => (np 32 rfl ?_))
    · skip
      have oC : cB 8 (ρ 111 27) := by rw [U3]; exact p0
      obtain ⟨oH, oM, oc, oO⟩ := rdB (ρ := ρ) hN h10 U4
      have oN : 3 ≤ cn ρ 114 b ∧ cn ρ 114 b ≤ 8 := by rw [oc]; exact nb
      have oX : ∀ c, 0 ≤ c → c < cn ρ 114 b → (-1000 ≤ xa ρ 114 b c ∧ xa ρ 114 b c ≤ 1000) ∧ (-1000 ≤ ya ρ 114 b c ∧ ya ρ 114 b c ≤ 1000) := fun c c0 c1 => by
        rw [oc] at c1
        have g := hI22.2.2.2.2.2.1 c c0 (by omega)
        have g2 := hI22.2.2.2.2.2.2 c c0 (by omega)
        rw [g.1, g.2]
        omega
      refine r_aload_n (dc dkX13_slide 96 rfl) rfl (np 151 rfl ?_)
      refine r_iload_n (dc dkX13_slide 97 rfl) rfl (np 152 rfl ?_)
      refine r_cV1 (y' := miX13_change) (dc dkX13_slide 98 rfl) mlX13_368 ceX13_change ob_111 (Nat.le_of_ble_eq_true rfl) (Nat.le_of_ble_eq_true rfl) (c_X13_change oC oH (by omega) oN oX oO) (fun r τ5 hp5 => (np 155 rfl ?_))
      obtain ⟨rfl, hk5⟩ := hp5
      replace hk5 : CH ρ τ5 (wrF (cn ρ 114 b) (cP ρ 114 b) (pkR ρ 114) (ρ 114 2) (ρ 114 4) b (cn ρ 114) (rP ρ 114)) := hk5
      exact r_iret (dc dkX13_slide 99 rfl) rfl ⟨fun z => absurd h10 z, fun _ z => absurd (fun j j0 j1 => hI22.2.2.2.2.2.2 j j0 (by omega)) z, fun _ _ => ⟨ρ, U1, U2, U4, fun c c0 c1 => hI22.2.2.2.2.2.1 c c0 (by omega), rfl, hk5⟩⟩
    have gi := (hN.2 b h10.1 h10.2).2 i (by omega) (by omega)
    have im : i % cn σ 113 b = i := Int.emod_eq_of_lt (by omega) (by omega)
    have px : rP ρ 113 b i % 10 = xa σ 113 b i := by rw [rP_c2 r0 b, rP_x (hN.2 b h10.1 h10.2) i, im]
    have py : rP ρ 113 b i / 10 = ya σ 113 b i := by rw [rP_c2 r0 b, rP_y (hN.2 b h10.1 h10.2) i, im]
    refine r_aload_n (dc dkX13_slide 18 rfl) rfl (np 33 rfl ?_)
    refine r_iload_n (dc dkX13_slide 19 rfl) rfl (np 34 rfl ?_)
    refine r_iload (dc dkX13_slide 20 rfl) rfl (np 36 rfl ?_)
    refine r_pV2 (y' := miX13_x) (dc dkX13_slide 21 rfl) mlX13_285 ceX13_x ob_111 (Nat.le_of_ble_eq_true rfl) (Nat.le_of_ble_eq_true rfl) (c_X13_x hNr (by omega) (by omega) (by omega)) (np 39 rfl ?_)
    refine r_i2l (dc dkX13_slide 22 rfl) (by first | assumption | decide | omega) (np 40 rfl ?_)
    refine r_iload_n (dc dkX13_slide 23 rfl) rfl (np 41 rfl ?_)
    refine r_i2l (dc dkX13_slide 24 rfl) (by first | assumption | decide | omega) (np 42 rfl ?_)
    refine r_ladd (dc dkX13_slide 25 rfl) (np 43 rfl ?_)
    refine r_lstore (lv' := [(5, _), (0, _), (1, _), (2, _), (3, _), (4, _)]) (dc dkX13_slide 26 rfl) (Nat.le_of_ble_eq_true rfl) rfl (np 45 rfl ?_)
    refine r_aload_n (dc dkX13_slide 27 rfl) rfl (np 46 rfl ?_)
    refine r_iload_n (dc dkX13_slide 28 rfl) rfl (np 47 rfl ?_)
    refine r_iload (dc dkX13_slide 29 rfl) rfl (np 49 rfl ?_)
    refine r_pV2 (y' := miX13_y) (dc dkX13_slide 30 rfl) mlX13_289 ceX13_y ob_111 (Nat.le_of_ble_eq_true rfl) (Nat.le_of_ble_eq_true rfl) (c_X13_y hNr (by omega) (by omega) (by omega)) (np 52 rfl ?_)
    refine r_i2l (dc dkX13_slide 31 rfl) (by first | assumption | decide | omega) (np 53 rfl ?_)
    refine r_iload_n (dc dkX13_slide 32 rfl) rfl (np 54 rfl ?_)
    refine r_i2l (dc dkX13_slide 33 rfl) (by first | assumption | decide | omega) (np 55 rfl ?_)
    refine r_ladd (dc dkX13_slide 34 rfl) (np 56 rfl ?_)
    refine r_lstore (lv' := [(7, _), (5, _), (0, _), (1, _), (2, _), (3, _), (4, _)]) (dc dkX13_slide 35 rfl) (Nat.le_of_ble_eq_true rfl) rfl (np 58 rfl ?_)
    refine r_lload (dc dkX13_slide 36 rfl) rfl (np 60 rfl ?_)
    refine r_lconst (dc dkX13_slide 37 rfl) lc_0 (np 61 rfl ?_)
    refine r_lcmp (dc dkX13_slide 38 rfl) (by first | assumption | decide | omega) (by first | assumption | decide | omega) (np 62 rfl ?_)
    refine r_if_lt (tgt := 98) (dc dkX13_slide 39 rfl) rfl (jcmp_R _ _) (fun h62 => ?_) (fun h62 => (np 65 rfl ?_))
    · skip
      unfold jcmp at *
      refine r_iconst (dc dkX13_slide 60 rfl) (np 99 rfl ?_)
      exact r_iret (dc dkX13_slide 61 rfl) rfl ⟨fun z => absurd h10 z, fun _ _ => ⟨rfl, U1, U2⟩, fun _ z => by have zi := z i (by omega) (by omega); exfalso; omega⟩
    refine r_lload (dc dkX13_slide 40 rfl) rfl (np 67 rfl ?_)
    refine r_aload_n (dc dkX13_slide 41 rfl) rfl (np 68 rfl ?_)
    refine r_getR (dc dkX13_slide 42 rfl) flX13_13 fd_111_15 (np 71 rfl ?_)
    refine r_iconst (dc dkX13_slide 43 rfl) (np 72 rfl ?_)
    refine r_iald (dc dkX13_slide 44 rfl) ar_113 (by omega) (np 73 rfl ?_)
    refine r_i2l (dc dkX13_slide 45 rfl) (by first | assumption | decide | omega) (np 74 rfl ?_)
    refine r_lcmp (dc dkX13_slide 46 rfl) (by first | assumption | decide | omega) (by first | assumption | decide | omega) (np 75 rfl ?_)
    refine r_if_ge (tgt := 98) (dc dkX13_slide 47 rfl) rfl (jcmp_R _ _) (fun h75 => ?_) (fun h75 => (np 78 rfl ?_))
    · skip
      unfold jcmp at *
      refine r_iconst (dc dkX13_slide 60 rfl) (np 99 rfl ?_)
      exact r_iret (dc dkX13_slide 61 rfl) rfl ⟨fun z => absurd h10 z, fun _ _ => ⟨rfl, U1, U2⟩, fun _ z => by have zi := z i (by omega) (by omega); exfalso; omega⟩
    refine r_lload (dc dkX13_slide 48 rfl) rfl (np 80 rfl ?_)
    refine r_lconst (dc dkX13_slide 49 rfl) lc_0 (np 81 rfl ?_)
    refine r_lcmp (dc dkX13_slide 50 rfl) (by first | assumption | decide | omega) (by first | assumption | decide | omega) (np 82 rfl ?_)
    refine r_if_lt (tgt := 98) (dc dkX13_slide 51 rfl) rfl (jcmp_R _ _) (fun h82 => ?_) (fun h82 => (np 85 rfl ?_))
    · skip
      unfold jcmp at *
      refine r_iconst (dc dkX13_slide 60 rfl) (np 99 rfl ?_)
      exact r_iret (dc dkX13_slide 61 rfl) rfl ⟨fun z => absurd h10 z, fun _ _ => ⟨rfl, U1, U2⟩, fun _ z => by have zi := z i (by omega) (by omega); exfalso; omega⟩
    refine r_lload (dc dkX13_slide 52 rfl) rfl (np 87 rfl ?_)
    refine r_aload_n (dc dkX13_slide 53 rfl) rfl (np 88 rfl ?_)
    refine r_getR (dc dkX13_slide 54 rfl) flX13_13 fd_111_15 (np 91 rfl ?_)
    refine r_iconst (dc dkX13_slide 55 rfl) (np 92 rfl ?_)
    refine r_iald (dc dkX13_slide 56 rfl) ar_113 (by omega) (np 93 rfl ?_)
    refine r_i2l (dc dkX13_slide 57 rfl) (by first | assumption | decide | omega) (np 94 rfl ?_)
    refine r_lcmp (dc dkX13_slide 58 rfl) (by first | assumption | decide | omega) (by first | assumption | decide | omega) (np 95 rfl ?_)
    refine r_if_lt (tgt := 100) (dc dkX13_slide 59 rfl) rfl (jcmp_R _ _) (fun h95 => ?_) (fun h95 => (np 98 rfl ?_))
    · skip
      unfold jcmp at *
      refine r_aload_n (dc dkX13_slide 62 rfl) rfl (np 101 rfl ?_)
      refine r_getR (dc dkX13_slide 63 rfl) flX13_16 fd_111_16 (np 104 rfl ?_)
      refine r_bipush (dc dkX13_slide 64 rfl) bp_105 (np 106 rfl ?_)
      refine r_bipush (dc dkX13_slide 65 rfl) bp_17 (np 108 rfl ?_)
      refine r_iload_n (dc dkX13_slide 66 rfl) rfl (np 109 rfl ?_)
      refine r_imul (dc dkX13_slide 67 rfl) (np 110 rfl ?_)
      refine r_iadd (dc dkX13_slide 68 rfl) (np 111 rfl ?_)
      refine r_iconst (dc dkX13_slide 69 rfl) (np 112 rfl ?_)
      refine r_iadd (dc dkX13_slide 70 rfl) (np 113 rfl ?_)
      refine r_iconst (dc dkX13_slide 71 rfl) (np 114 rfl ?_)
      refine r_iload (dc dkX13_slide 72 rfl) rfl (np 116 rfl ?_)
      refine r_imul (dc dkX13_slide 73 rfl) (np 117 rfl ?_)
      refine r_iadd (dc dkX13_slide 74 rfl) (np 118 rfl ?_)
      refine r_lload (dc dkX13_slide 75 rfl) rfl (np 120 rfl ?_)
      refine r_l2i (dc dkX13_slide 76 rfl) (np 121 rfl ?_)
      refine r_iast (dc dkX13_slide 77 rfl) ar_114 (by omega) (np 122 rfl ?_)
      refine r_aload_n (dc dkX13_slide 78 rfl) rfl (np 123 rfl ?_)
      refine r_getR (dc dkX13_slide 79 rfl) flX13_16 fd_111_16 (np 126 rfl ?_)
      refine r_bipush (dc dkX13_slide 80 rfl) bp_105 (np 128 rfl ?_)
      refine r_bipush (dc dkX13_slide 81 rfl) bp_17 (np 130 rfl ?_)
      refine r_iload_n (dc dkX13_slide 82 rfl) rfl (np 131 rfl ?_)
      refine r_imul (dc dkX13_slide 83 rfl) (np 132 rfl ?_)
      refine r_iadd (dc dkX13_slide 84 rfl) (np 133 rfl ?_)
      refine r_iconst (dc dkX13_slide 85 rfl) (np 134 rfl ?_)
      refine r_iadd (dc dkX13_slide 86 rfl) (np 135 rfl ?_)
      refine r_iconst (dc dkX13_slide 87 rfl) (np 136 rfl ?_)
      refine r_iload (dc dkX13_slide 88 rfl) rfl (np 138 rfl ?_)
      refine r_imul (dc dkX13_slide 89 rfl) (np 139 rfl ?_)
      refine r_iadd (dc dkX13_slide 90 rfl) (np 140 rfl ?_)
      refine r_lload (dc dkX13_slide 91 rfl) rfl (np 142 rfl ?_)
      refine r_l2i (dc dkX13_slide 92 rfl) (np 143 rfl ?_)
      refine r_iast (dc dkX13_slide 93 rfl) ar_114 (by omega) (np 144 rfl ?_)
      refine r_iinc (lv' := [(4, _), (7, _), (5, _), (0, _), (1, _), (2, _), (3, _)]) (dc dkX13_slide 94 rfl) (Nat.le_of_ble_eq_true rfl) rfl rfl (np 147 rfl ?_)
      refine r_goto (tgt := 22) (dc dkX13_slide 95 rfl) rfl ?_
      refine r_pick [3, 4, 5, 6, 0] rfl ?_
      exact ih22 _ _ (by
            rw [px, py]
            refine ⟨by omega, (U1.row (by decide) (by decide)).row (by decide) (by decide), ?_, ?_, fun j j0 j1 j2 => ?_, fun c c0 c1 => ?_, fun j j0 j1 => ?_⟩
            · rw [ju_off _ _ _ _ _ (by decide), ju_off _ _ _ _ _ (by decide)]; exact U2
            · rw [ju_off _ _ _ _ _ (by decide), ju_off _ _ _ _ _ (by decide)]; exact U3
            · rw [ju_ne (by omega), ju_ne (by omega)]; exact U4 j j0 j1 j2
            · by_cases hc : c = i
              · subst hc
                refine ⟨?_, ?_⟩
                · rw [show ∀ τ : jS, xa τ 114 b c = τ 114 (105 + 17 * b + 1 + 2 * c) from fun _ => rfl, ju_ne (by omega), ju_at]
                · rw [show ∀ τ : jS, ya τ 114 b c = τ 114 (105 + 17 * b + 2 + 2 * c) from fun _ => rfl, ju_at]
              · have g := hI22.2.2.2.2.2.1 c c0 (by omega)
                refine ⟨?_, ?_⟩
                · rw [show ∀ τ : jS, xa τ 114 b c = τ 114 (105 + 17 * b + 1 + 2 * c) from fun _ => rfl, ju_ne (by omega), ju_ne (by omega)]; exact g.1
                · rw [show ∀ τ : jS, ya τ 114 b c = τ 114 (105 + 17 * b + 2 + 2 * c) from fun _ => rfl, ju_ne (by omega), ju_ne (by omega)]; exact g.2
            · by_cases hj : j = i
              · subst hj; omega
              · exact hI22.2.2.2.2.2.2 j j0 (by omega)) (by omega)
    unfold jcmp at *
    refine r_iconst (dc dkX13_slide 60 rfl) (np 99 rfl ?_)
    exact r_iret (dc dkX13_slide 61 rfl) rfl ⟨fun z => absurd h10 z, fun _ _ => ⟨rfl, U1, U2⟩, fun _ z => by have zi := z i (by omega) (by omega); exfalso; omega⟩
  refine r_iconst (dc dkX13_slide 7 rfl) (np 14 rfl ?_)
  exact r_iret (dc dkX13_slide 8 rfl) rfl (by rw [e4] at h10; exact ⟨fun _ => ⟨rfl, hσ0⟩, fun z => absurd z h10, fun z => absurd z h10⟩)
