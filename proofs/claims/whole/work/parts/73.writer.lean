/-- a row that is not the reference's board stays -/
theorem mdN {σ τ : jS} {X : List Int} {Y : List Nat} (hN : okN σ) (h : mdT X Y σ τ) (hY : 113 ∉ Y) : okN τ ∧ τ 113 4 = σ 113 4 ∧ ∀ b, rP τ 113 b = rP σ 113 b := by
  have e : τ 113 = σ 113 := h.1 113 (by decide) hY
  exact ⟨okN_c hN e, by rw [e], rP_c2 e⟩
theorem rP_mod {σ : jS} {a : Nat} {b i : Int} : rP σ a b (i % cn σ a b) = rP σ a b i := by
  unfold rP
  rw [Int.emod_emod]
/-- how much further the forward way round goes up than down -/
def sgW (P : Int → Int) (n : Int) : Int := smI (fun i => sgn (P (i + 1) % 10 - P i % 10) + sgn (P (i + 1) / 10 - P i / 10)) n
set_option maxRecDepth 100000 in
set_option maxHeartbeats 4000000 in
theorem c_X13_write {σ : jS} (hN : okN σ) {b : Int} (hb : iR b) : Jm 4 miX13_write [.ref 111, vI b] σ (fun r τ => (¬ (0 ≤ b ∧ b < σ 113 4) → r = some (vI (-1)) ∧ τ = ju σ 111 0 0) ∧ ((0 ≤ b ∧ b < σ 113 4) → (∃ ρ, ρ = ju σ 111 0 0 ∧ mdT [36] [130] ρ τ) ∧ r = some (vI (τ 111 36)) ∧ TX (τ 130) (τ 111 36) (atT (rP σ 113 b 0 % 10) (rP σ 113 b 0 / 10) ++ byT (tkX (rP σ 113 b) (cn σ 113 b) (if 0 ≤ sgW (rP σ 113 b) (cn σ 113 b) then 0 else 1)) (tkY (rP σ 113 b) (cn σ 113 b) (if 0 ≤ sgW (rP σ 113 b) (cn σ 113 b) then 0 else 1)) (cn σ 113 b).toNat))) := by
  refine jm_ofF (Po := (fun r τ => (¬ (0 ≤ b ∧ b < σ 113 4) → r = some (vI (-1)) ∧ τ = ju σ 111 0 0) ∧ ((0 ≤ b ∧ b < σ 113 4) → (∃ ρ, ρ = ju σ 111 0 0 ∧ mdT [36] [130] ρ τ) ∧ r = some (vI (τ 111 36)) ∧ TX (τ 130) (τ 111 36) (atT (rP σ 113 b 0 % 10) (rP σ 113 b 0 / 10) ++ byT (tkX (rP σ 113 b) (cn σ 113 b) (if 0 ≤ sgW (rP σ 113 b) (cn σ 113 b) then 0 else 1)) (tkY (rP σ 113 b) (cn σ 113 b) (if 0 ≤ sgW (rP σ 113 b) (cn σ 113 b) then 0 else 1)) (cn σ 113 b).toNat)))) (plainFor_of_name (by decide)) (Nat.le_of_ble_eq_true rfl) (lv := [(0, _), (1, _)]) rfl ?_
  refine r_aload_n (dc dkX13_write 0 rfl) rfl (np 1 rfl ?_)
  refine r_iconst (dc dkX13_write 1 rfl) (np 2 rfl ?_)
  refine r_pI 0 (dc dkX13_write 2 rfl) fpX13_94 fd_111_0 rfl (np 5 rfl ?_)
  refine r_abs (fun ρ => ρ = ju σ 111 0 0) rfl ?_
  intro σ0 hσ0
  have e0 : σ0 113 = σ 113 := by rw [hσ0]; exact ju_off _ _ _ _ _ (by decide)
  have hN0 := okN_c hN e0
  have e4 : σ0 113 4 = σ 113 4 := by rw [e0]
  have ec : ∀ b, cn σ0 113 b = cn σ 113 b := cn_c e0
  have eP : ∀ b, rP σ0 113 b = rP σ 113 b := rP_c2 e0
  have m1 := hN.1.2.2.2.2.1
  have w1 := hN.1.1
  have w2 := hN.1.2.1
  refine r_aload_n (dc dkX13_write 3 rfl) rfl (np 6 rfl ?_)
  refine r_iload_n (dc dkX13_write 4 rfl) rfl (np 7 rfl ?_)
  refine r_pV1 (y' := miX13_isBand) (dc dkX13_write 5 rfl) mlX13_304 ceX13_isBand ob_111 (Nat.le_of_ble_eq_true rfl) (Nat.le_of_ble_eq_true rfl) (c_X13_isBand hN0 (by omega)) (np 10 rfl ?_)
  refine r_bn (tgt := 15) (dc dkX13_write 6 rfl) rfl (fun h10 => ?_) (fun h10 => (np 13 rfl ?_))
  · skip
    rw [e4] at h10
    have nb := (hN.2 b (by omega) (by omega)).1
    have ecb := ec b
    have eN : ∀ i, isPg (rP σ 113 b i) := fun i => rP_p (hN.2 b (by omega) (by omega)) i
    have pg0 : 0 ≤ rP σ 113 b 0 % 10 ∧ 0 ≤ rP σ 113 b 0 / 10 := by have := eN 0; omega
    refine r_aload_n (dc dkX13_write 9 rfl) rfl (np 16 rfl ?_)
    refine r_iload_n (dc dkX13_write 10 rfl) rfl (np 17 rfl ?_)
    refine r_pV1 (y' := miX13_corners) (dc dkX13_write 11 rfl) mlX13_279 ceX13_corners ob_111 (Nat.le_of_ble_eq_true rfl) (Nat.le_of_ble_eq_true rfl) (c_X13_corners (by omega)) (np 20 rfl ?_)
    refine r_eqI (cn σ 113 b) ecb ?_
    refine r_istore_n (lv' := [(2, _), (0, _), (1, _)]) (dc dkX13_write 12 rfl) (Nat.le_of_ble_eq_true rfl) rfl (np 21 rfl ?_)
    refine r_iconst (dc dkX13_write 13 rfl) (np 22 rfl ?_)
    refine r_istore_n (lv' := [(3, _), (2, _), (0, _), (1, _)]) (dc dkX13_write 14 rfl) (Nat.le_of_ble_eq_true rfl) rfl (np 23 rfl ?_)
    refine r_iconst (dc dkX13_write 15 rfl) (np 24 rfl ?_)
    refine r_istore (lv' := [(4, _), (3, _), (2, _), (0, _), (1, _)]) (dc dkX13_write 16 rfl) (Nat.le_of_ble_eq_true rfl) rfl (np 26 rfl ?_)
    refine r_pick [3, 4, 2, 1, 0] (lv' := [(0, _), (1, _), (2, _), (3, _), (4, _)]) rfl ?_
    refine jlp2 (P := fun (s : Int) (i : Int) => jR _ _ _ 26 [(0, .ref 111), (1, vI b), (2, vI (cn σ 113 b)), (3, vI s), (4, vI i)] [] σ0) (I := fun (s : Int) (i : Int) => (0 ≤ i ∧ i ≤ (cn σ 113 b)) ∧ s = sgW (rP σ 113 b) i) (fun (s : Int) (i : Int) => ((cn σ 113 b) - i).toNat) ?_ _ _ ⟨by omega, rfl⟩
    intro s i hI26 ih26
    refine r_iload (dc dkX13_write 17 rfl) rfl (np 28 rfl ?_)
    refine r_iload_n (dc dkX13_write 18 rfl) rfl (np 29 rfl ?_)
    refine r_icmp_ge (tgt := 82) (dc dkX13_write 19 rfl) rfl (by first | assumption | decide | omega) (by first | assumption | decide | omega) (fun h29 => ?_) (fun h29 => (np 32 rfl ?_))
    · skip
      have hs : s = sgW (rP σ 113 b) (cn σ 113 b) := by rw [hI26.2, show i = cn σ 113 b by omega]
      have hsb := smI_b (f := fun i => sgn (rP σ 113 b (i + 1) % 10 - rP σ 113 b i % 10) + sgn (rP σ 113 b (i + 1) / 10 - rP σ 113 b i / 10)) (A := 2) (n := cn σ 113 b) (by omega) (fun i _ _ => by have := sgn_b (rP σ 113 b (i + 1) % 10 - rP σ 113 b i % 10); have := sgn_b (rP σ 113 b (i + 1) / 10 - rP σ 113 b i / 10); omega)
      change _ ≤ sgW (rP σ 113 b) (cn σ 113 b) ∧ sgW (rP σ 113 b) (cn σ 113 b) ≤ _ at hsb
      refine r_iload_n (dc dkX13_write 50 rfl) rfl (np 83 rfl ?_)
      have jj91 : ∀ wy z : Int, (((wy = 1 ∧ z = 0) ∨ (wy = -1 ∧ z = 1)) ∧ z = if 0 ≤ sgW (rP σ 113 b) (cn σ 113 b) then 0 else 1) → jR 4 miX13_write (fun r τ => (¬ (0 ≤ b ∧ b < σ 113 4) → r = some (vI (-1)) ∧ τ = ju σ 111 0 0) ∧ ((0 ≤ b ∧ b < σ 113 4) → (∃ ρ, ρ = ju σ 111 0 0 ∧ mdT [36] [130] ρ τ) ∧ r = some (vI (τ 111 36)) ∧ TX (τ 130) (τ 111 36) (atT (rP σ 113 b 0 % 10) (rP σ 113 b 0 / 10) ++ byT (tkX (rP σ 113 b) (cn σ 113 b) (if 0 ≤ sgW (rP σ 113 b) (cn σ 113 b) then 0 else 1)) (tkY (rP σ 113 b) (cn σ 113 b) (if 0 ≤ sgW (rP σ 113 b) (cn σ 113 b) then 0 else 1)) (cn σ 113 b).toNat))) 91 [(0, .ref 111), (1, vI b), (2, vI (cn σ 113 b))] [vI wy] σ0 := by
        intro wy z hq
        obtain ⟨hw, hz⟩ := hq
        refine r_istore (lv' := [(4, _), (0, _), (1, _), (2, _)]) (dc dkX13_write 55 rfl) (Nat.le_of_ble_eq_true rfl) rfl (np 93 rfl ?_)
        refine r_aload_n (dc dkX13_write 56 rfl) rfl (np 94 rfl ?_)
        refine r_iconst (dc dkX13_write 57 rfl) (np 95 rfl ?_)
        refine r_pI 36 (dc dkX13_write 58 rfl) fpX13_399 fd_111_36 rfl (np 98 rfl ?_)
        refine r_abs (fun ρ => mdT [36] [130] σ0 ρ ∧ TX (ρ 130) (ρ 111 36) []) ⟨(mdT.refl _ _ _).put (by decide), by rw [ju_at]; exact TX_0 _⟩ ?_
        intro τ1 hq1
        obtain ⟨S1, T1⟩ := hq1
        obtain ⟨N1, q1, R1⟩ := mdN hN0 S1 (by decide)
        have g0 := eN 0
        refine r_aload_n (dc dkX13_write 59 rfl) rfl (np 99 rfl ?_)
        refine r_bipush (dc dkX13_write 60 rfl) bp_97 (np 101 rfl ?_)
        refine r_cV1 (y' := miX13_put) (dc dkX13_write 61 rfl) mlX13_402 ceX13_put ob_111 (Nat.le_of_ble_eq_true rfl) (Nat.le_of_ble_eq_true rfl) (c_X13_put T1 (by simp)) (fun r τ2 hp2 => (np 104 rfl ?_))
        obtain ⟨rfl, S2, T2⟩ := hp2
        replace S2 := S1.tr S2
        obtain ⟨N2, q2, R2⟩ := mdN hN0 S2 (by decide)
        refine r_aload_n (dc dkX13_write 62 rfl) rfl (np 105 rfl ?_)
        refine r_bipush (dc dkX13_write 63 rfl) bp_116 (np 107 rfl ?_)
        refine r_cV1 (y' := miX13_put) (dc dkX13_write 64 rfl) mlX13_402 ceX13_put ob_111 (Nat.le_of_ble_eq_true rfl) (Nat.le_of_ble_eq_true rfl) (c_X13_put T2 (by simp only [List.length_append, List.length_cons, List.length_nil]; omega)) (fun r τ3 hp3 => (np 110 rfl ?_))
        obtain ⟨rfl, S3, T3⟩ := hp3
        replace S3 := S2.tr S3
        obtain ⟨N3, q3, R3⟩ := mdN hN0 S3 (by decide)
        refine r_aload_n (dc dkX13_write 65 rfl) rfl (np 111 rfl ?_)
        refine r_aload_n (dc dkX13_write 66 rfl) rfl (np 112 rfl ?_)
        refine r_iload_n (dc dkX13_write 67 rfl) rfl (np 113 rfl ?_)
        refine r_iconst (dc dkX13_write 68 rfl) (np 114 rfl ?_)
        refine r_pV2 (y' := miX13_x) (dc dkX13_write 69 rfl) mlX13_285 ceX13_x ob_111 (Nat.le_of_ble_eq_true rfl) (Nat.le_of_ble_eq_true rfl) (c_X13_x N3 (by omega) (by omega) (by omega)) (np 117 rfl ?_)
        refine r_eqI (rP σ 113 b 0 % 10) (by rw [R3, eP]) ?_
        refine r_cV1 (y' := miX13_putSigned) (dc dkX13_write 70 rfl) mlX13_405 ceX13_putSigned ob_111 (Nat.le_of_ble_eq_true rfl) (Nat.le_of_ble_eq_true rfl) (c_X13_putSigned T3 (by simp only [List.length_append, List.length_cons, List.length_nil]; omega) (by omega)) (fun r τ4 hp4 => (np 120 rfl ?_))
        obtain ⟨rfl, S4, T4⟩ := hp4
        replace S4 := S3.tr S4
        obtain ⟨N4, q4, R4⟩ := mdN hN0 S4 (by decide)
        refine r_aload_n (dc dkX13_write 71 rfl) rfl (np 121 rfl ?_)
        refine r_aload_n (dc dkX13_write 72 rfl) rfl (np 122 rfl ?_)
        refine r_iload_n (dc dkX13_write 73 rfl) rfl (np 123 rfl ?_)
        refine r_iconst (dc dkX13_write 74 rfl) (np 124 rfl ?_)
        refine r_pV2 (y' := miX13_y) (dc dkX13_write 75 rfl) mlX13_289 ceX13_y ob_111 (Nat.le_of_ble_eq_true rfl) (Nat.le_of_ble_eq_true rfl) (c_X13_y N4 (by omega) (by omega) (by omega)) (np 127 rfl ?_)
        refine r_eqI (rP σ 113 b 0 / 10) (by rw [R4, eP]) ?_
        refine r_cV1 (y' := miX13_putSigned) (dc dkX13_write 76 rfl) mlX13_405 ceX13_putSigned ob_111 (Nat.le_of_ble_eq_true rfl) (Nat.le_of_ble_eq_true rfl) (c_X13_putSigned T4 (by simp only [List.length_append, List.length_cons, List.length_nil]; have := nuT_p pg0.1; have := nuT_p pg0.2; omega) (by omega)) (fun r τ5 hp5 => (np 130 rfl ?_))
        obtain ⟨rfl, S5, T5⟩ := hp5
        replace S5 := S4.tr S5
        obtain ⟨N5, q5, R5⟩ := mdN hN0 S5 (by decide)
        refine r_aload_n (dc dkX13_write 77 rfl) rfl (np 131 rfl ?_)
        refine r_bipush (dc dkX13_write 78 rfl) bp_59 (np 133 rfl ?_)
        refine r_cV1 (y' := miX13_put) (dc dkX13_write 79 rfl) mlX13_402 ceX13_put ob_111 (Nat.le_of_ble_eq_true rfl) (Nat.le_of_ble_eq_true rfl) (c_X13_put T5 (by simp only [List.length_append, List.length_cons, List.length_nil]; have := nuT_p pg0.1; have := nuT_p pg0.2; omega)) (fun r τ6 hp6 => (np 136 rfl ?_))
        obtain ⟨rfl, S6, T6⟩ := hp6
        replace S6 := S5.tr S6
        obtain ⟨N6, q6, R6⟩ := mdN hN0 S6 (by decide)
        refine r_iconst (dc dkX13_write 80 rfl) (np 137 rfl ?_)
        refine r_istore (lv' := [(5, _), (4, _), (0, _), (1, _), (2, _)]) (dc dkX13_write 81 rfl) (Nat.le_of_ble_eq_true rfl) rfl (np 139 rfl ?_)
        refine r_pick [2, 3, 4, 1, 0] (lv' := [(0, _), (1, _), (2, _), (4, _), (5, _)]) rfl ?_
        refine jlp2 (P := fun (k : Int) (τ : jS) => jR _ _ _ 139 [(0, .ref 111), (1, _), (2, vI (cn σ 113 b)), (4, vI wy), (5, vI k)] [] τ) (I := fun (k : Int) (τ : jS) => (0 ≤ k ∧ k ≤ (cn σ 113 b)) ∧ mdT [36] [130] σ0 τ ∧ TX (τ 130) (τ 111 36) (atT (rP σ 113 b 0 % 10) (rP σ 113 b 0 / 10) ++ byT (tkX (rP σ 113 b) (cn σ 113 b) z) (tkY (rP σ 113 b) (cn σ 113 b) z)  k.toNat)) (fun (k : Int) (τ : jS) => ((cn σ 113 b) - k).toNat) ?_ _ _ ⟨by omega, S6, by show TX _ _ (_ ++ []); rw [List.append_nil]; unfold atT; exact T6⟩
        intro k τ hI139 ih139
        have S := hI139.2.1
        refine r_iload (dc dkX13_write 82 rfl) rfl (np 141 rfl ?_)
        refine r_iload_n (dc dkX13_write 83 rfl) rfl (np 142 rfl ?_)
        refine r_icmp_ge (tgt := 245) (dc dkX13_write 84 rfl) rfl (by first | assumption | decide | omega) (by first | assumption | decide | omega) (fun h142 => ?_) (fun h142 => (np 145 rfl ?_))
        · skip
          refine r_aload_n (dc dkX13_write 140 rfl) rfl (np 246 rfl ?_)
          refine r_gI 36 (dc dkX13_write 141 rfl) flX13_399 fd_111_36 rfl (np 249 rfl ?_)
          exact r_iret (dc dkX13_write 142 rfl) rfl ⟨fun w => absurd h10 w, fun _ => ⟨⟨σ0, hσ0, S⟩, rfl, by rw [← hz, show cn σ 113 b = k by omega]; have := hI139.2.2; rw [show cn σ 113 b = k by omega] at this; exact this⟩⟩
        have jj161 : ∀ gi : Int, ((z = 0 ∧ gi = k) ∨ (z = 1 ∧ gi = ((cn σ 113 b) - k) % (cn σ 113 b))) → jR 4 miX13_write (fun r τ => (¬ (0 ≤ b ∧ b < σ 113 4) → r = some (vI (-1)) ∧ τ = ju σ 111 0 0) ∧ ((0 ≤ b ∧ b < σ 113 4) → (∃ ρ, ρ = ju σ 111 0 0 ∧ mdT [36] [130] ρ τ) ∧ r = some (vI (τ 111 36)) ∧ TX (τ 130) (τ 111 36) (atT (rP σ 113 b 0 % 10) (rP σ 113 b 0 / 10) ++ byT (tkX (rP σ 113 b) (cn σ 113 b) (if 0 ≤ sgW (rP σ 113 b) (cn σ 113 b) then 0 else 1)) (tkY (rP σ 113 b) (cn σ 113 b) (if 0 ≤ sgW (rP σ 113 b) (cn σ 113 b) then 0 else 1)) (cn σ 113 b).toNat))) 161 [(0, .ref 111), (1, vI b), (2, vI (cn σ 113 b)), (4, vI wy), (5, vI k)] [vI gi] τ := by
          intro gi hgi
          have gb : 0 ≤ gi ∧ gi ≤ 8 := by rcases hgi with h | h; omega; have := em_b (i := (cn σ 113 b) - k) nb; omega
          refine r_istore (lv' := [(6, _), (0, _), (1, _), (2, _), (4, _), (5, _)]) (dc dkX13_write 94 rfl) (Nat.le_of_ble_eq_true rfl) rfl (np 163 rfl ?_)
          have jj181 : ∀ gj : Int, ((z = 0 ∧ gj = k + 1) ∨ (z = 1 ∧ gj = (cn σ 113 b) - k - 1)) → jR 4 miX13_write (fun r τ => (¬ (0 ≤ b ∧ b < σ 113 4) → r = some (vI (-1)) ∧ τ = ju σ 111 0 0) ∧ ((0 ≤ b ∧ b < σ 113 4) → (∃ ρ, ρ = ju σ 111 0 0 ∧ mdT [36] [130] ρ τ) ∧ r = some (vI (τ 111 36)) ∧ TX (τ 130) (τ 111 36) (atT (rP σ 113 b 0 % 10) (rP σ 113 b 0 / 10) ++ byT (tkX (rP σ 113 b) (cn σ 113 b) (if 0 ≤ sgW (rP σ 113 b) (cn σ 113 b) then 0 else 1)) (tkY (rP σ 113 b) (cn σ 113 b) (if 0 ≤ sgW (rP σ 113 b) (cn σ 113 b) then 0 else 1)) (cn σ 113 b).toNat))) 181 [(0, .ref 111), (1, vI b), (2, vI (cn σ 113 b)), (4, vI wy), (5, vI k), (6, vI gi)] [vI gj] τ := by
            intro gj hgj
            have e6 : rP σ 113 b gi = rP σ 113 b (if z = 0 then k else (cn σ 113 b) - k) := by
              rcases hgi with h | h
              · rw [if_pos h.1, h.2]
              · rw [if_neg (by omega), h.2, rP_mod]
            have hX : tkX (rP σ 113 b) (cn σ 113 b) z k = rP σ 113 b gj % 10 - rP σ 113 b gi % 10 := by
              rw [e6]
              unfold tkX tkF
              by_cases c : z = 0
              · rw [if_pos c, if_pos c, show gj = k + 1 by omega]
              · rw [if_neg c, if_neg c, show gj = (cn σ 113 b) - k - 1 by omega]
            have hY : tkY (rP σ 113 b) (cn σ 113 b) z k = rP σ 113 b gj / 10 - rP σ 113 b gi / 10 := by
              rw [e6]
              unfold tkY tkF
              by_cases c : z = 0
              · rw [if_pos c, if_pos c, show gj = k + 1 by omega]
              · rw [if_neg c, if_neg c, show gj = (cn σ 113 b) - k - 1 by omega]
            refine r_istore (lv' := [(7, _), (0, _), (1, _), (2, _), (4, _), (5, _), (6, _)]) (dc dkX13_write 106 rfl) (Nat.le_of_ble_eq_true rfl) rfl (np 183 rfl ?_)
            have f1 := eN gi
            have f2 := eN gj
            refine r_aload_n (dc dkX13_write 107 rfl) rfl (np 184 rfl ?_)
            refine r_bipush (dc dkX13_write 108 rfl) bp_98 (np 186 rfl ?_)
            refine r_cV1 (y' := miX13_put) (dc dkX13_write 109 rfl) mlX13_402 ceX13_put ob_111 (Nat.le_of_ble_eq_true rfl) (Nat.le_of_ble_eq_true rfl) (c_X13_put hI139.2.2 (by simp only [List.length_append, List.length_cons, List.length_nil]; have := nuT_l (tkX (rP σ 113 b) (cn σ 113 b) z k); have := nuT_l (tkY (rP σ 113 b) (cn σ 113 b) z k); have := byT_l (tkX (rP σ 113 b) (cn σ 113 b) z) (tkY (rP σ 113 b) (cn σ 113 b) z) k.toNat; have := atT_l pg0.1 pg0.2; omega)) (fun r τ7 hp7 => (np 189 rfl ?_))
            obtain ⟨rfl, S7, T7⟩ := hp7
            replace S7 := S.tr S7
            obtain ⟨N7, q7, R7⟩ := mdN hN0 S7 (by decide)
            refine r_aload_n (dc dkX13_write 110 rfl) rfl (np 190 rfl ?_)
            refine r_bipush (dc dkX13_write 111 rfl) bp_121 (np 192 rfl ?_)
            refine r_cV1 (y' := miX13_put) (dc dkX13_write 112 rfl) mlX13_402 ceX13_put ob_111 (Nat.le_of_ble_eq_true rfl) (Nat.le_of_ble_eq_true rfl) (c_X13_put T7 (by simp only [List.length_append, List.length_cons, List.length_nil]; have := nuT_l (tkX (rP σ 113 b) (cn σ 113 b) z k); have := nuT_l (tkY (rP σ 113 b) (cn σ 113 b) z k); have := byT_l (tkX (rP σ 113 b) (cn σ 113 b) z) (tkY (rP σ 113 b) (cn σ 113 b) z) k.toNat; have := atT_l pg0.1 pg0.2; omega)) (fun r τ8 hp8 => (np 195 rfl ?_))
            obtain ⟨rfl, S8, T8⟩ := hp8
            replace S8 := S7.tr S8
            obtain ⟨N8, q8, R8⟩ := mdN hN0 S8 (by decide)
            refine r_aload_n (dc dkX13_write 113 rfl) rfl (np 196 rfl ?_)
            refine r_aload_n (dc dkX13_write 114 rfl) rfl (np 197 rfl ?_)
            refine r_iload_n (dc dkX13_write 115 rfl) rfl (np 198 rfl ?_)
            refine r_iload (dc dkX13_write 116 rfl) rfl (np 200 rfl ?_)
            refine r_pV2 (y' := miX13_x) (dc dkX13_write 117 rfl) mlX13_285 ceX13_x ob_111 (Nat.le_of_ble_eq_true rfl) (Nat.le_of_ble_eq_true rfl) (c_X13_x N8 (by omega) (by omega) (by omega)) (np 203 rfl ?_)
            refine r_aload_n (dc dkX13_write 118 rfl) rfl (np 204 rfl ?_)
            refine r_iload_n (dc dkX13_write 119 rfl) rfl (np 205 rfl ?_)
            refine r_iload (dc dkX13_write 120 rfl) rfl (np 207 rfl ?_)
            refine r_pV2 (y' := miX13_x) (dc dkX13_write 121 rfl) mlX13_285 ceX13_x ob_111 (Nat.le_of_ble_eq_true rfl) (Nat.le_of_ble_eq_true rfl) (c_X13_x N8 (by omega) (by omega) (by omega)) (np 210 rfl ?_)
            refine r_isub (dc dkX13_write 122 rfl) (np 211 rfl ?_)
            refine r_eqI (tkX (rP σ 113 b) (cn σ 113 b) z k) (by rw [R8, eP]; exact hX.symm) ?_
            have bX : -9 ≤ tkX (rP σ 113 b) (cn σ 113 b) z k ∧ tkX (rP σ 113 b) (cn σ 113 b) z k ≤ 9 := by rw [hX]; omega
            refine r_cV1 (y' := miX13_putSigned) (dc dkX13_write 123 rfl) mlX13_405 ceX13_putSigned ob_111 (Nat.le_of_ble_eq_true rfl) (Nat.le_of_ble_eq_true rfl) (c_X13_putSigned T8 (by simp only [List.length_append, List.length_cons, List.length_nil]; have := nuT_l (tkX (rP σ 113 b) (cn σ 113 b) z k); have := nuT_l (tkY (rP σ 113 b) (cn σ 113 b) z k); have := byT_l (tkX (rP σ 113 b) (cn σ 113 b) z) (tkY (rP σ 113 b) (cn σ 113 b) z) k.toNat; have := atT_l pg0.1 pg0.2; omega) (by omega)) (fun r τ9 hp9 => (np 214 rfl ?_))
            obtain ⟨rfl, S9, T9⟩ := hp9
            replace S9 := S8.tr S9
            obtain ⟨N9, q9, R9⟩ := mdN hN0 S9 (by decide)
            refine r_aload_n (dc dkX13_write 124 rfl) rfl (np 215 rfl ?_)
            refine r_aload_n (dc dkX13_write 125 rfl) rfl (np 216 rfl ?_)
            refine r_iload_n (dc dkX13_write 126 rfl) rfl (np 217 rfl ?_)
            refine r_iload (dc dkX13_write 127 rfl) rfl (np 219 rfl ?_)
            refine r_pV2 (y' := miX13_y) (dc dkX13_write 128 rfl) mlX13_289 ceX13_y ob_111 (Nat.le_of_ble_eq_true rfl) (Nat.le_of_ble_eq_true rfl) (c_X13_y N9 (by omega) (by omega) (by omega)) (np 222 rfl ?_)
            refine r_aload_n (dc dkX13_write 129 rfl) rfl (np 223 rfl ?_)
            refine r_iload_n (dc dkX13_write 130 rfl) rfl (np 224 rfl ?_)
            refine r_iload (dc dkX13_write 131 rfl) rfl (np 226 rfl ?_)
            refine r_pV2 (y' := miX13_y) (dc dkX13_write 132 rfl) mlX13_289 ceX13_y ob_111 (Nat.le_of_ble_eq_true rfl) (Nat.le_of_ble_eq_true rfl) (c_X13_y N9 (by omega) (by omega) (by omega)) (np 229 rfl ?_)
            refine r_isub (dc dkX13_write 133 rfl) (np 230 rfl ?_)
            refine r_eqI (tkY (rP σ 113 b) (cn σ 113 b) z k) (by rw [R9, eP]; exact hY.symm) ?_
            have bY : -9 ≤ tkY (rP σ 113 b) (cn σ 113 b) z k ∧ tkY (rP σ 113 b) (cn σ 113 b) z k ≤ 9 := by rw [hY]; omega
            refine r_cV1 (y' := miX13_putSigned) (dc dkX13_write 134 rfl) mlX13_405 ceX13_putSigned ob_111 (Nat.le_of_ble_eq_true rfl) (Nat.le_of_ble_eq_true rfl) (c_X13_putSigned T9 (by simp only [List.length_append, List.length_cons, List.length_nil]; have := nuT_l (tkX (rP σ 113 b) (cn σ 113 b) z k); have := nuT_l (tkY (rP σ 113 b) (cn σ 113 b) z k); have := byT_l (tkX (rP σ 113 b) (cn σ 113 b) z) (tkY (rP σ 113 b) (cn σ 113 b) z) k.toNat; have := atT_l pg0.1 pg0.2; omega) (by omega)) (fun r τ10 hp10 => (np 233 rfl ?_))
            obtain ⟨rfl, S10, T10⟩ := hp10
            replace S10 := S9.tr S10
            obtain ⟨N10, q10, R10⟩ := mdN hN0 S10 (by decide)
            refine r_aload_n (dc dkX13_write 135 rfl) rfl (np 234 rfl ?_)
            refine r_bipush (dc dkX13_write 136 rfl) bp_59 (np 236 rfl ?_)
            refine r_cV1 (y' := miX13_put) (dc dkX13_write 137 rfl) mlX13_402 ceX13_put ob_111 (Nat.le_of_ble_eq_true rfl) (Nat.le_of_ble_eq_true rfl) (c_X13_put T10 (by simp only [List.length_append, List.length_cons, List.length_nil]; have := nuT_l (tkX (rP σ 113 b) (cn σ 113 b) z k); have := nuT_l (tkY (rP σ 113 b) (cn σ 113 b) z k); have := byT_l (tkX (rP σ 113 b) (cn σ 113 b) z) (tkY (rP σ 113 b) (cn σ 113 b) z) k.toNat; have := atT_l pg0.1 pg0.2; omega)) (fun r τ11 hp11 => (np 239 rfl ?_))
            obtain ⟨rfl, S11, T11⟩ := hp11
            replace S11 := S10.tr S11
            obtain ⟨N11, q11, R11⟩ := mdN hN0 S11 (by decide)
            refine r_iinc (lv' := [(5, _), (7, _), (0, _), (1, _), (2, _), (4, _), (6, _)]) (dc dkX13_write 138 rfl) (Nat.le_of_ble_eq_true rfl) rfl rfl (np 242 rfl ?_)
            refine r_goto (tgt := 139) (dc dkX13_write 139 rfl) rfl ?_
            refine r_pick [2, 3, 4, 5, 0] rfl ?_
            exact ih139 _ _ ⟨by omega, S11, by rw [byT_s (by omega)]; have t := T11; simp only [List.append_assoc, List.cons_append, List.nil_append] at t ⊢; exact t⟩ (by omega)
          refine r_iload (dc dkX13_write 95 rfl) rfl (np 165 rfl ?_)
          refine r_if_le (tgt := 175) (dc dkX13_write 96 rfl) rfl (by first | assumption | decide | omega) (fun h165 => ?_) (fun h165 => (np 168 rfl ?_))
          · skip
            refine r_iload_n (dc dkX13_write 101 rfl) rfl (np 176 rfl ?_)
            refine r_iload (dc dkX13_write 102 rfl) rfl (np 178 rfl ?_)
            refine r_isub (dc dkX13_write 103 rfl) (np 179 rfl ?_)
            refine r_iconst (dc dkX13_write 104 rfl) (np 180 rfl ?_)
            refine r_isub (dc dkX13_write 105 rfl) (np 181 rfl ?_)
            refine r_pick [1, 2, 3, 4, 5, 0] rfl ?_
            exact jj181 _ (by first | exact Or.inl ⟨by omega, rfl⟩ | exact Or.inr ⟨by omega, rfl⟩)
          refine r_iload (dc dkX13_write 97 rfl) rfl (np 170 rfl ?_)
          refine r_iconst (dc dkX13_write 98 rfl) (np 171 rfl ?_)
          refine r_iadd (dc dkX13_write 99 rfl) (np 172 rfl ?_)
          refine r_goto (tgt := 181) (dc dkX13_write 100 rfl) rfl ?_
          refine r_pick [1, 2, 3, 4, 5, 0] rfl ?_
          exact jj181 _ (by first | exact Or.inl ⟨by omega, rfl⟩ | exact Or.inr ⟨by omega, rfl⟩)
        refine r_iload (dc dkX13_write 85 rfl) rfl (np 147 rfl ?_)
        refine r_if_le (tgt := 155) (dc dkX13_write 86 rfl) rfl (by first | assumption | decide | omega) (fun h147 => ?_) (fun h147 => (np 150 rfl ?_))
        · skip
          refine r_iload_n (dc dkX13_write 89 rfl) rfl (np 156 rfl ?_)
          refine r_iload (dc dkX13_write 90 rfl) rfl (np 158 rfl ?_)
          refine r_isub (dc dkX13_write 91 rfl) (np 159 rfl ?_)
          refine r_iload_n (dc dkX13_write 92 rfl) rfl (np 160 rfl ?_)
          refine r_iremn (dc dkX13_write 93 rfl) (by first | assumption | decide | omega) (by first | assumption | decide | omega) (np 161 rfl ?_)
          refine r_pick [0, 1, 2, 3, 4] rfl ?_
          exact jj161 _ (by first | exact Or.inl ⟨by omega, rfl⟩ | exact Or.inr ⟨by omega, rfl⟩)
        refine r_iload (dc dkX13_write 87 rfl) rfl (np 152 rfl ?_)
        refine r_goto (tgt := 161) (dc dkX13_write 88 rfl) rfl ?_
        refine r_pick [0, 1, 2, 3, 4] rfl ?_
        exact jj161 _ (by first | exact Or.inl ⟨by omega, rfl⟩ | exact Or.inr ⟨by omega, rfl⟩)
      refine r_if_lt (tgt := 90) (dc dkX13_write 51 rfl) rfl (by first | assumption | decide | omega) (fun h83 => ?_) (fun h83 => (np 86 rfl ?_))
      · skip
        refine r_iconst (dc dkX13_write 54 rfl) (np 91 rfl ?_)
        refine r_pick [0, 1, 2] rfl ?_
        exact jj91 _ (if 0 ≤ sgW (rP σ 113 b) (cn σ 113 b) then 0 else 1) ⟨by first | exact Or.inl ⟨rfl, if_pos (by omega)⟩ | exact Or.inr ⟨rfl, if_neg (by omega)⟩, rfl⟩
      refine r_iconst (dc dkX13_write 52 rfl) (np 87 rfl ?_)
      refine r_goto (tgt := 91) (dc dkX13_write 53 rfl) rfl ?_
      refine r_pick [0, 1, 2] rfl ?_
      exact jj91 _ (if 0 ≤ sgW (rP σ 113 b) (cn σ 113 b) then 0 else 1) ⟨by first | exact Or.inl ⟨rfl, if_pos (by omega)⟩ | exact Or.inr ⟨rfl, if_neg (by omega)⟩, rfl⟩
    have p1 := eN i
    have p2 := eN (i + 1)
    have eqb := eP b
    refine r_iload_n (dc dkX13_write 20 rfl) rfl (np 33 rfl ?_)
    refine r_aload_n (dc dkX13_write 21 rfl) rfl (np 34 rfl ?_)
    refine r_iload_n (dc dkX13_write 22 rfl) rfl (np 35 rfl ?_)
    refine r_iload (dc dkX13_write 23 rfl) rfl (np 37 rfl ?_)
    refine r_iconst (dc dkX13_write 24 rfl) (np 38 rfl ?_)
    refine r_iadd (dc dkX13_write 25 rfl) (np 39 rfl ?_)
    refine r_pV2 (y' := miX13_x) (dc dkX13_write 26 rfl) mlX13_285 ceX13_x ob_111 (Nat.le_of_ble_eq_true rfl) (Nat.le_of_ble_eq_true rfl) (c_X13_x hN0 (by omega) (by omega) (by omega)) (np 42 rfl ?_)
    refine r_aload_n (dc dkX13_write 27 rfl) rfl (np 43 rfl ?_)
    refine r_iload_n (dc dkX13_write 28 rfl) rfl (np 44 rfl ?_)
    refine r_iload (dc dkX13_write 29 rfl) rfl (np 46 rfl ?_)
    refine r_pV2 (y' := miX13_x) (dc dkX13_write 30 rfl) mlX13_285 ceX13_x ob_111 (Nat.le_of_ble_eq_true rfl) (Nat.le_of_ble_eq_true rfl) (c_X13_x hN0 (by omega) (by omega) (by omega)) (np 49 rfl ?_)
    refine r_isub (dc dkX13_write 31 rfl) (np 50 rfl ?_)
    refine r_eqI (rP σ 113 b (i + 1) % 10 - rP σ 113 b i % 10) (by rw [eqb]) ?_
    refine r_pS1 (y' := miX13_sign) (dc dkX13_write 32 rfl) mlX13_189 seX13_sign (Nat.le_of_ble_eq_true rfl) (Nat.le_of_ble_eq_true rfl) (c_X13_sign (by omega)) (np 53 rfl ?_)
    refine r_aload_n (dc dkX13_write 33 rfl) rfl (np 54 rfl ?_)
    refine r_iload_n (dc dkX13_write 34 rfl) rfl (np 55 rfl ?_)
    refine r_iload (dc dkX13_write 35 rfl) rfl (np 57 rfl ?_)
    refine r_iconst (dc dkX13_write 36 rfl) (np 58 rfl ?_)
    refine r_iadd (dc dkX13_write 37 rfl) (np 59 rfl ?_)
    refine r_pV2 (y' := miX13_y) (dc dkX13_write 38 rfl) mlX13_289 ceX13_y ob_111 (Nat.le_of_ble_eq_true rfl) (Nat.le_of_ble_eq_true rfl) (c_X13_y hN0 (by omega) (by omega) (by omega)) (np 62 rfl ?_)
    refine r_aload_n (dc dkX13_write 39 rfl) rfl (np 63 rfl ?_)
    refine r_iload_n (dc dkX13_write 40 rfl) rfl (np 64 rfl ?_)
    refine r_iload (dc dkX13_write 41 rfl) rfl (np 66 rfl ?_)
    refine r_pV2 (y' := miX13_y) (dc dkX13_write 42 rfl) mlX13_289 ceX13_y ob_111 (Nat.le_of_ble_eq_true rfl) (Nat.le_of_ble_eq_true rfl) (c_X13_y hN0 (by omega) (by omega) (by omega)) (np 69 rfl ?_)
    refine r_isub (dc dkX13_write 43 rfl) (np 70 rfl ?_)
    refine r_eqI (rP σ 113 b (i + 1) / 10 - rP σ 113 b i / 10) (by rw [eqb]) ?_
    refine r_pS1 (y' := miX13_sign) (dc dkX13_write 44 rfl) mlX13_189 seX13_sign (Nat.le_of_ble_eq_true rfl) (Nat.le_of_ble_eq_true rfl) (c_X13_sign (by omega)) (np 73 rfl ?_)
    refine r_iadd (dc dkX13_write 45 rfl) (np 74 rfl ?_)
    refine r_iadd (dc dkX13_write 46 rfl) (np 75 rfl ?_)
    refine r_istore_n (lv' := [(3, _), (0, _), (1, _), (2, _), (4, _)]) (dc dkX13_write 47 rfl) (Nat.le_of_ble_eq_true rfl) rfl (np 76 rfl ?_)
    refine r_iinc (lv' := [(4, _), (3, _), (0, _), (1, _), (2, _)]) (dc dkX13_write 48 rfl) (Nat.le_of_ble_eq_true rfl) rfl rfl (np 79 rfl ?_)
    refine r_goto (tgt := 26) (dc dkX13_write 49 rfl) rfl ?_
    refine r_pick [2, 3, 4, 1, 0] rfl ?_
    exact ih26 _ _ ⟨by omega, by unfold sgW; rw [smI_s _ (by omega), hI26.2]; rfl⟩ (by omega)
  refine r_iconst (dc dkX13_write 7 rfl) (np 14 rfl ?_)
  exact r_iret (dc dkX13_write 8 rfl) rfl ⟨fun _ => ⟨rfl, hσ0⟩, fun z => absurd z (by rw [e4] at h10; exact h10)⟩
