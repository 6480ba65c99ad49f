theorem mnN_z {f : Int → Int} : ∀ n : Nat, 0 < n → (∀ i : Int, 0 ≤ i → i < n → f i ≤ 9) → mnN f 999 n = mnN f 100 n
  | 0, h, _ => absurd h (by decide)
  | 1, _, h => by
    have := h 0 (by decide) (by decide)
    rw [mnN, mnN, mnN, mnN]
    show min 999 (f 0) = min 100 (f 0)
    omega
  | n + 2, _, h => by
    have := mnN_z (n + 1) (by omega) (fun i h0 h1 => h i h0 (by omega))
    rw [mnN, mnN.eq_2 f 100 (n + 1), this]
theorem okN_c {σ τ : jS} (h : okN σ) (e : τ 113 = σ 113) : okN τ := by
  unfold okN okH vB cn xa ya at h ⊢
  rw [e]
  exact h
theorem rP_c2 {σ τ : jS} (e : τ 113 = σ 113) (b : Int) : rP τ 113 b = rP σ 113 b := by
  funext i
  unfold rP cn xa ya
  rw [e]
set_option maxRecDepth 100000 in
set_option maxHeartbeats 4000000 in
theorem c_X13_turnBand {σ : jS} (hN : okN σ) {b : Int} (h0 : 0 ≤ b) (h1 : b < σ 113 4) {q o : Int} (hq : 0 ≤ q ∧ q ≤ 3) (ho : o = 0 ∨ o = 1) : Jm 4 miX13_turnBand [.ref 111, vI b, vI q, vI o] σ (fun r τ => r = none ∧ same [125] σ τ ∧ ∀ i, 0 ≤ i → i < cn σ 113 b → τ 125 (2 * i) = fX (cn σ 113 b) (rP σ 113 b) (q + 4 * o) i ∧ τ 125 (2 * i + 1) = fY (cn σ 113 b) (rP σ 113 b) (q + 4 * o) i) := by
  have hv := hN.2 b h0 h1
  have n1 := hv.1
  have m1 := hN.1.2.2.2.2.1
  have hPg : ∀ i, 0 ≤ i → isPg (rP σ 113 b i) := fun i _ => rP_p hv i
  have ov : 4 * o = 0 ∨ 4 * o = 4 := by omega
  refine jm_ofF (Po := (fun r τ => r = none ∧ same [125] σ τ ∧ ∀ i, 0 ≤ i → i < cn σ 113 b → τ 125 (2 * i) = fX (cn σ 113 b) (rP σ 113 b) (q + 4 * o) i ∧ τ 125 (2 * i + 1) = fY (cn σ 113 b) (rP σ 113 b) (q + 4 * o) i)) (plainFor_of_name (by decide)) (Nat.le_of_ble_eq_true rfl) (lv := [(0, _), (1, _), (2, _), (3, _)]) rfl ?_
  refine r_aload_n (dc dkX13_turnBand 0 rfl) rfl (np 1 rfl ?_)
  refine r_iload_n (dc dkX13_turnBand 1 rfl) rfl (np 2 rfl ?_)
  refine r_pV1 (y' := miX13_corners) (dc dkX13_turnBand 2 rfl) mlX13_279 ceX13_corners ob_111 (Nat.le_of_ble_eq_true rfl) (Nat.le_of_ble_eq_true rfl) (c_X13_corners (by omega)) (np 5 rfl ?_)
  refine r_istore (lv' := [(4, _), (0, _), (1, _), (2, _), (3, _)]) (dc dkX13_turnBand 3 rfl) (Nat.le_of_ble_eq_true rfl) rfl (np 7 rfl ?_)
  refine r_sipush (dc dkX13_turnBand 4 rfl) sp_999 (np 10 rfl ?_)
  refine r_istore (lv' := [(5, _), (4, _), (0, _), (1, _), (2, _), (3, _)]) (dc dkX13_turnBand 5 rfl) (Nat.le_of_ble_eq_true rfl) rfl (np 12 rfl ?_)
  refine r_sipush (dc dkX13_turnBand 6 rfl) sp_999 (np 15 rfl ?_)
  refine r_istore (lv' := [(6, _), (5, _), (4, _), (0, _), (1, _), (2, _), (3, _)]) (dc dkX13_turnBand 7 rfl) (Nat.le_of_ble_eq_true rfl) rfl (np 17 rfl ?_)
  refine r_iconst (dc dkX13_turnBand 8 rfl) (np 18 rfl ?_)
  refine r_istore (lv' := [(7, _), (6, _), (5, _), (4, _), (0, _), (1, _), (2, _), (3, _)]) (dc dkX13_turnBand 9 rfl) (Nat.le_of_ble_eq_true rfl) rfl (np 20 rfl ?_)
  refine r_pick [4, 5, 6, 7, 3, 2, 1, 0] (lv' := [(0, _), (1, _), (2, _), (3, _), (4, _), (5, _), (6, _), (7, _)]) rfl ?_
  refine jlp4 (P := fun (u : Int) (v : Int) (i : Int) (τ : jS) => jR _ _ _ 20 [(0, .ref 111), (1, vI b), (2, vI q), (3, vI o), (4, vI (cn σ 113 b)), (5, vI u), (6, vI v), (7, vI i)] [] τ) (I := fun (u : Int) (v : Int) (i : Int) (τ : jS) => (0 ≤ i ∧ i ≤ (cn σ 113 b)) ∧ same [125] σ τ ∧ (u = mnN (gX (rP σ 113 b) (q + 4 * o)) 999 i.toNat ∧ v = mnN (gY (rP σ 113 b) (q + 4 * o)) 999 i.toNat) ∧ (-999 ≤ u ∧ u ≤ 999 ∧ -999 ≤ v ∧ v ≤ 999) ∧ ∀ j, 0 ≤ j → j < i → τ 125 (2 * j) = gX (rP σ 113 b) (q + 4 * o) j ∧ τ 125 (2 * j + 1) = gY (rP σ 113 b) (q + 4 * o) j) (fun (u : Int) (v : Int) (i : Int) (τ : jS) => ((cn σ 113 b) - i).toNat) ?_ _ _ _ _ ⟨by omega, same.refl _ _, ⟨rfl, rfl⟩, by omega, fun j _ _ => by omega⟩
  intro u v i τ hI20 ih20
  have e113 : τ 113 = σ 113 := hI20.2.1 113 (by decide)
  have hN2 := okN_c hN e113
  have h12 : b < τ 113 4 := by rw [e113]; exact h1
  have eP := rP_c2 e113 b
  refine r_iload (dc dkX13_turnBand 10 rfl) rfl (np 22 rfl ?_)
  refine r_iload (dc dkX13_turnBand 11 rfl) rfl (np 24 rfl ?_)
  refine r_icmp_ge (tgt := 150) (dc dkX13_turnBand 12 rfl) rfl (by first | assumption | decide | omega) (by first | assumption | decide | omega) (fun h24 => ?_) (fun h24 => (np 27 rfl ?_))
  · skip
    have gb : ∀ j, 0 ≤ j → gX (rP σ 113 b) (q + 4 * o) j ≤ 9 ∧ gY (rP σ 113 b) (q + 4 * o) j ≤ 9 := fun j j0 => by
      have pg := hPg j j0
      have := tX_b (p := q + 4 * o) (x := rP σ 113 b j % 10) (y := rP σ 113 b j / 10) (by omega) (by omega)
      unfold gX gY
      omega
    have hu : u = mnN (gX (rP σ 113 b) (q + 4 * o)) 100 (cn σ 113 b).toNat := by rw [hI20.2.2.1.1, show i = cn σ 113 b by omega, mnN_z _ (by omega) (fun j j0 _ => (gb j j0).1)]
    have hv2 : v = mnN (gY (rP σ 113 b) (q + 4 * o)) 100 (cn σ 113 b).toNat := by rw [hI20.2.2.1.2, show i = cn σ 113 b by omega, mnN_z _ (by omega) (fun j j0 _ => (gb j j0).2)]
    refine r_iconst (dc dkX13_turnBand 77 rfl) (np 151 rfl ?_)
    refine r_istore (lv' := [(7, _), (0, _), (1, _), (2, _), (3, _), (4, _), (5, _), (6, _)]) (dc dkX13_turnBand 78 rfl) (Nat.le_of_ble_eq_true rfl) rfl (np 153 rfl ?_)
    refine r_pick [1, 2, 3, 4, 5, 6, 7, 0] (lv' := [(0, _), (1, _), (2, _), (3, _), (4, _), (5, _), (6, _), (7, _)]) rfl ?_
    refine jlp2 (P := fun (i : Int) (τ5 : jS) => jR _ _ _ 153 [(0, .ref 111), (1, vI b), (2, vI q), (3, vI o), (4, vI (cn σ 113 b)), (5, vI u), (6, vI v), (7, vI i)] [] τ5) (I := fun (i : Int) (τ5 : jS) => (0 ≤ i ∧ i ≤ (cn σ 113 b)) ∧ same [125] σ τ5 ∧ (∀ j, 0 ≤ j → j < i → τ5 125 (2 * j) = fX (cn σ 113 b) (rP σ 113 b) (q + 4 * o) j ∧ τ5 125 (2 * j + 1) = fY (cn σ 113 b) (rP σ 113 b) (q + 4 * o) j) ∧ ∀ j, i ≤ j → j < (cn σ 113 b) → τ5 125 (2 * j) = gX (rP σ 113 b) (q + 4 * o) j ∧ τ5 125 (2 * j + 1) = gY (rP σ 113 b) (q + 4 * o) j) (fun (i : Int) (τ5 : jS) => ((cn σ 113 b) - i).toNat) ?_ _ _ ⟨by omega, hI20.2.1, fun j _ _ => by omega, fun j j0 j1 => hI20.2.2.2.2 j j0 (by omega)⟩
    intro i τ5 hI153 ih153
    refine r_iload (dc dkX13_turnBand 79 rfl) rfl (np 155 rfl ?_)
    refine r_iload (dc dkX13_turnBand 80 rfl) rfl (np 157 rfl ?_)
    refine r_icmp_ge (tgt := 196) (dc dkX13_turnBand 81 rfl) rfl (by first | assumption | decide | omega) (by first | assumption | decide | omega) (fun h157 => ?_) (fun h157 => (np 160 rfl ?_))
    · skip
      exact r_vret (dc dkX13_turnBand 106 rfl) rfl ⟨rfl, hI153.2.1, fun j j0 j1 => hI153.2.2.1 j j0 (by omega)⟩
    refine r_aload_n (dc dkX13_turnBand 82 rfl) rfl (np 161 rfl ?_)
    refine r_getR (dc dkX13_turnBand 83 rfl) flX13_51 fd_111_28 (np 164 rfl ?_)
    refine r_iconst (dc dkX13_turnBand 84 rfl) (np 165 rfl ?_)
    refine r_iload (dc dkX13_turnBand 85 rfl) rfl (np 167 rfl ?_)
    refine r_imul (dc dkX13_turnBand 86 rfl) (np 168 rfl ?_)
    refine r_dup2 (dc dkX13_turnBand 87 rfl) ⟨rfl, rfl⟩ (np 169 rfl ?_)
    refine r_iald (dc dkX13_turnBand 88 rfl) ar_125 (by omega) (np 170 rfl ?_)
    refine r_iload (dc dkX13_turnBand 89 rfl) rfl (np 172 rfl ?_)
    refine r_isub (dc dkX13_turnBand 90 rfl) (np 173 rfl ?_)
    refine r_iast (dc dkX13_turnBand 91 rfl) ar_125 (by omega) (np 174 rfl ?_)
    refine r_aload_n (dc dkX13_turnBand 92 rfl) rfl (np 175 rfl ?_)
    refine r_getR (dc dkX13_turnBand 93 rfl) flX13_51 fd_111_28 (np 178 rfl ?_)
    refine r_iconst (dc dkX13_turnBand 94 rfl) (np 179 rfl ?_)
    refine r_iload (dc dkX13_turnBand 95 rfl) rfl (np 181 rfl ?_)
    refine r_imul (dc dkX13_turnBand 96 rfl) (np 182 rfl ?_)
    refine r_iconst (dc dkX13_turnBand 97 rfl) (np 183 rfl ?_)
    refine r_iadd (dc dkX13_turnBand 98 rfl) (np 184 rfl ?_)
    refine r_dup2 (dc dkX13_turnBand 99 rfl) ⟨rfl, rfl⟩ (np 185 rfl ?_)
    refine r_iald (dc dkX13_turnBand 100 rfl) ar_125 (by omega) (np 186 rfl ?_)
    refine r_iload (dc dkX13_turnBand 101 rfl) rfl (np 188 rfl ?_)
    refine r_isub (dc dkX13_turnBand 102 rfl) (np 189 rfl ?_)
    refine r_iast (dc dkX13_turnBand 103 rfl) ar_125 (by omega) (np 190 rfl ?_)
    refine r_iinc (lv' := [(7, _), (0, _), (1, _), (2, _), (3, _), (4, _), (5, _), (6, _)]) (dc dkX13_turnBand 104 rfl) (Nat.le_of_ble_eq_true rfl) rfl rfl (np 193 rfl ?_)
    refine r_goto (tgt := 153) (dc dkX13_turnBand 105 rfl) rfl ?_
    refine r_pick [1, 2, 3, 4, 5, 6, 7, 0] rfl ?_
    exact ih153 _ _ (by
          have q9 := hI153.2.2.2 i (by omega) (by omega)
          refine ⟨by omega, (hI153.2.1.put (by decide)).put (by decide), fun j j0 j1 => ?_, fun j j0 j1 => ?_⟩
          · by_cases hj : j = i
            · rw [hj, ju_ne (by omega), ju_at, ju_at, ju_ne (by omega), q9.1, q9.2, hu, hv2]; exact ⟨rfl, rfl⟩
            · rw [ju_ne (by omega), ju_ne (by omega), ju_ne (by omega), ju_ne (by omega)]; exact hI153.2.2.1 j j0 (by omega)
          · rw [ju_ne (by omega), ju_ne (by omega), ju_ne (by omega), ju_ne (by omega)]; exact hI153.2.2.2 j (by omega) j1) (by omega)
  have jj49 : ∀ x0 : Int, x0 = tX (4 * o) (rP σ 113 b i % 10) (rP σ 113 b i / 10) → jR 4 miX13_turnBand (fun r τ => r = none ∧ same [125] σ τ ∧ ∀ i, 0 ≤ i → i < cn σ 113 b → τ 125 (2 * i) = fX (cn σ 113 b) (rP σ 113 b) (q + 4 * o) i ∧ τ 125 (2 * i + 1) = fY (cn σ 113 b) (rP σ 113 b) (q + 4 * o) i) 49 [(0, .ref 111), (1, vI b), (2, vI q), (3, vI o), (4, vI (cn σ 113 b)), (5, vI u), (6, vI v), (7, vI i)] [vI x0] τ := by
    intro x0 hx0
    have pg := hPg i (by omega)
    refine r_istore (lv' := [(8, _), (0, _), (1, _), (2, _), (3, _), (4, _), (5, _), (6, _), (7, _)]) (dc dkX13_turnBand 25 rfl) (Nat.le_of_ble_eq_true rfl) rfl (np 51 rfl ?_)
    refine r_aload_n (dc dkX13_turnBand 26 rfl) rfl (np 52 rfl ?_)
    refine r_iload_n (dc dkX13_turnBand 27 rfl) rfl (np 53 rfl ?_)
    refine r_iload (dc dkX13_turnBand 28 rfl) rfl (np 55 rfl ?_)
    refine r_pV2 (y' := miX13_y) (dc dkX13_turnBand 29 rfl) mlX13_289 ceX13_y ob_111 (Nat.le_of_ble_eq_true rfl) (Nat.le_of_ble_eq_true rfl) (c_X13_y hN2 h0 h12 (by omega)) (np 58 rfl ?_)
    refine r_eqI (rP σ 113 b i / 10) (by rw [eP]) ?_
    refine r_istore (lv' := [(9, _), (8, _), (0, _), (1, _), (2, _), (3, _), (4, _), (5, _), (6, _), (7, _)]) (dc dkX13_turnBand 30 rfl) (Nat.le_of_ble_eq_true rfl) rfl (np 60 rfl ?_)
    refine r_iconst (dc dkX13_turnBand 31 rfl) (np 61 rfl ?_)
    refine r_istore (lv' := [(10, _), (9, _), (8, _), (0, _), (1, _), (2, _), (3, _), (4, _), (5, _), (6, _), (7, _)]) (dc dkX13_turnBand 32 rfl) (Nat.le_of_ble_eq_true rfl) rfl (np 63 rfl ?_)
    refine r_pick [3, 4, 5, 6, 7, 8, 9, 10, 2, 1, 0] (lv' := [(0, _), (1, _), (2, _), (3, _), (4, _), (5, _), (6, _), (7, _), (8, _), (9, _), (10, _)]) rfl ?_
    refine jlp3 (P := fun (x : Int) (y : Int) (k : Int) => jR _ _ _ 63 [(0, .ref 111), (1, _), (2, _), (3, _), (4, vI (cn σ 113 b)), (5, vI u), (6, vI v), (7, vI i), (8, vI x), (9, vI y), (10, vI k)] [] τ) (I := fun (x : Int) (y : Int) (k : Int) => (0 ≤ k ∧ k ≤ q) ∧ x = tX (k + 4 * o) (rP σ 113 b i % 10) (rP σ 113 b i / 10) ∧ y = tY (k + 4 * o) (rP σ 113 b i % 10) (rP σ 113 b i / 10)) (fun (x : Int) (y : Int) (k : Int) => (q - k).toNat) ?_ _ _ _ ⟨by omega, by rw [show (0 : Int) + 4 * o = 4 * o by omega]; exact hx0, by rw [show (0 : Int) + 4 * o = 4 * o by omega]; unfold tY; rcases ov with z | z <;> rw [z] <;> rfl⟩
    intro x y k hI63 ih63
    refine r_iload (dc dkX13_turnBand 33 rfl) rfl (np 65 rfl ?_)
    refine r_iload_n (dc dkX13_turnBand 34 rfl) rfl (np 66 rfl ?_)
    refine r_icmp_ge (tgt := 88) (dc dkX13_turnBand 35 rfl) rfl (by first | assumption | decide | omega) (by first | assumption | decide | omega) (fun h66 => ?_) (fun h66 => (np 69 rfl ?_))
    · skip
      have tb := tX_b (p := k + 4 * o) (x := rP σ 113 b i % 10) (y := rP σ 113 b i / 10) (by omega) (by omega)
      rw [← hI63.2.1, ← hI63.2.2] at tb
      refine r_aload_n (dc dkX13_turnBand 45 rfl) rfl (np 89 rfl ?_)
      refine r_getR (dc dkX13_turnBand 46 rfl) flX13_51 fd_111_28 (np 92 rfl ?_)
      refine r_iconst (dc dkX13_turnBand 47 rfl) (np 93 rfl ?_)
      refine r_iload (dc dkX13_turnBand 48 rfl) rfl (np 95 rfl ?_)
      refine r_imul (dc dkX13_turnBand 49 rfl) (np 96 rfl ?_)
      refine r_iload (dc dkX13_turnBand 50 rfl) rfl (np 98 rfl ?_)
      refine r_iast (dc dkX13_turnBand 51 rfl) ar_125 (by omega) (np 99 rfl ?_)
      refine r_aload_n (dc dkX13_turnBand 52 rfl) rfl (np 100 rfl ?_)
      refine r_getR (dc dkX13_turnBand 53 rfl) flX13_51 fd_111_28 (np 103 rfl ?_)
      refine r_iconst (dc dkX13_turnBand 54 rfl) (np 104 rfl ?_)
      refine r_iload (dc dkX13_turnBand 55 rfl) rfl (np 106 rfl ?_)
      refine r_imul (dc dkX13_turnBand 56 rfl) (np 107 rfl ?_)
      refine r_iconst (dc dkX13_turnBand 57 rfl) (np 108 rfl ?_)
      refine r_iadd (dc dkX13_turnBand 58 rfl) (np 109 rfl ?_)
      refine r_iload (dc dkX13_turnBand 59 rfl) rfl (np 111 rfl ?_)
      refine r_iast (dc dkX13_turnBand 60 rfl) ar_125 (by omega) (np 112 rfl ?_)
      refine r_iload (dc dkX13_turnBand 61 rfl) rfl (np 114 rfl ?_)
      refine r_iload (dc dkX13_turnBand 62 rfl) rfl (np 116 rfl ?_)
      refine r_icmp_ge (tgt := 124) (dc dkX13_turnBand 63 rfl) rfl (by first | assumption | decide | omega) (by first | assumption | decide | omega) (fun h116 => ?_) (fun h116 => (np 119 rfl ?_))
      · skip
        refine r_iload (dc dkX13_turnBand 66 rfl) rfl (np 126 rfl ?_)
        refine r_istore (lv' := [(5, _), (0, _), (1, _), (2, _), (3, _), (4, _), (6, _), (7, _), (8, _), (9, _), (10, _)]) (dc dkX13_turnBand 67 rfl) (Nat.le_of_ble_eq_true rfl) rfl (np 128 rfl ?_)
        refine r_iload (dc dkX13_turnBand 68 rfl) rfl (np 130 rfl ?_)
        refine r_iload (dc dkX13_turnBand 69 rfl) rfl (np 132 rfl ?_)
        refine r_icmp_ge (tgt := 140) (dc dkX13_turnBand 70 rfl) rfl (by first | assumption | decide | omega) (by first | assumption | decide | omega) (fun h132 => ?_) (fun h132 => (np 135 rfl ?_))
        · skip
          refine r_iload (dc dkX13_turnBand 73 rfl) rfl (np 142 rfl ?_)
          refine r_istore (lv' := [(6, _), (5, _), (0, _), (1, _), (2, _), (3, _), (4, _), (7, _), (8, _), (9, _), (10, _)]) (dc dkX13_turnBand 74 rfl) (Nat.le_of_ble_eq_true rfl) rfl (np 144 rfl ?_)
          refine r_iinc (lv' := [(7, _), (6, _), (5, _), (0, _), (1, _), (2, _), (3, _), (4, _), (8, _), (9, _), (10, _)]) (dc dkX13_turnBand 75 rfl) (Nat.le_of_ble_eq_true rfl) rfl rfl (np 147 rfl ?_)
          refine r_goto (tgt := 20) (dc dkX13_turnBand 76 rfl) rfl ?_
          refine r_pick [3, 4, 5, 6, 7, 2, 1, 0] rfl ?_
          exact ih20 _ _ _ _ (by
                have kk : k = q := by omega
                rw [kk] at hI63
                have gx : x = gX (rP σ 113 b) (q + 4 * o) i := hI63.2.1
                have gy : y = gY (rP σ 113 b) (q + 4 * o) i := hI63.2.2
                refine ⟨by omega, (hI20.2.1.put (by decide)).put (by decide), ⟨?_, ?_⟩, by omega, fun j j0 j1 => ?_⟩
                · rw [mnN_s _ _ (by omega), ← hI20.2.2.1.1, ← gx]; omega
                · rw [mnN_s _ _ (by omega), ← hI20.2.2.1.2, ← gy]; omega
                · by_cases hj : j = i
                  · rw [hj, ju_ne (by omega), ju_at, ju_at, gx, gy]; exact ⟨rfl, rfl⟩
                  · rw [ju_ne (by omega), ju_ne (by omega), ju_ne (by omega), ju_ne (by omega)]; exact hI20.2.2.2.2 j j0 (by omega)) (by omega)
        refine r_iload (dc dkX13_turnBand 71 rfl) rfl (np 137 rfl ?_)
        refine r_goto (tgt := 142) (dc dkX13_turnBand 72 rfl) rfl ?_
        refine r_istore (lv' := [(6, _), (5, _), (0, _), (1, _), (2, _), (3, _), (4, _), (7, _), (8, _), (9, _), (10, _)]) (dc dkX13_turnBand 74 rfl) (Nat.le_of_ble_eq_true rfl) rfl (np 144 rfl ?_)
        refine r_iinc (lv' := [(7, _), (6, _), (5, _), (0, _), (1, _), (2, _), (3, _), (4, _), (8, _), (9, _), (10, _)]) (dc dkX13_turnBand 75 rfl) (Nat.le_of_ble_eq_true rfl) rfl rfl (np 147 rfl ?_)
        refine r_goto (tgt := 20) (dc dkX13_turnBand 76 rfl) rfl ?_
        refine r_pick [3, 4, 5, 6, 7, 2, 1, 0] rfl ?_
        exact ih20 _ _ _ _ (by
              have kk : k = q := by omega
              rw [kk] at hI63
              have gx : x = gX (rP σ 113 b) (q + 4 * o) i := hI63.2.1
              have gy : y = gY (rP σ 113 b) (q + 4 * o) i := hI63.2.2
              refine ⟨by omega, (hI20.2.1.put (by decide)).put (by decide), ⟨?_, ?_⟩, by omega, fun j j0 j1 => ?_⟩
              · rw [mnN_s _ _ (by omega), ← hI20.2.2.1.1, ← gx]; omega
              · rw [mnN_s _ _ (by omega), ← hI20.2.2.1.2, ← gy]; omega
              · by_cases hj : j = i
                · rw [hj, ju_ne (by omega), ju_at, ju_at, gx, gy]; exact ⟨rfl, rfl⟩
                · rw [ju_ne (by omega), ju_ne (by omega), ju_ne (by omega), ju_ne (by omega)]; exact hI20.2.2.2.2 j j0 (by omega)) (by omega)
      refine r_iload (dc dkX13_turnBand 64 rfl) rfl (np 121 rfl ?_)
      refine r_goto (tgt := 126) (dc dkX13_turnBand 65 rfl) rfl ?_
      refine r_istore (lv' := [(5, _), (0, _), (1, _), (2, _), (3, _), (4, _), (6, _), (7, _), (8, _), (9, _), (10, _)]) (dc dkX13_turnBand 67 rfl) (Nat.le_of_ble_eq_true rfl) rfl (np 128 rfl ?_)
      refine r_iload (dc dkX13_turnBand 68 rfl) rfl (np 130 rfl ?_)
      refine r_iload (dc dkX13_turnBand 69 rfl) rfl (np 132 rfl ?_)
      refine r_icmp_ge (tgt := 140) (dc dkX13_turnBand 70 rfl) rfl (by first | assumption | decide | omega) (by first | assumption | decide | omega) (fun h132 => ?_) (fun h132 => (np 135 rfl ?_))
      · skip
        refine r_iload (dc dkX13_turnBand 73 rfl) rfl (np 142 rfl ?_)
        refine r_istore (lv' := [(6, _), (5, _), (0, _), (1, _), (2, _), (3, _), (4, _), (7, _), (8, _), (9, _), (10, _)]) (dc dkX13_turnBand 74 rfl) (Nat.le_of_ble_eq_true rfl) rfl (np 144 rfl ?_)
        refine r_iinc (lv' := [(7, _), (6, _), (5, _), (0, _), (1, _), (2, _), (3, _), (4, _), (8, _), (9, _), (10, _)]) (dc dkX13_turnBand 75 rfl) (Nat.le_of_ble_eq_true rfl) rfl rfl (np 147 rfl ?_)
        refine r_goto (tgt := 20) (dc dkX13_turnBand 76 rfl) rfl ?_
        refine r_pick [3, 4, 5, 6, 7, 2, 1, 0] rfl ?_
        exact ih20 _ _ _ _ (by
              have kk : k = q := by omega
              rw [kk] at hI63
              have gx : x = gX (rP σ 113 b) (q + 4 * o) i := hI63.2.1
              have gy : y = gY (rP σ 113 b) (q + 4 * o) i := hI63.2.2
              refine ⟨by omega, (hI20.2.1.put (by decide)).put (by decide), ⟨?_, ?_⟩, by omega, fun j j0 j1 => ?_⟩
              · rw [mnN_s _ _ (by omega), ← hI20.2.2.1.1, ← gx]; omega
              · rw [mnN_s _ _ (by omega), ← hI20.2.2.1.2, ← gy]; omega
              · by_cases hj : j = i
                · rw [hj, ju_ne (by omega), ju_at, ju_at, gx, gy]; exact ⟨rfl, rfl⟩
                · rw [ju_ne (by omega), ju_ne (by omega), ju_ne (by omega), ju_ne (by omega)]; exact hI20.2.2.2.2 j j0 (by omega)) (by omega)
      refine r_iload (dc dkX13_turnBand 71 rfl) rfl (np 137 rfl ?_)
      refine r_goto (tgt := 142) (dc dkX13_turnBand 72 rfl) rfl ?_
      refine r_istore (lv' := [(6, _), (5, _), (0, _), (1, _), (2, _), (3, _), (4, _), (7, _), (8, _), (9, _), (10, _)]) (dc dkX13_turnBand 74 rfl) (Nat.le_of_ble_eq_true rfl) rfl (np 144 rfl ?_)
      refine r_iinc (lv' := [(7, _), (6, _), (5, _), (0, _), (1, _), (2, _), (3, _), (4, _), (8, _), (9, _), (10, _)]) (dc dkX13_turnBand 75 rfl) (Nat.le_of_ble_eq_true rfl) rfl rfl (np 147 rfl ?_)
      refine r_goto (tgt := 20) (dc dkX13_turnBand 76 rfl) rfl ?_
      refine r_pick [3, 4, 5, 6, 7, 2, 1, 0] rfl ?_
      exact ih20 _ _ _ _ (by
            have kk : k = q := by omega
            rw [kk] at hI63
            have gx : x = gX (rP σ 113 b) (q + 4 * o) i := hI63.2.1
            have gy : y = gY (rP σ 113 b) (q + 4 * o) i := hI63.2.2
            refine ⟨by omega, (hI20.2.1.put (by decide)).put (by decide), ⟨?_, ?_⟩, by omega, fun j j0 j1 => ?_⟩
            · rw [mnN_s _ _ (by omega), ← hI20.2.2.1.1, ← gx]; omega
            · rw [mnN_s _ _ (by omega), ← hI20.2.2.1.2, ← gy]; omega
            · by_cases hj : j = i
              · rw [hj, ju_ne (by omega), ju_at, ju_at, gx, gy]; exact ⟨rfl, rfl⟩
              · rw [ju_ne (by omega), ju_ne (by omega), ju_ne (by omega), ju_ne (by omega)]; exact hI20.2.2.2.2 j j0 (by omega)) (by omega)
    refine r_iload (dc dkX13_turnBand 36 rfl) rfl (np 71 rfl ?_)
    refine r_istore (lv' := [(11, _), (0, _), (1, _), (2, _), (3, _), (4, _), (5, _), (6, _), (7, _), (8, _), (9, _), (10, _)]) (dc dkX13_turnBand 37 rfl) (Nat.le_of_ble_eq_true rfl) rfl (np 73 rfl ?_)
    refine r_iload (dc dkX13_turnBand 38 rfl) rfl (np 75 rfl ?_)
    refine r_ineg (dc dkX13_turnBand 39 rfl) (np 76 rfl ?_)
    refine r_istore (lv' := [(8, _), (11, _), (0, _), (1, _), (2, _), (3, _), (4, _), (5, _), (6, _), (7, _), (9, _), (10, _)]) (dc dkX13_turnBand 40 rfl) (Nat.le_of_ble_eq_true rfl) rfl (np 78 rfl ?_)
    refine r_iload (dc dkX13_turnBand 41 rfl) rfl (np 80 rfl ?_)
    refine r_istore (lv' := [(9, _), (8, _), (11, _), (0, _), (1, _), (2, _), (3, _), (4, _), (5, _), (6, _), (7, _), (10, _)]) (dc dkX13_turnBand 42 rfl) (Nat.le_of_ble_eq_true rfl) rfl (np 82 rfl ?_)
    refine r_iinc (lv' := [(10, _), (9, _), (8, _), (11, _), (0, _), (1, _), (2, _), (3, _), (4, _), (5, _), (6, _), (7, _)]) (dc dkX13_turnBand 43 rfl) (Nat.le_of_ble_eq_true rfl) rfl rfl (np 85 rfl ?_)
    refine r_goto (tgt := 63) (dc dkX13_turnBand 44 rfl) rfl ?_
    refine r_pick [4, 5, 6, 7, 8, 9, 10, 11, 2, 1, 0] rfl ?_
    exact ih63 _ _ _ (by have q9 := tX_s (x := rP σ 113 b i % 10) (y := rP σ 113 b i / 10) (k := k) (by omega) ov; exact ⟨by omega, by rw [q9.1, hI63.2.2], by rw [q9.2, hI63.2.1]⟩) (by omega)
  refine r_iload_n (dc dkX13_turnBand 13 rfl) rfl (np 28 rfl ?_)
  refine r_if_eq (tgt := 42) (dc dkX13_turnBand 14 rfl) rfl (by first | assumption | decide | omega) (fun h28 => ?_) (fun h28 => (np 31 rfl ?_))
  · skip
    refine r_aload_n (dc dkX13_turnBand 21 rfl) rfl (np 43 rfl ?_)
    refine r_iload_n (dc dkX13_turnBand 22 rfl) rfl (np 44 rfl ?_)
    refine r_iload (dc dkX13_turnBand 23 rfl) rfl (np 46 rfl ?_)
    refine r_pV2 (y' := miX13_x) (dc dkX13_turnBand 24 rfl) mlX13_285 ceX13_x ob_111 (Nat.le_of_ble_eq_true rfl) (Nat.le_of_ble_eq_true rfl) (c_X13_x hN2 h0 h12 (by omega)) (np 49 rfl ?_)
    refine r_pick [0, 1, 2, 3, 4, 5, 6, 7] rfl ?_
    exact jj49 _ (by rw [eP]; first | (rw [show o = 0 by omega]; rfl) | (rw [show o = 1 by omega]; rfl))
  refine r_aload_n (dc dkX13_turnBand 15 rfl) rfl (np 32 rfl ?_)
  refine r_iload_n (dc dkX13_turnBand 16 rfl) rfl (np 33 rfl ?_)
  refine r_iload (dc dkX13_turnBand 17 rfl) rfl (np 35 rfl ?_)
  refine r_pV2 (y' := miX13_x) (dc dkX13_turnBand 18 rfl) mlX13_285 ceX13_x ob_111 (Nat.le_of_ble_eq_true rfl) (Nat.le_of_ble_eq_true rfl) (c_X13_x hN2 h0 h12 (by omega)) (np 38 rfl ?_)
  refine r_ineg (dc dkX13_turnBand 19 rfl) (np 39 rfl ?_)
  refine r_goto (tgt := 49) (dc dkX13_turnBand 20 rfl) rfl ?_
  refine r_pick [0, 1, 2, 3, 4, 5, 6, 7] rfl ?_
  exact jj49 _ (by rw [eP]; first | (rw [show o = 0 by omega]; rfl) | (rw [show o = 1 by omega]; rfl))
set_option maxRecDepth 100000 in
set_option maxHeartbeats 4000000 in
theorem c_X13_compare {σ : jS} {a c : Nat} (ha : jAr a = some (0, 16)) (hc : jAr c = some (0, 16)) {n : Int} (hn : 0 ≤ n ∧ n ≤ 16) (hb : ∀ j, 0 ≤ j → j < n → cB 18 (σ a j) ∧ cB 18 (σ c j)) : Jm 1 miX13_compare [.ref a, .ref c, vI n] σ (fun r τ => τ = σ ∧ ∃ z, r = some (vI z) ∧ iR z ∧ (z < 0 ↔ lxS n (σ a) (σ c)) ∧ (z = 0 ↔ ∀ j, 0 ≤ j → j < n → σ a j = σ c j)) := by
  refine jm_ofF (Po := (fun r τ => τ = σ ∧ ∃ z, r = some (vI z) ∧ iR z ∧ (z < 0 ↔ lxS n (σ a) (σ c)) ∧ (z = 0 ↔ ∀ j, 0 ≤ j → j < n → σ a j = σ c j))) (plainFor_of_name (by decide)) (Nat.le_of_ble_eq_true rfl) (lv := [(0, _), (1, _), (2, _)]) rfl ?_
  refine r_iconst (dc dkX13_compare 0 rfl) (np 1 rfl ?_)
  refine r_istore_n (lv' := [(3, _), (0, _), (1, _), (2, _)]) (dc dkX13_compare 1 rfl) (Nat.le_of_ble_eq_true rfl) rfl (np 2 rfl ?_)
  refine r_pick [1, 2, 3, 0] (lv' := [(0, _), (1, _), (2, _), (3, _)]) rfl ?_
  refine jlp1 (P := fun (i : Int) => jR _ _ _ 2 [(0, .ref a), (1, .ref c), (2, vI n), (3, vI i)] [] σ) (I := fun (i : Int) => (0 ≤ i ∧ i ≤ n) ∧ ∀ j, 0 ≤ j → j < i → σ a j = σ c j) (fun (i : Int) => (n - i).toNat) ?_ _ ⟨by omega, fun j _ _ => by omega⟩
  intro i hI2 ih2
  refine r_iload_n (dc dkX13_compare 2 rfl) rfl (np 3 rfl ?_)
  refine r_iload_n (dc dkX13_compare 3 rfl) rfl (np 4 rfl ?_)
  refine r_icmp_ge (tgt := 30) (dc dkX13_compare 4 rfl) rfl (by first | assumption | decide | omega) (by first | assumption | decide | omega) (fun h4 => ?_) (fun h4 => (np 7 rfl ?_))
  · skip
    refine r_iconst (dc dkX13_compare 22 rfl) (np 31 rfl ?_)
    exact r_iret (dc dkX13_compare 23 rfl) rfl ⟨rfl, _, rfl, by decide, ⟨fun z => absurd z (by decide), fun ⟨k, hk, e, l⟩ => by have := hI2.2 k hk.1 (by omega); omega⟩, ⟨fun _ j j0 j1 => hI2.2 j j0 (by omega), fun _ => rfl⟩⟩
  have q := hb i (by omega) (by omega)
  refine r_aload_n (dc dkX13_compare 5 rfl) rfl (np 8 rfl ?_)
  refine r_iload_n (dc dkX13_compare 6 rfl) rfl (np 9 rfl ?_)
  refine r_iald (dc dkX13_compare 7 rfl) ha (by omega) (np 10 rfl ?_)
  refine r_aload_n (dc dkX13_compare 8 rfl) rfl (np 11 rfl ?_)
  refine r_iload_n (dc dkX13_compare 9 rfl) rfl (np 12 rfl ?_)
  refine r_iald (dc dkX13_compare 10 rfl) hc (by omega) (np 13 rfl ?_)
  refine r_icmp_eq (tgt := 24) (dc dkX13_compare 11 rfl) rfl (by first | assumption | decide | omega) (by first | assumption | decide | omega) (fun h13 => ?_) (fun h13 => (np 16 rfl ?_))
  · skip
    refine r_iinc (lv' := [(3, _), (0, _), (1, _), (2, _)]) (dc dkX13_compare 20 rfl) (Nat.le_of_ble_eq_true rfl) rfl rfl (np 27 rfl ?_)
    refine r_goto (tgt := 2) (dc dkX13_compare 21 rfl) rfl ?_
    refine r_pick [1, 2, 3, 0] rfl ?_
    exact ih2 _ ⟨by omega, fun j j0 j1 => by rcases (show j < i ∨ j = i by omega) with z | z; exact hI2.2 j j0 z; rw [z]; exact h13⟩ (by omega)
  refine r_aload_n (dc dkX13_compare 12 rfl) rfl (np 17 rfl ?_)
  refine r_iload_n (dc dkX13_compare 13 rfl) rfl (np 18 rfl ?_)
  refine r_iald (dc dkX13_compare 14 rfl) ha (by omega) (np 19 rfl ?_)
  refine r_aload_n (dc dkX13_compare 15 rfl) rfl (np 20 rfl ?_)
  refine r_iload_n (dc dkX13_compare 16 rfl) rfl (np 21 rfl ?_)
  refine r_iald (dc dkX13_compare 17 rfl) hc (by omega) (np 22 rfl ?_)
  refine r_isub (dc dkX13_compare 18 rfl) (np 23 rfl ?_)
  exact r_iret (dc dkX13_compare 19 rfl) rfl ⟨rfl, _, rfl, by omega, ⟨fun z => ⟨i, by omega, hI2.2, by omega⟩, fun ⟨k, hk, e, l⟩ => by rcases Int.lt_trichotomy k i with z | z | z; have := hI2.2 k hk.1 z; omega; subst z; omega; have := e i (by omega) z; omega⟩, ⟨fun z => by omega, fun z => by have := z i (by omega) (by omega); omega⟩⟩
