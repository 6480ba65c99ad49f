theorem rwV_at {n p i w k : Int} {Q : Int → Int} {ii : Int} (hii : (w = 1 ∧ ii = 2 * i) ∨ (w = -1 ∧ ii = 2 * i + 1)) : rwV n Q p ii (2 * k) = fX n Q p ((i + w * k + n) % n) ∧ rwV n Q p ii (2 * k + 1) = fY n Q p ((i + w * k + n) % n) := by
  have e : (ii / 2 + wy ii * (2 * k / 2)) % n = (i + w * k + n) % n ∧ (ii / 2 + wy ii * ((2 * k + 1) / 2)) % n = (i + w * k + n) % n := by
    rw [Int.add_emod_right, show 2 * k / 2 = k by omega, show (2 * k + 1) / 2 = k by omega]
    rcases hii with ⟨rfl, rfl⟩ | ⟨rfl, rfl⟩
    · rw [show 2 * i / 2 = i by omega, show wy (2 * i) = 1 by unfold wy; rw [if_pos (by omega)]]
      exact ⟨rfl, rfl⟩
    · rw [show (2 * i + 1) / 2 = i by omega, show wy (2 * i + 1) = -1 by unfold wy; rw [if_neg (by omega)]]
      exact ⟨rfl, rfl⟩
  unfold rwV
  rw [if_pos (by omega), if_neg (by omega), e.1, e.2]
  exact ⟨rfl, rfl⟩
set_option maxRecDepth 100000 in
set_option maxHeartbeats 4000000 in
theorem c_X13_leastRow {σ : jS} {n g p : Int} {Q : Int → Int} {V : Int → Int → Prop} (hn : 3 ≤ n ∧ n ≤ 8) (hQ : ∀ i, 0 ≤ i → isPg (Q i)) (hT : ∀ i, 0 ≤ i → i < n → σ 125 (2 * i) = fX n Q p i ∧ σ 125 (2 * i + 1) = fY n Q p i) (hg : g = 1 ∨ (g = 0 ∧ (∀ j, 0 ≤ j → j < 2 * n → cB 18 (σ 127 j)) ∧ lsO (2 * n) V (rwV n Q) (σ 127))) : Jm 2 miX13_leastRow [.ref 111, vI n, vI g] σ (fun r τ => r = none ∧ same [126, 127] σ τ ∧ (∀ j, 0 ≤ j → j < 2 * n → cB 18 (τ 127 j)) ∧ lsO (2 * n) (fun p2 i2 => (g = 0 ∧ V p2 i2) ∨ (p2 = p ∧ 0 ≤ i2 ∧ i2 < 2 * n)) (rwV n Q) (τ 127)) := by
  refine jm_ofF (Po := (fun r τ => r = none ∧ same [126, 127] σ τ ∧ (∀ j, 0 ≤ j → j < 2 * n → cB 18 (τ 127 j)) ∧ lsO (2 * n) (fun p2 i2 => (g = 0 ∧ V p2 i2) ∨ (p2 = p ∧ 0 ≤ i2 ∧ i2 < 2 * n)) (rwV n Q) (τ 127))) (plainFor_of_name (by decide)) (Nat.le_of_ble_eq_true rfl) (lv := [(0, _), (1, _), (2, _)]) rfl ?_
  refine r_iload_n (dc dkX13_leastRow 0 rfl) rfl (np 1 rfl ?_)
  refine r_istore_n (lv' := [(3, _), (0, _), (1, _), (2, _)]) (dc dkX13_leastRow 1 rfl) (Nat.le_of_ble_eq_true rfl) rfl (np 2 rfl ?_)
  refine r_iconst (dc dkX13_leastRow 2 rfl) (np 3 rfl ?_)
  refine r_istore (lv' := [(4, _), (3, _), (0, _), (1, _), (2, _)]) (dc dkX13_leastRow 3 rfl) (Nat.le_of_ble_eq_true rfl) rfl (np 5 rfl ?_)
  refine r_pick [2, 3, 4, 1, 0] (lv' := [(0, _), (1, _), (2, _), (3, _), (4, _)]) rfl ?_
  refine jlp3 (P := fun (g2 : Int) (i : Int) (τ : jS) => jR _ _ _ 5 [(0, .ref 111), (1, vI n), (2, vI g), (3, vI g2), (4, vI i)] [] τ) (I := fun (g2 : Int) (i : Int) (τ : jS) => (0 ≤ i ∧ i ≤ n) ∧ same [126, 127] σ τ ∧ ((g2 = 1 ∧ g = 1 ∧ i = 0) ∨ (g2 = 0 ∧ (g = 0 ∨ 0 < i) ∧ (∀ j, 0 ≤ j → j < 2 * n → cB 18 (τ 127 j)) ∧ lsO (2 * n) (fun p2 i2 => (g = 0 ∧ V p2 i2) ∨ (p2 = p ∧ 0 ≤ i2 ∧ i2 < 2 * i)) (rwV n Q) (τ 127)))) (fun (g2 : Int) (i : Int) (τ : jS) => (n - i).toNat) ?_ _ _ _ (by rcases hg with z | z; exact ⟨by omega, same.refl _ _, Or.inl ⟨z, z, rfl⟩⟩; exact ⟨by omega, same.refl _ _, Or.inr ⟨z.1, Or.inl z.1, z.2.1, lsO_V z.2.2 (fun p2 i2 => ⟨fun q => by rcases q with q | q; exact q.2; omega, fun q => Or.inl ⟨z.1, q⟩⟩)⟩⟩)
  intro g2 i τ hI5 ih5
  refine r_iload (dc dkX13_leastRow 4 rfl) rfl (np 7 rfl ?_)
  refine r_iload_n (dc dkX13_leastRow 5 rfl) rfl (np 8 rfl ?_)
  refine r_icmp_ge (tgt := 158) (dc dkX13_leastRow 6 rfl) rfl (by first | assumption | decide | omega) (by first | assumption | decide | omega) (fun h8 => ?_) (fun h8 => (np 11 rfl ?_))
  · skip
    exact r_vret (dc dkX13_leastRow 92 rfl) rfl (by
        rcases hI5.2.2 with z | z
        · omega
        · exact ⟨rfl, hI5.2.1, z.2.2.1, lsO_V z.2.2.2 (fun p2 i2 => by rw [show i = n by omega])⟩)
  refine r_iconst (dc dkX13_leastRow 7 rfl) (np 12 rfl ?_)
  refine r_istore (lv' := [(5, _), (0, _), (1, _), (2, _), (3, _), (4, _)]) (dc dkX13_leastRow 8 rfl) (Nat.le_of_ble_eq_true rfl) rfl (np 14 rfl ?_)
  refine r_pick [1, 2, 3, 4, 5, 0] (lv' := [(0, _), (1, _), (2, _), (3, _), (4, _), (5, _)]) rfl ?_
  refine jlp3 (P := fun (g3 : Int) (w : Int) (τ2 : jS) => jR _ _ _ 14 [(0, .ref 111), (1, vI n), (2, vI g), (3, vI g3), (4, vI i), (5, vI w)] [] τ2) (I := fun (g3 : Int) (w : Int) (τ2 : jS) => (w = 1 ∨ w = -1 ∨ w = -3) ∧ same [126, 127] σ τ2 ∧ ((g3 = 1 ∧ g = 1 ∧ i = 0 ∧ w = 1) ∨ (g3 = 0 ∧ (g = 0 ∨ 0 < 2 * i + (1 - w) / 2) ∧ (∀ j, 0 ≤ j → j < 2 * n → cB 18 (τ2 127 j)) ∧ lsO (2 * n) (fun p2 i2 => (g = 0 ∧ V p2 i2) ∨ (p2 = p ∧ 0 ≤ i2 ∧ i2 < 2 * i + (1 - w) / 2)) (rwV n Q) (τ2 127)))) (fun (g3 : Int) (w : Int) (τ2 : jS) => (w + 4).toNat) ?_ _ _ _ (by
        refine ⟨by omega, hI5.2.1, ?_⟩
        rcases hI5.2.2 with z | z
        · exact Or.inl ⟨z.1, z.2.1, z.2.2, rfl⟩
        · exact Or.inr ⟨z.1, by omega, z.2.2.1, lsO_V z.2.2.2 (fun p2 i2 => by rw [show 2 * i + ((1 : Int) - 1) / 2 = 2 * i by omega])⟩)
  intro g3 w τ2 hI14 ih14
  refine r_iload (dc dkX13_leastRow 9 rfl) rfl (np 16 rfl ?_)
  refine r_iconst (dc dkX13_leastRow 10 rfl) (np 17 rfl ?_)
  refine r_icmp_lt (tgt := 152) (dc dkX13_leastRow 11 rfl) rfl (by first | assumption | decide | omega) (by first | assumption | decide | omega) (fun h17 => ?_) (fun h17 => (np 20 rfl ?_))
  · skip
    refine r_iinc (lv' := [(4, _), (0, _), (1, _), (2, _), (3, _), (5, _)]) (dc dkX13_leastRow 90 rfl) (Nat.le_of_ble_eq_true rfl) rfl rfl (np 155 rfl ?_)
    refine r_goto (tgt := 5) (dc dkX13_leastRow 91 rfl) rfl ?_
    refine r_pick [1, 2, 3, 4, 0] rfl ?_
    exact ih5 _ _ _ (by
          refine ⟨by omega, hI14.2.1, Or.inr ?_⟩
          rcases hI14.2.2 with z | z
          · omega
          · exact ⟨z.1, by omega, z.2.2.1, lsO_V z.2.2.2 (fun p2 i2 => by rw [show 2 * (i + 1) = 2 * i + (1 - w) / 2 by omega])⟩) (by omega)
  refine r_iconst (dc dkX13_leastRow 12 rfl) (np 21 rfl ?_)
  refine r_istore (lv' := [(6, _), (0, _), (1, _), (2, _), (3, _), (4, _), (5, _)]) (dc dkX13_leastRow 13 rfl) (Nat.le_of_ble_eq_true rfl) rfl (np 23 rfl ?_)
  refine r_pick [1, 2, 3, 4, 5, 6, 0] (lv' := [(0, _), (1, _), (2, _), (3, _), (4, _), (5, _), (6, _)]) rfl ?_
  refine jlp2 (P := fun (k : Int) (τ6 : jS) => jR _ _ _ 23 [(0, .ref 111), (1, vI n), (2, vI g), (3, vI g3), (4, vI i), (5, vI w), (6, vI k)] [] τ6) (I := fun (k : Int) (τ6 : jS) => (0 ≤ k ∧ k ≤ n) ∧ same [126] τ2 τ6 ∧ ∀ j, 0 ≤ j → j < 2 * k → τ6 126 j = rwV n Q p (2 * i + (1 - w) / 2) j) (fun (k : Int) (τ6 : jS) => (n - k).toNat) ?_ _ _ ⟨by omega, same.refl _ _, fun j _ _ => by omega⟩
  intro k τ6 hI23 ih23
  have wk : w * k = k ∨ w * k = -k := by rcases (show w = 1 ∨ w = -1 by omega) with z | z <;> rw [z] <;> omega
  have e125 : τ6 125 = σ 125 := by rw [hI23.2.1 125 (by decide), hI14.2.1 125 (by decide)]
  refine r_iload (dc dkX13_leastRow 14 rfl) rfl (np 25 rfl ?_)
  refine r_iload_n (dc dkX13_leastRow 15 rfl) rfl (np 26 rfl ?_)
  refine r_icmp_ge (tgt := 89) (dc dkX13_leastRow 16 rfl) rfl (by first | assumption | decide | omega) (by first | assumption | decide | omega) (fun h26 => ?_) (fun h26 => (np 29 rfl ?_))
  · skip
    have hrow : ∀ j, 0 ≤ j → j < 2 * n → τ6 126 j = rwV n Q p (2 * i + (1 - w) / 2) j := fun j j0 j1 => hI23.2.2 j j0 (by omega)
    have hS6 : same [126, 127] σ τ6 := hI14.2.1.tr (hI23.2.1.wide (by decide))
    have e127 : τ6 127 = τ2 127 := hI23.2.1 127 (by decide)
    refine r_iload_n (dc dkX13_leastRow 57 rfl) rfl (np 90 rfl ?_)
    have jj113 : g3 = 1 ∨ (g3 = 0 ∧ lxS (2 * n) (rwV n Q p (2 * i + (1 - w) / 2)) (τ2 127)) → jR 2 miX13_leastRow (fun r τ => r = none ∧ same [126, 127] σ τ ∧ (∀ j, 0 ≤ j → j < 2 * n → cB 18 (τ 127 j)) ∧ lsO (2 * n) (fun p2 i2 => (g = 0 ∧ V p2 i2) ∨ (p2 = p ∧ 0 ≤ i2 ∧ i2 < 2 * n)) (rwV n Q) (τ 127)) 113 [(0, .ref 111), (1, vI n), (2, vI g), (4, vI i), (5, vI w)] [] τ6 := by
      intro hK
      refine r_iconst (dc dkX13_leastRow 69 rfl) (np 114 rfl ?_)
      refine r_istore_n (lv' := [(3, _), (0, _), (1, _), (2, _), (4, _), (5, _)]) (dc dkX13_leastRow 70 rfl) (Nat.le_of_ble_eq_true rfl) rfl (np 115 rfl ?_)
      refine r_iconst (dc dkX13_leastRow 71 rfl) (np 116 rfl ?_)
      refine r_istore (lv' := [(6, _), (3, _), (0, _), (1, _), (2, _), (4, _), (5, _)]) (dc dkX13_leastRow 72 rfl) (Nat.le_of_ble_eq_true rfl) rfl (np 118 rfl ?_)
      refine r_pick [2, 3, 4, 1, 5, 6, 0] (lv' := [(0, _), (1, _), (2, _), (3, _), (4, _), (5, _), (6, _)]) rfl ?_
      refine jlp2 (P := fun (k : Int) (τ8 : jS) => jR _ _ _ 118 [(0, .ref 111), (1, _), (2, _), (3, vI 0), (4, vI i), (5, vI w), (6, vI k)] [] τ8) (I := fun (k : Int) (τ8 : jS) => (0 ≤ k ∧ k ≤ 2 * n) ∧ same [126, 127] σ τ8 ∧ (∀ j, 0 ≤ j → j < k → τ8 127 j = rwV n Q p (2 * i + (1 - w) / 2) j) ∧ ∀ j, 0 ≤ j → j < 2 * n → τ8 126 j = rwV n Q p (2 * i + (1 - w) / 2) j) (fun (k : Int) (τ8 : jS) => (2 * n - k).toNat) ?_ _ _ ⟨by omega, hS6, fun j _ _ => by omega, hrow⟩
      intro k τ8 hI118 ih118
      refine r_iload (dc dkX13_leastRow 73 rfl) rfl (np 120 rfl ?_)
      refine r_iconst (dc dkX13_leastRow 74 rfl) (np 121 rfl ?_)
      refine r_iload_n (dc dkX13_leastRow 75 rfl) rfl (np 122 rfl ?_)
      refine r_imul (dc dkX13_leastRow 76 rfl) (np 123 rfl ?_)
      refine r_icmp_ge (tgt := 146) (dc dkX13_leastRow 77 rfl) rfl (by first | assumption | decide | omega) (by first | assumption | decide | omega) (fun h123 => ?_) (fun h123 => (np 126 rfl ?_))
      · skip
        refine r_iinc (lv' := [(5, _), (0, _), (1, _), (2, _), (3, _), (4, _), (6, _)]) (dc dkX13_leastRow 88 rfl) (Nat.le_of_ble_eq_true rfl) rfl rfl (np 149 rfl ?_)
        refine r_goto (tgt := 14) (dc dkX13_leastRow 89 rfl) rfl ?_
        refine r_pick [1, 2, 3, 4, 5, 0] rfl ?_
        exact ih14 _ _ _ (by
              first
              | (refine ⟨by omega, hI118.2.1, Or.inr ⟨rfl, by omega, fun j j0 j1 => by rw [hI118.2.2.1 j j0 (by omega)]; exact rwV_b (by omega) hQ, ?_⟩⟩
                 have hh : ∀ j, 0 ≤ j → j < 2 * n → τ8 127 j = rwV n Q p (2 * i + (1 - w) / 2) j := fun j j0 j1 => hI118.2.2.1 j j0 (by omega)
                 rcases hK with z | z
                 · rcases hI14.2.2 with y | y
                   · exact lsO_1 (fun p2 i2 => by constructor <;> intro q <;> omega) hh
                   · omega
                 · rcases hI14.2.2 with y | y
                   · omega
                   · exact lsO_y y.2.2.2 (fun p2 i2 => ⟨fun q => by rcases q with q | q; exact Or.inl (Or.inl q); by_cases z2 : i2 = 2 * i + (1 - w) / 2; exact Or.inr ⟨q.1, z2⟩; exact Or.inl (Or.inr (by omega)), fun q => by rcases q with (q | q) | q; exact Or.inl q; exact Or.inr (by omega); exact Or.inr (by omega)⟩) z.2 hh)
              | (refine ⟨by omega, hS6, Or.inr ?_⟩
                 rcases hI14.2.2 with y | y
                 · omega
                 · refine ⟨y.1, by omega, hb3, ?_⟩
                   rw [e127]
                   exact lsO_n y.2.2.2 (p := p) (i := 2 * i + (1 - w) / 2) (fun p2 i2 => ⟨fun q => by rcases q with q | q; exact Or.inl (Or.inl q); by_cases z2 : i2 = 2 * i + (1 - w) / 2; exact Or.inr ⟨q.1, z2⟩; exact Or.inl (Or.inr (by omega)), fun q => by rcases q with (q | q) | q; exact Or.inl q; exact Or.inr (by omega); exact Or.inr (by omega)⟩) (fun z => by
                     have := hl7.mpr ((lxS_c (fun j j0 j1 => hrow j j0 j1) (fun j _ _ => by rw [e127])).mpr z)
                     omega))) (by omega)
      refine r_aload_n (dc dkX13_leastRow 78 rfl) rfl (np 127 rfl ?_)
      refine r_getR (dc dkX13_leastRow 79 rfl) flX13_57 fd_111_30 (np 130 rfl ?_)
      refine r_iload (dc dkX13_leastRow 80 rfl) rfl (np 132 rfl ?_)
      refine r_aload_n (dc dkX13_leastRow 81 rfl) rfl (np 133 rfl ?_)
      refine r_getR (dc dkX13_leastRow 82 rfl) flX13_54 fd_111_29 (np 136 rfl ?_)
      refine r_iload (dc dkX13_leastRow 83 rfl) rfl (np 138 rfl ?_)
      refine r_iald (dc dkX13_leastRow 84 rfl) ar_126 (by omega) (np 139 rfl ?_)
      refine r_iast (dc dkX13_leastRow 85 rfl) ar_127 (by omega) (np 140 rfl ?_)
      refine r_iinc (lv' := [(6, _), (0, _), (1, _), (2, _), (3, _), (4, _), (5, _)]) (dc dkX13_leastRow 86 rfl) (Nat.le_of_ble_eq_true rfl) rfl rfl (np 143 rfl ?_)
      refine r_goto (tgt := 118) (dc dkX13_leastRow 87 rfl) rfl ?_
      refine r_pick [1, 2, 3, 4, 5, 6, 0] rfl ?_
      exact ih118 _ _ ⟨by omega, hI118.2.1.put (by decide), fun j j0 j1 => by rcases (show j < k ∨ j = k by omega) with z | z; rw [ju_ne (by omega)]; exact hI118.2.2.1 j j0 z; rw [z, ju_at, hI118.2.2.2 k (by omega) (by omega)], fun j j0 j1 => by rw [ju_off _ _ _ _ _ (by decide)]; exact hI118.2.2.2 j j0 j1⟩ (by omega)
    refine r_if_ne (tgt := 113) (dc dkX13_leastRow 58 rfl) rfl (by omega) (fun h90 => ?_) (fun h90 => (np 93 rfl ?_))
    · skip
      refine r_pick [0, 1, 2, 4, 5] rfl ?_
      exact jj113 (by first | exact Or.inl (by omega) | exact Or.inr ⟨by omega, (lxS_c (fun j j0 j1 => hrow j j0 j1) (fun j _ _ => by rw [e127])).mp (hl7.mp h107)⟩)
    have hb3 : ∀ j, 0 ≤ j → j < 2 * n → cB 18 (τ6 127 j) := fun j j0 j1 => by rw [e127]; rcases hI14.2.2 with y | y; omega; exact y.2.2.1 j j0 j1
    refine r_aload_n (dc dkX13_leastRow 59 rfl) rfl (np 94 rfl ?_)
    refine r_getR (dc dkX13_leastRow 60 rfl) flX13_54 fd_111_29 (np 97 rfl ?_)
    refine r_aload_n (dc dkX13_leastRow 61 rfl) rfl (np 98 rfl ?_)
    refine r_getR (dc dkX13_leastRow 62 rfl) flX13_57 fd_111_30 (np 101 rfl ?_)
    refine r_iconst (dc dkX13_leastRow 63 rfl) (np 102 rfl ?_)
    refine r_iload_n (dc dkX13_leastRow 64 rfl) rfl (np 103 rfl ?_)
    refine r_imul (dc dkX13_leastRow 65 rfl) (np 104 rfl ?_)
    refine r_cS3 (y' := miX13_compare) (dc dkX13_leastRow 66 rfl) mlX13_336 seX13_compare (Nat.le_of_ble_eq_true rfl) (Nat.le_of_ble_eq_true rfl) (c_X13_compare ar_126 ar_127 (by omega) (fun j j0 j1 => ⟨by rw [hrow j j0 j1]; exact rwV_b (by omega) hQ, hb3 j j0 j1⟩)) (fun r τ7 hp7 => (np 107 rfl ?_))
    obtain ⟨rfl, z7, rfl, hz7, hl7, he7⟩ := hp7
    refine r_if_lt (tgt := 113) (dc dkX13_leastRow 67 rfl) rfl (by first | assumption | decide | omega) (fun h107 => ?_) (fun h107 => (np 110 rfl ?_))
    · skip
      refine r_pick [0, 1, 2, 4, 5] rfl ?_
      exact jj113 (by first | exact Or.inl (by omega) | exact Or.inr ⟨by omega, (lxS_c (fun j j0 j1 => hrow j j0 j1) (fun j _ _ => by rw [e127])).mp (hl7.mp h107)⟩)
    refine r_goto (tgt := 146) (dc dkX13_leastRow 68 rfl) rfl ?_
    refine r_iinc (lv' := [(5, _), (0, _), (1, _), (2, _), (3, _), (4, _), (6, _)]) (dc dkX13_leastRow 88 rfl) (Nat.le_of_ble_eq_true rfl) rfl rfl (np 149 rfl ?_)
    refine r_goto (tgt := 14) (dc dkX13_leastRow 89 rfl) rfl ?_
    refine r_pick [1, 2, 3, 4, 5, 0] rfl ?_
    exact ih14 _ _ _ (by
          first
          | (refine ⟨by omega, hI118.2.1, Or.inr ⟨rfl, by omega, fun j j0 j1 => by rw [hI118.2.2.1 j j0 (by omega)]; exact rwV_b (by omega) hQ, ?_⟩⟩
             have hh : ∀ j, 0 ≤ j → j < 2 * n → τ8 127 j = rwV n Q p (2 * i + (1 - w) / 2) j := fun j j0 j1 => hI118.2.2.1 j j0 (by omega)
             rcases hK with z | z
             · rcases hI14.2.2 with y | y
               · exact lsO_1 (fun p2 i2 => by constructor <;> intro q <;> omega) hh
               · omega
             · rcases hI14.2.2 with y | y
               · omega
               · exact lsO_y y.2.2.2 (fun p2 i2 => ⟨fun q => by rcases q with q | q; exact Or.inl (Or.inl q); by_cases z2 : i2 = 2 * i + (1 - w) / 2; exact Or.inr ⟨q.1, z2⟩; exact Or.inl (Or.inr (by omega)), fun q => by rcases q with (q | q) | q; exact Or.inl q; exact Or.inr (by omega); exact Or.inr (by omega)⟩) z.2 hh)
          | (refine ⟨by omega, hS6, Or.inr ?_⟩
             rcases hI14.2.2 with y | y
             · omega
             · refine ⟨y.1, by omega, hb3, ?_⟩
               rw [e127]
               exact lsO_n y.2.2.2 (p := p) (i := 2 * i + (1 - w) / 2) (fun p2 i2 => ⟨fun q => by rcases q with q | q; exact Or.inl (Or.inl q); by_cases z2 : i2 = 2 * i + (1 - w) / 2; exact Or.inr ⟨q.1, z2⟩; exact Or.inl (Or.inr (by omega)), fun q => by rcases q with (q | q) | q; exact Or.inl q; exact Or.inr (by omega); exact Or.inr (by omega)⟩) (fun z => by
                 have := hl7.mpr ((lxS_c (fun j j0 j1 => hrow j j0 j1) (fun j _ _ => by rw [e127])).mpr z)
                 omega))) (by omega)
  have em1 := Int.emod_nonneg (i + w * k + n) (show n ≠ 0 by omega)
  have em2 := Int.emod_lt_of_pos (i + w * k + n) (show 0 < n by omega)
  refine r_iload (dc dkX13_leastRow 17 rfl) rfl (np 31 rfl ?_)
  refine r_iload (dc dkX13_leastRow 18 rfl) rfl (np 33 rfl ?_)
  refine r_iload (dc dkX13_leastRow 19 rfl) rfl (np 35 rfl ?_)
  refine r_imul (dc dkX13_leastRow 20 rfl) (np 36 rfl ?_)
  refine r_iadd (dc dkX13_leastRow 21 rfl) (np 37 rfl ?_)
  refine r_iload_n (dc dkX13_leastRow 22 rfl) rfl (np 38 rfl ?_)
  refine r_iadd (dc dkX13_leastRow 23 rfl) (np 39 rfl ?_)
  refine r_iload_n (dc dkX13_leastRow 24 rfl) rfl (np 40 rfl ?_)
  refine r_iremn (dc dkX13_leastRow 25 rfl) (by first | assumption | decide | omega) (by first | assumption | decide | omega) (np 41 rfl ?_)
  refine r_istore (lv' := [(7, _), (0, _), (1, _), (2, _), (3, _), (4, _), (5, _), (6, _)]) (dc dkX13_leastRow 26 rfl) (Nat.le_of_ble_eq_true rfl) rfl (np 43 rfl ?_)
  refine r_aload_n (dc dkX13_leastRow 27 rfl) rfl (np 44 rfl ?_)
  refine r_getR (dc dkX13_leastRow 28 rfl) flX13_54 fd_111_29 (np 47 rfl ?_)
  refine r_iconst (dc dkX13_leastRow 29 rfl) (np 48 rfl ?_)
  refine r_iload (dc dkX13_leastRow 30 rfl) rfl (np 50 rfl ?_)
  refine r_imul (dc dkX13_leastRow 31 rfl) (np 51 rfl ?_)
  refine r_aload_n (dc dkX13_leastRow 32 rfl) rfl (np 52 rfl ?_)
  refine r_getR (dc dkX13_leastRow 33 rfl) flX13_51 fd_111_28 (np 55 rfl ?_)
  refine r_iconst (dc dkX13_leastRow 34 rfl) (np 56 rfl ?_)
  refine r_iload (dc dkX13_leastRow 35 rfl) rfl (np 58 rfl ?_)
  refine r_imul (dc dkX13_leastRow 36 rfl) (np 59 rfl ?_)
  refine r_iald (dc dkX13_leastRow 37 rfl) ar_125 (by omega) (np 60 rfl ?_)
  refine r_iast (dc dkX13_leastRow 38 rfl) ar_126 (by omega) (np 61 rfl ?_)
  refine r_aload_n (dc dkX13_leastRow 39 rfl) rfl (np 62 rfl ?_)
  refine r_getR (dc dkX13_leastRow 40 rfl) flX13_54 fd_111_29 (np 65 rfl ?_)
  refine r_iconst (dc dkX13_leastRow 41 rfl) (np 66 rfl ?_)
  refine r_iload (dc dkX13_leastRow 42 rfl) rfl (np 68 rfl ?_)
  refine r_imul (dc dkX13_leastRow 43 rfl) (np 69 rfl ?_)
  refine r_iconst (dc dkX13_leastRow 44 rfl) (np 70 rfl ?_)
  refine r_iadd (dc dkX13_leastRow 45 rfl) (np 71 rfl ?_)
  refine r_aload_n (dc dkX13_leastRow 46 rfl) rfl (np 72 rfl ?_)
  refine r_getR (dc dkX13_leastRow 47 rfl) flX13_51 fd_111_28 (np 75 rfl ?_)
  refine r_iconst (dc dkX13_leastRow 48 rfl) (np 76 rfl ?_)
  refine r_iload (dc dkX13_leastRow 49 rfl) rfl (np 78 rfl ?_)
  refine r_imul (dc dkX13_leastRow 50 rfl) (np 79 rfl ?_)
  refine r_iconst (dc dkX13_leastRow 51 rfl) (np 80 rfl ?_)
  refine r_iadd (dc dkX13_leastRow 52 rfl) (np 81 rfl ?_)
  refine r_iald (dc dkX13_leastRow 53 rfl) ar_125 (by omega) (np 82 rfl ?_)
  refine r_iast (dc dkX13_leastRow 54 rfl) ar_126 (by omega) (np 83 rfl ?_)
  refine r_iinc (lv' := [(6, _), (7, _), (0, _), (1, _), (2, _), (3, _), (4, _), (5, _)]) (dc dkX13_leastRow 55 rfl) (Nat.le_of_ble_eq_true rfl) rfl rfl (np 86 rfl ?_)
  refine r_goto (tgt := 23) (dc dkX13_leastRow 56 rfl) rfl ?_
  refine r_pick [2, 3, 4, 5, 6, 7, 0] rfl ?_
  exact ih23 _ _ (by
        have cr := rwV_at (n := n) (p := p) (i := i) (w := w) (k := k) (Q := Q) (ii := 2 * i + (1 - w) / 2) (by omega)
        have em1 := Int.emod_nonneg (i + w * k + n) (show n ≠ 0 by omega)
        have em2 := Int.emod_lt_of_pos (i + w * k + n) (show 0 < n by omega)
        have tq := hT _ em1 em2
        refine ⟨by omega, (hI23.2.1.put (by decide)).put (by decide), fun j j0 j1 => ?_⟩
        by_cases hj : j = 2 * k
        · rw [hj, ju_ne (by omega), ju_at, e125, tq.1, cr.1]
        · by_cases hj2 : j = 2 * k + 1
          · rw [hj2, ju_at, ju_off _ _ _ _ _ (by decide), e125, tq.2, cr.2]
          · rw [ju_ne (by omega), ju_ne (by omega)]; exact hI23.2.2 j j0 (by omega)) (by omega)
