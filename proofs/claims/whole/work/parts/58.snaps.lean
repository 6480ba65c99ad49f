/-- the reference keeps its bands -/
def SS (σ τ : jS) : Prop := mdT [27] [117, 120] σ τ ∧ τ 111 27 = min (σ 111 27) 7 + 1 ∧ (∀ i j, 0 ≤ i → i < min (σ 111 27) 7 → 0 ≤ j → j < 241 → τ 117 (241 * i + j) = σ 117 (241 * (if σ 111 27 = 8 then i + 1 else i) + j)) ∧ (∀ j, 0 ≤ j → j < 241 → τ 117 (241 * min (σ 111 27) 7 + j) = σ 113 j) ∧ (∀ i j, 0 ≤ i → i < min (σ 111 27) 7 → 0 ≤ j → j < 8 → τ 120 (8 * i + j) = σ 120 (8 * (if σ 111 27 = 8 then i + 1 else i) + j)) ∧ ∀ j, 0 ≤ j → j < 8 → τ 120 (8 * min (σ 111 27) 7 + j) = σ 118 j
set_option maxRecDepth 100000 in
set_option maxHeartbeats 4000000 in
theorem c_X13_snapShot {σ : jS} (hp : cB 8 (σ 111 27)) : Jm 1 miX13_snapShot [.ref 111] σ (fun r τ => r = none ∧ SS σ τ) := by
  refine jm_ofF (Po := (fun r τ => r = none ∧ SS σ τ)) (plainFor_of_name (by decide)) (Nat.le_of_ble_eq_true rfl) (lv := [(0, _)]) rfl ?_
  have jj82 : ∀ τ5 : jS, (mdT [27] [117, 120] σ τ5 ∧ τ5 111 27 = min (σ 111 27) 7 ∧ (∀ i j, 0 ≤ i → i < min (σ 111 27) 7 → 0 ≤ j → j < 241 → τ5 117 (241 * i + j) = σ 117 (241 * (if σ 111 27 = 8 then i + 1 else i) + j)) ∧ ∀ i j, 0 ≤ i → i < min (σ 111 27) 7 → 0 ≤ j → j < 8 → τ5 120 (8 * i + j) = σ 120 (8 * (if σ 111 27 = 8 then i + 1 else i) + j)) → jR 1 miX13_snapShot (fun r τ => r = none ∧ SS σ τ) 82 [(0, .ref 111)] [] τ5 := by
    intro τ5 hq
    obtain ⟨E1, E2, E3, E4⟩ := hq
    refine r_iconst (dc dkX13_snapShot 44 rfl) (np 83 rfl ?_)
    refine r_istore_n (lv' := [(1, _), (0, _)]) (dc dkX13_snapShot 45 rfl) (Nat.le_of_ble_eq_true rfl) rfl (np 84 rfl ?_)
    refine r_pick [1, 0] (lv' := [(0, _), (1, _)]) rfl ?_
    refine jlp2 (P := fun (i : Int) (τ6 : jS) => jR _ _ _ 84 [(0, .ref 111), (1, vI i)] [] τ6) (I := fun (i : Int) (τ6 : jS) => (0 ≤ i ∧ i ≤ 241) ∧ (∀ j, 0 ≤ j → j < i → τ6 117 (241 * min (σ 111 27) 7 + j) = σ 113 j) ∧ (∀ x, x < 241 * min (σ 111 27) 7 → τ6 117 x = τ5 117 x) ∧ ∀ c, ¬ c = 117 → τ6 c = τ5 c) (fun (i : Int) (τ6 : jS) => (241 - i).toNat) ?_ _ _ ⟨by omega, fun _ _ _ => by omega, fun _ _ => rfl, fun _ _ => rfl⟩
    intro i τ6 hI84 ih84
    have e27 : τ6 111 27 = min (σ 111 27) 7 := by rw [hI84.2.2.2 111 (by decide)]; exact E2
    have e113 : τ6 113 = σ 113 := by rw [hI84.2.2.2 113 (by decide)]; exact E1.1 113 (by decide) (by decide)
    refine r_iload_n (dc dkX13_snapShot 46 rfl) rfl (np 85 rfl ?_)
    refine r_sipush (dc dkX13_snapShot 47 rfl) sp_241 (np 88 rfl ?_)
    refine r_icmp_ge (tgt := 118) (dc dkX13_snapShot 48 rfl) rfl (by first | assumption | decide | omega) (by first | assumption | decide | omega) (fun h88 => ?_) (fun h88 => (np 91 rfl ?_))
    · skip
      refine r_iconst (dc dkX13_snapShot 64 rfl) (np 119 rfl ?_)
      refine r_istore_n (lv' := [(1, _), (0, _)]) (dc dkX13_snapShot 65 rfl) (Nat.le_of_ble_eq_true rfl) rfl (np 120 rfl ?_)
      refine r_pick [1, 0] (lv' := [(0, _), (1, _)]) rfl ?_
      refine jlp2 (P := fun (i : Int) (τ7 : jS) => jR _ _ _ 120 [(0, .ref 111), (1, vI i)] [] τ7) (I := fun (i : Int) (τ7 : jS) => (0 ≤ i ∧ i ≤ 8) ∧ (∀ j, 0 ≤ j → j < i → τ7 120 (8 * min (σ 111 27) 7 + j) = σ 118 j) ∧ (∀ x, x < 8 * min (σ 111 27) 7 → τ7 120 x = τ5 120 x) ∧ ∀ c, ¬ c = 120 → τ7 c = τ6 c) (fun (i : Int) (τ7 : jS) => (8 - i).toNat) ?_ _ _ ⟨by omega, fun _ _ _ => by omega, fun _ _ => by rw [hI84.2.2.2 120 (by decide)], fun _ _ => rfl⟩
      intro i τ7 hI120 ih120
      have e27b : τ7 111 27 = min (σ 111 27) 7 := by rw [hI120.2.2.2 111 (by decide), hI84.2.2.2 111 (by decide)]; exact E2
      have e118 : τ7 118 = σ 118 := by rw [hI120.2.2.2 118 (by decide), hI84.2.2.2 118 (by decide)]; exact E1.1 118 (by decide) (by decide)
      refine r_iload_n (dc dkX13_snapShot 66 rfl) rfl (np 121 rfl ?_)
      refine r_bipush (dc dkX13_snapShot 67 rfl) bp_8 (np 123 rfl ?_)
      refine r_icmp_ge (tgt := 152) (dc dkX13_snapShot 68 rfl) rfl (by first | assumption | decide | omega) (by first | assumption | decide | omega) (fun h123 => ?_) (fun h123 => (np 126 rfl ?_))
      · skip
        refine r_aload_n (dc dkX13_snapShot 84 rfl) rfl (np 153 rfl ?_)
        refine r_dup (dc dkX13_snapShot 85 rfl) rfl (np 154 rfl ?_)
        refine r_gI 27 (dc dkX13_snapShot 86 rfl) flX13_273 fd_111_27 rfl (np 157 rfl ?_)
        refine r_iconst (dc dkX13_snapShot 87 rfl) (np 158 rfl ?_)
        refine r_iadd (dc dkX13_snapShot 88 rfl) (np 159 rfl ?_)
        refine r_pI 27 (dc dkX13_snapShot 89 rfl) fpX13_273 fd_111_27 rfl (np 162 rfl ?_)
        exact r_vret (dc dkX13_snapShot 90 rfl) rfl (by
            have k : ∀ c, ¬ c = 117 → ¬ c = 120 → τ7 c = τ5 c := fun c h1 h2 => by rw [hI120.2.2.2 c h2, hI84.2.2.2 c h1]
            refine ⟨rfl, ⟨fun c h1 h2 => by rw [ju_off _ _ _ _ _ h1]; have h3 := h2; simp at h3; rw [k c (by omega) (by omega)]; exact E1.1 c h1 h2, fun j hj => by rw [ju_ne (fun z => hj (by rw [z.2]; decide)), k 111 (by decide) (by decide)]; exact E1.2 j hj⟩, by rw [ju_at, e27b], fun i j i0 i1 j0 j1 => ?_, fun j j0 j1 => ?_, fun i j i0 i1 j0 j1 => ?_, fun j j0 j1 => ?_⟩
            · rw [ju_off _ _ _ _ _ (by decide), hI120.2.2.2 117 (by decide), hI84.2.2.1 _ (by omega)]; exact E3 i j i0 i1 j0 j1
            · rw [ju_off _ _ _ _ _ (by decide), hI120.2.2.2 117 (by decide)]; exact hI84.2.1 j j0 (by omega)
            · rw [ju_off _ _ _ _ _ (by decide), hI120.2.2.1 _ (by omega)]; exact E4 i j i0 i1 j0 j1
            · rw [ju_off _ _ _ _ _ (by decide)]; exact hI120.2.1 j j0 (by omega))
      refine r_aload_n (dc dkX13_snapShot 69 rfl) rfl (np 127 rfl ?_)
      refine r_getR (dc dkX13_snapShot 70 rfl) flX13_35 fd_111_22 (np 130 rfl ?_)
      refine r_bipush (dc dkX13_snapShot 71 rfl) bp_8 (np 132 rfl ?_)
      refine r_aload_n (dc dkX13_snapShot 72 rfl) rfl (np 133 rfl ?_)
      refine r_gI 27 (dc dkX13_snapShot 73 rfl) flX13_273 fd_111_27 rfl (np 136 rfl ?_)
      refine r_imul (dc dkX13_snapShot 74 rfl) (np 137 rfl ?_)
      refine r_iload_n (dc dkX13_snapShot 75 rfl) rfl (np 138 rfl ?_)
      refine r_iadd (dc dkX13_snapShot 76 rfl) (np 139 rfl ?_)
      refine r_aload_n (dc dkX13_snapShot 77 rfl) rfl (np 140 rfl ?_)
      refine r_getR (dc dkX13_snapShot 78 rfl) flX13_28 fd_111_20 (np 143 rfl ?_)
      refine r_iload_n (dc dkX13_snapShot 79 rfl) rfl (np 144 rfl ?_)
      refine r_lald (dc dkX13_snapShot 80 rfl) ar_118 (by omega) (np 145 rfl ?_)
      refine r_last (dc dkX13_snapShot 81 rfl) ar_120 (by omega) (np 146 rfl ?_)
      refine r_iinc (lv' := [(1, _), (0, _)]) (dc dkX13_snapShot 82 rfl) (Nat.le_of_ble_eq_true rfl) rfl rfl (np 149 rfl ?_)
      refine r_goto (tgt := 120) (dc dkX13_snapShot 83 rfl) rfl ?_
      refine r_pick [1, 0] rfl ?_
      exact ih120 _ _ ⟨by omega, fun j j0 j1 => by by_cases hj : j = i; rw [hj, e27b, ju_at, e118]; rw [e27b, ju_ne (by omega)]; exact hI120.2.1 j j0 (by omega), fun x hx => by rw [e27b, ju_ne (by omega)]; exact hI120.2.2.1 x hx, fun c hc => by rw [ju_off _ _ _ _ _ hc]; exact hI120.2.2.2 c hc⟩ (by omega)
    refine r_aload_n (dc dkX13_snapShot 49 rfl) rfl (np 92 rfl ?_)
    refine r_getR (dc dkX13_snapShot 50 rfl) flX13_25 fd_111_19 (np 95 rfl ?_)
    refine r_sipush (dc dkX13_snapShot 51 rfl) sp_241 (np 98 rfl ?_)
    refine r_aload_n (dc dkX13_snapShot 52 rfl) rfl (np 99 rfl ?_)
    refine r_gI 27 (dc dkX13_snapShot 53 rfl) flX13_273 fd_111_27 rfl (np 102 rfl ?_)
    refine r_imul (dc dkX13_snapShot 54 rfl) (np 103 rfl ?_)
    refine r_iload_n (dc dkX13_snapShot 55 rfl) rfl (np 104 rfl ?_)
    refine r_iadd (dc dkX13_snapShot 56 rfl) (np 105 rfl ?_)
    refine r_aload_n (dc dkX13_snapShot 57 rfl) rfl (np 106 rfl ?_)
    refine r_getR (dc dkX13_snapShot 58 rfl) flX13_13 fd_111_15 (np 109 rfl ?_)
    refine r_iload_n (dc dkX13_snapShot 59 rfl) rfl (np 110 rfl ?_)
    refine r_iald (dc dkX13_snapShot 60 rfl) ar_113 (by omega) (np 111 rfl ?_)
    refine r_iast (dc dkX13_snapShot 61 rfl) ar_117 (by omega) (np 112 rfl ?_)
    refine r_iinc (lv' := [(1, _), (0, _)]) (dc dkX13_snapShot 62 rfl) (Nat.le_of_ble_eq_true rfl) rfl rfl (np 115 rfl ?_)
    refine r_goto (tgt := 84) (dc dkX13_snapShot 63 rfl) rfl ?_
    refine r_pick [1, 0] rfl ?_
    exact ih84 _ _ ⟨by omega, fun j j0 j1 => by by_cases hj : j = i; rw [hj, e27, ju_at, e113]; rw [e27, ju_ne (by omega)]; exact hI84.2.1 j j0 (by omega), fun x hx => by rw [e27, ju_ne (by omega)]; exact hI84.2.2.1 x hx, fun c hc => by rw [ju_off _ _ _ _ _ hc]; exact hI84.2.2.2 c hc⟩ (by omega)
  refine r_aload_n (dc dkX13_snapShot 0 rfl) rfl (np 1 rfl ?_)
  refine r_gI 27 (dc dkX13_snapShot 1 rfl) flX13_273 fd_111_27 rfl (np 4 rfl ?_)
  refine r_bipush (dc dkX13_snapShot 2 rfl) bp_8 (np 6 rfl ?_)
  refine r_icmp_ne (tgt := 82) (dc dkX13_snapShot 3 rfl) rfl (by first | assumption | decide | omega) (by first | assumption | decide | omega) (fun h6 => ?_) (fun h6 => (np 9 rfl ?_))
  · skip
    refine r_pick [0] rfl ?_
    exact jj82 _ (by
          first
          | exact ⟨mdT.refl _ _ _, by omega, fun i j _ _ _ _ => by rw [if_neg (by omega)], fun i j _ _ _ _ => by rw [if_neg (by omega)]⟩
          | (have k : ∀ c, ¬ c = 117 → ¬ c = 120 → τ2 c = σ c := fun c h1 h2 => by rw [hI45.2.2.2 c h2, hI13.2.2.2 c h1]
             refine ⟨⟨fun c h1 h2 => by rw [ju_off _ _ _ _ _ h1]; simp at h2; exact k c (by omega) (by omega), fun j hj => by rw [ju_ne (fun z => hj (by rw [z.2]; decide)), k 111 (by decide) (by decide)]⟩, by rw [ju_at, k 111 (by decide) (by decide)]; omega, fun i j i0 i1 j0 j1 => ?_, fun i j i0 i1 j0 j1 => ?_⟩
             · rw [ju_off _ _ _ _ _ (by decide), hI45.2.2.2 117 (by decide), hI13.2.1 _ (by omega) (by omega), if_pos (by omega)]
               congr 1; omega
             · rw [ju_off _ _ _ _ _ (by decide), hI45.2.1 _ (by omega) (by omega), if_pos (by omega)]
               congr 1; omega))
  refine r_sipush (dc dkX13_snapShot 4 rfl) sp_241 (np 12 rfl ?_)
  refine r_istore_n (lv' := [(1, _), (0, _)]) (dc dkX13_snapShot 5 rfl) (Nat.le_of_ble_eq_true rfl) rfl (np 13 rfl ?_)
  refine r_pick [1, 0] (lv' := [(0, _), (1, _)]) rfl ?_
  refine jlp2 (P := fun (i : Int) (τ : jS) => jR _ _ _ 13 [(0, .ref 111), (1, vI i)] [] τ) (I := fun (i : Int) (τ : jS) => (241 ≤ i ∧ i ≤ 1928) ∧ (∀ x, 0 ≤ x → x < i - 241 → τ 117 x = σ 117 (x + 241)) ∧ (∀ x, i - 241 ≤ x → τ 117 x = σ 117 x) ∧ ∀ c, ¬ c = 117 → τ c = σ c) (fun (i : Int) (τ : jS) => (1928 - i).toNat) ?_ _ _ ⟨by omega, fun x _ _ => by omega, fun _ _ => rfl, fun _ _ => rfl⟩
  intro i τ hI13 ih13
  refine r_iload_n (dc dkX13_snapShot 6 rfl) rfl (np 14 rfl ?_)
  refine r_sipush (dc dkX13_snapShot 7 rfl) sp_1928 (np 17 rfl ?_)
  refine r_icmp_ge (tgt := 42) (dc dkX13_snapShot 8 rfl) rfl (by first | assumption | decide | omega) (by first | assumption | decide | omega) (fun h17 => ?_) (fun h17 => (np 20 rfl ?_))
  · skip
    refine r_bipush (dc dkX13_snapShot 21 rfl) bp_8 (np 44 rfl ?_)
    refine r_istore_n (lv' := [(1, _), (0, _)]) (dc dkX13_snapShot 22 rfl) (Nat.le_of_ble_eq_true rfl) rfl (np 45 rfl ?_)
    refine r_pick [1, 0] (lv' := [(0, _), (1, _)]) rfl ?_
    refine jlp2 (P := fun (i : Int) (τ2 : jS) => jR _ _ _ 45 [(0, .ref 111), (1, vI i)] [] τ2) (I := fun (i : Int) (τ2 : jS) => (8 ≤ i ∧ i ≤ 64) ∧ (∀ x, 0 ≤ x → x < i - 8 → τ2 120 x = σ 120 (x + 8)) ∧ (∀ x, i - 8 ≤ x → τ2 120 x = σ 120 x) ∧ ∀ c, ¬ c = 120 → τ2 c = τ c) (fun (i : Int) (τ2 : jS) => (64 - i).toNat) ?_ _ _ ⟨by omega, fun x _ _ => by omega, fun _ _ => by rw [hI13.2.2.2 120 (by decide)], fun _ _ => rfl⟩
    intro i τ2 hI45 ih45
    refine r_iload_n (dc dkX13_snapShot 23 rfl) rfl (np 46 rfl ?_)
    refine r_bipush (dc dkX13_snapShot 24 rfl) bp_64 (np 48 rfl ?_)
    refine r_icmp_ge (tgt := 72) (dc dkX13_snapShot 25 rfl) rfl (by first | assumption | decide | omega) (by first | assumption | decide | omega) (fun h48 => ?_) (fun h48 => (np 51 rfl ?_))
    · skip
      refine r_aload_n (dc dkX13_snapShot 38 rfl) rfl (np 73 rfl ?_)
      refine r_dup (dc dkX13_snapShot 39 rfl) rfl (np 74 rfl ?_)
      refine r_gI 27 (dc dkX13_snapShot 40 rfl) flX13_273 fd_111_27 rfl (np 77 rfl ?_)
      refine r_iconst (dc dkX13_snapShot 41 rfl) (np 78 rfl ?_)
      refine r_isub (dc dkX13_snapShot 42 rfl) (np 79 rfl ?_)
      refine r_pI 27 (dc dkX13_snapShot 43 rfl) fpX13_273 fd_111_27 rfl (np 82 rfl ?_)
      refine r_pick [0] rfl ?_
      exact jj82 _ (by
            first
            | exact ⟨mdT.refl _ _ _, by omega, fun i j _ _ _ _ => by rw [if_neg (by omega)], fun i j _ _ _ _ => by rw [if_neg (by omega)]⟩
            | (have k : ∀ c, ¬ c = 117 → ¬ c = 120 → τ2 c = σ c := fun c h1 h2 => by rw [hI45.2.2.2 c h2, hI13.2.2.2 c h1]
               refine ⟨⟨fun c h1 h2 => by rw [ju_off _ _ _ _ _ h1]; simp at h2; exact k c (by omega) (by omega), fun j hj => by rw [ju_ne (fun z => hj (by rw [z.2]; decide)), k 111 (by decide) (by decide)]⟩, by rw [ju_at, k 111 (by decide) (by decide)]; omega, fun i j i0 i1 j0 j1 => ?_, fun i j i0 i1 j0 j1 => ?_⟩
               · rw [ju_off _ _ _ _ _ (by decide), hI45.2.2.2 117 (by decide), hI13.2.1 _ (by omega) (by omega), if_pos (by omega)]
                 congr 1; omega
               · rw [ju_off _ _ _ _ _ (by decide), hI45.2.1 _ (by omega) (by omega), if_pos (by omega)]
                 congr 1; omega))
    refine r_aload_n (dc dkX13_snapShot 26 rfl) rfl (np 52 rfl ?_)
    refine r_getR (dc dkX13_snapShot 27 rfl) flX13_35 fd_111_22 (np 55 rfl ?_)
    refine r_iload_n (dc dkX13_snapShot 28 rfl) rfl (np 56 rfl ?_)
    refine r_bipush (dc dkX13_snapShot 29 rfl) bp_8 (np 58 rfl ?_)
    refine r_isub (dc dkX13_snapShot 30 rfl) (np 59 rfl ?_)
    refine r_aload_n (dc dkX13_snapShot 31 rfl) rfl (np 60 rfl ?_)
    refine r_getR (dc dkX13_snapShot 32 rfl) flX13_35 fd_111_22 (np 63 rfl ?_)
    refine r_iload_n (dc dkX13_snapShot 33 rfl) rfl (np 64 rfl ?_)
    refine r_lald (dc dkX13_snapShot 34 rfl) ar_120 (by omega) (np 65 rfl ?_)
    refine r_last (dc dkX13_snapShot 35 rfl) ar_120 (by omega) (np 66 rfl ?_)
    refine r_iinc (lv' := [(1, _), (0, _)]) (dc dkX13_snapShot 36 rfl) (Nat.le_of_ble_eq_true rfl) rfl rfl (np 69 rfl ?_)
    refine r_goto (tgt := 45) (dc dkX13_snapShot 37 rfl) rfl ?_
    refine r_pick [1, 0] rfl ?_
    exact ih45 _ _ ⟨by omega, fun x x0 x1 => by
            by_cases hx : x = i - 8
            · rw [hx, ju_at, hI45.2.2.1 i (by omega), show i - 8 + 8 = i by omega]
            · rw [ju_ne (by omega)]; exact hI45.2.1 x x0 (by omega), fun x x0 => by rw [ju_ne (by omega)]; exact hI45.2.2.1 x (by omega), fun c hc => by rw [ju_off _ _ _ _ _ hc]; exact hI45.2.2.2 c hc⟩ (by omega)
  refine r_aload_n (dc dkX13_snapShot 9 rfl) rfl (np 21 rfl ?_)
  refine r_getR (dc dkX13_snapShot 10 rfl) flX13_25 fd_111_19 (np 24 rfl ?_)
  refine r_iload_n (dc dkX13_snapShot 11 rfl) rfl (np 25 rfl ?_)
  refine r_sipush (dc dkX13_snapShot 12 rfl) sp_241 (np 28 rfl ?_)
  refine r_isub (dc dkX13_snapShot 13 rfl) (np 29 rfl ?_)
  refine r_aload_n (dc dkX13_snapShot 14 rfl) rfl (np 30 rfl ?_)
  refine r_getR (dc dkX13_snapShot 15 rfl) flX13_25 fd_111_19 (np 33 rfl ?_)
  refine r_iload_n (dc dkX13_snapShot 16 rfl) rfl (np 34 rfl ?_)
  refine r_iald (dc dkX13_snapShot 17 rfl) ar_117 (by omega) (np 35 rfl ?_)
  refine r_iast (dc dkX13_snapShot 18 rfl) ar_117 (by omega) (np 36 rfl ?_)
  refine r_iinc (lv' := [(1, _), (0, _)]) (dc dkX13_snapShot 19 rfl) (Nat.le_of_ble_eq_true rfl) rfl rfl (np 39 rfl ?_)
  refine r_goto (tgt := 13) (dc dkX13_snapShot 20 rfl) rfl ?_
  refine r_pick [1, 0] rfl ?_
  exact ih13 _ _ ⟨by omega, fun x x0 x1 => by
          by_cases hx : x = i - 241
          · rw [hx, ju_at, hI13.2.2.1 i (by omega), show i - 241 + 241 = i by omega]
          · rw [ju_ne (by omega)]; exact hI13.2.1 x x0 (by omega), fun x x0 => by rw [ju_ne (by omega)]; exact hI13.2.2.1 x (by omega), fun c hc => by rw [ju_off _ _ _ _ _ hc]; exact hI13.2.2.2 c hc⟩ (by omega)
set_option maxRecDepth 100000 in
set_option maxHeartbeats 4000000 in
theorem c_X13_layRead {σ : jS} : Jm 1 miX13_layRead [.ref 111] σ (fun r τ => r = none ∧ same [114] σ τ ∧ (∀ j, 0 ≤ j → j < 241 → τ 114 j = σ 113 j) ∧ ∀ j, 241 ≤ j → τ 114 j = σ 114 j) := by
  refine jm_ofF (Po := (fun r τ => r = none ∧ same [114] σ τ ∧ (∀ j, 0 ≤ j → j < 241 → τ 114 j = σ 113 j) ∧ ∀ j, 241 ≤ j → τ 114 j = σ 114 j)) (plainFor_of_name (by decide)) (Nat.le_of_ble_eq_true rfl) (lv := [(0, _)]) rfl ?_
  refine r_iconst (dc dkX13_layRead 0 rfl) (np 1 rfl ?_)
  refine r_istore_n (lv' := [(1, _), (0, _)]) (dc dkX13_layRead 1 rfl) (Nat.le_of_ble_eq_true rfl) rfl (np 2 rfl ?_)
  refine r_pick [1, 0] (lv' := [(0, _), (1, _)]) rfl ?_
  refine jlp2 (P := fun (i : Int) (τ : jS) => jR _ _ _ 2 [(0, .ref 111), (1, vI i)] [] τ) (I := fun (i : Int) (τ : jS) => (0 ≤ i ∧ i ≤ 241) ∧ same [114] σ τ ∧ (∀ j, 0 ≤ j → j < i → τ 114 j = σ 113 j) ∧ ∀ j, 241 ≤ j → τ 114 j = σ 114 j) (fun (i : Int) (τ : jS) => (241 - i).toNat) ?_ _ _ ⟨by omega, same.refl _ _, fun _ _ _ => by omega, fun _ _ => rfl⟩
  intro i τ hI2 ih2
  refine r_iload_n (dc dkX13_layRead 2 rfl) rfl (np 3 rfl ?_)
  refine r_sipush (dc dkX13_layRead 3 rfl) sp_241 (np 6 rfl ?_)
  refine r_icmp_ge (tgt := 27) (dc dkX13_layRead 4 rfl) rfl (by first | assumption | decide | omega) (by first | assumption | decide | omega) (fun h6 => ?_) (fun h6 => (np 9 rfl ?_))
  · skip
    exact r_vret (dc dkX13_layRead 15 rfl) rfl ⟨rfl, hI2.2.1, fun j j0 j1 => hI2.2.2.1 j j0 (by omega), hI2.2.2.2⟩
  refine r_aload_n (dc dkX13_layRead 5 rfl) rfl (np 10 rfl ?_)
  refine r_getR (dc dkX13_layRead 6 rfl) flX13_16 fd_111_16 (np 13 rfl ?_)
  refine r_iload_n (dc dkX13_layRead 7 rfl) rfl (np 14 rfl ?_)
  refine r_aload_n (dc dkX13_layRead 8 rfl) rfl (np 15 rfl ?_)
  refine r_getR (dc dkX13_layRead 9 rfl) flX13_13 fd_111_15 (np 18 rfl ?_)
  refine r_iload_n (dc dkX13_layRead 10 rfl) rfl (np 19 rfl ?_)
  refine r_iald (dc dkX13_layRead 11 rfl) ar_113 (by omega) (np 20 rfl ?_)
  refine r_iast (dc dkX13_layRead 12 rfl) ar_114 (by omega) (np 21 rfl ?_)
  refine r_iinc (lv' := [(1, _), (0, _)]) (dc dkX13_layRead 13 rfl) (Nat.le_of_ble_eq_true rfl) rfl rfl (np 24 rfl ?_)
  refine r_goto (tgt := 2) (dc dkX13_layRead 14 rfl) rfl ?_
  refine r_pick [1, 0] rfl ?_
  exact ih2 _ _ ⟨by omega, hI2.2.1.put (by decide), fun j j0 j1 => by by_cases hj : j = i; rw [hj, ju_at, hI2.2.1 113 (by decide)]; rw [ju_ne (by omega)]; exact hI2.2.2.1 j j0 (by omega), fun j hj => by rw [ju_ne (by omega)]; exact hI2.2.2.2 j hj⟩ (by omega)
theorem wrF_b (n : Int) (P pk : Int → Int) (bell m x : Int) (N : Int → Int) (Q : Int → Int → Int) : cB 5 (wrF n P pk bell m x N Q) := by
  have := wrA_b n P pk
  unfold wrF bite
  split
  · omega
  · split <;> omega
set_option maxRecDepth 100000 in
set_option maxHeartbeats 4000000 in
theorem c_X13_change {σ : jS} (hp : cB 8 (σ 111 27)) (hH : okH σ 114) {b : Int} (hb : cB 8 b) (hn3 : 3 ≤ cn σ 114 b ∧ cn σ 114 b ≤ 8) (hc : ∀ i, 0 ≤ i → i < cn σ 114 b → (-1000 ≤ xa σ 114 b i ∧ xa σ 114 b i ≤ 1000) ∧ (-1000 ≤ ya σ 114 b i ∧ ya σ 114 b i ≤ 1000)) (hO : ∀ q, 0 ≤ q → q < σ 114 4 → ¬ q = b → vB σ 114 q) : Jm 8 miX13_change [.ref 111, vI b] σ (fun r τ => r = some (vI (wrF (cn σ 114 b) (cP σ 114 b) (pkR σ 114) (σ 114 2) (σ 114 4) b (cn σ 114) (rP σ 114))) ∧ (¬ wrF (cn σ 114 b) (cP σ 114 b) (pkR σ 114) (σ 114 2) (σ 114 4) b (cn σ 114) (rP σ 114) = 0 → τ = σ) ∧ (wrF (cn σ 114 b) (cP σ 114 b) (pkR σ 114) (σ 114 2) (σ 114 4) b (cn σ 114) (rP σ 114) = 0 → ∃ τ1, SS σ τ1 ∧ (∀ c, ¬ c = 113 → τ c = τ1 c) ∧ (∀ j, 0 ≤ j → j < 241 → τ 113 j = σ 114 j) ∧ ∀ j, 241 ≤ j → τ 113 j = σ 113 j)) := by
  have m4 := hH.2.2.2.2.1
  have wb := wrF_b (cn σ 114 b) (cP σ 114 b) (pkR σ 114) (σ 114 2) (σ 114 4) b (cn σ 114) (rP σ 114)
  refine jm_ofF (Po := (fun r τ => r = some (vI (wrF (cn σ 114 b) (cP σ 114 b) (pkR σ 114) (σ 114 2) (σ 114 4) b (cn σ 114) (rP σ 114))) ∧ (¬ wrF (cn σ 114 b) (cP σ 114 b) (pkR σ 114) (σ 114 2) (σ 114 4) b (cn σ 114) (rP σ 114) = 0 → τ = σ) ∧ (wrF (cn σ 114 b) (cP σ 114 b) (pkR σ 114) (σ 114 2) (σ 114 4) b (cn σ 114) (rP σ 114) = 0 → ∃ τ1, SS σ τ1 ∧ (∀ c, ¬ c = 113 → τ c = τ1 c) ∧ (∀ j, 0 ≤ j → j < 241 → τ 113 j = σ 114 j) ∧ ∀ j, 241 ≤ j → τ 113 j = σ 113 j))) (plainFor_of_name (by decide)) (Nat.le_of_ble_eq_true rfl) (lv := [(0, _), (1, _)]) rfl ?_
  refine r_aload_n (dc dkX13_change 0 rfl) rfl (np 1 rfl ?_)
  refine r_getR (dc dkX13_change 1 rfl) flX13_16 fd_111_16 (np 4 rfl ?_)
  refine r_iload_n (dc dkX13_change 2 rfl) rfl (np 5 rfl ?_)
  refine r_aload_n (dc dkX13_change 3 rfl) rfl (np 6 rfl ?_)
  refine r_getR (dc dkX13_change 4 rfl) flX13_16 fd_111_16 (np 9 rfl ?_)
  refine r_iconst (dc dkX13_change 5 rfl) (np 10 rfl ?_)
  refine r_iald (dc dkX13_change 6 rfl) ar_114 (by omega) (np 11 rfl ?_)
  refine r_pS3 (y' := miX13_wrong) (dc dkX13_change 7 rfl) mlX13_246 seX13_wrong (Nat.le_of_ble_eq_true rfl) (Nat.le_of_ble_eq_true rfl) (c_X13_wrong ar_114 (by decide) hH hb m4 hn3 hc hO) (np 14 rfl ?_)
  refine r_istore_n (lv' := [(2, _), (0, _), (1, _)]) (dc dkX13_change 8 rfl) (Nat.le_of_ble_eq_true rfl) rfl (np 15 rfl ?_)
  refine r_iload_n (dc dkX13_change 9 rfl) rfl (np 16 rfl ?_)
  refine r_if_eq (tgt := 21) (dc dkX13_change 10 rfl) rfl (by omega) (fun h16 => ?_) (fun h16 => (np 19 rfl ?_))
  · skip
    refine r_aload_n (dc dkX13_change 13 rfl) rfl (np 22 rfl ?_)
    refine r_cV0 (y' := miX13_snapShot) (dc dkX13_change 14 rfl) mlX13_362 ceX13_snapShot ob_111 (Nat.le_of_ble_eq_true rfl) (Nat.le_of_ble_eq_true rfl) (c_X13_snapShot hp) (fun r τ2 hp2 => (np 25 rfl ?_))
    obtain ⟨rfl, hk2⟩ := hp2
    refine r_iconst (dc dkX13_change 15 rfl) (np 26 rfl ?_)
    refine r_istore_n (lv' := [(3, _), (2, _), (0, _), (1, _)]) (dc dkX13_change 16 rfl) (Nat.le_of_ble_eq_true rfl) rfl (np 27 rfl ?_)
    refine r_pick [2, 0] (lv' := [(0, _), (3, _)]) rfl ?_
    refine jlp2 (P := fun (i : Int) (τ : jS) => jR _ _ _ 27 [(0, .ref 111), (3, vI i)] [] τ) (I := fun (i : Int) (τ : jS) => (0 ≤ i ∧ i ≤ 241) ∧ (∀ c, ¬ c = 113 → τ c = τ2 c) ∧ (∀ j, 0 ≤ j → j < i → τ 113 j = σ 114 j) ∧ ∀ j, 241 ≤ j → τ 113 j = σ 113 j) (fun (i : Int) (τ : jS) => (241 - i).toNat) ?_ _ _ ⟨by omega, fun _ _ => rfl, fun _ _ _ => by omega, fun j _ => by rw [hk2.1.1 113 (by decide) (by decide)]⟩
    intro i τ hI27 ih27
    refine r_iload_n (dc dkX13_change 17 rfl) rfl (np 28 rfl ?_)
    refine r_sipush (dc dkX13_change 18 rfl) sp_241 (np 31 rfl ?_)
    refine r_icmp_ge (tgt := 52) (dc dkX13_change 19 rfl) rfl (by first | assumption | decide | omega) (by first | assumption | decide | omega) (fun h31 => ?_) (fun h31 => (np 34 rfl ?_))
    · skip
      refine r_iconst (dc dkX13_change 30 rfl) (np 53 rfl ?_)
      exact r_iret (dc dkX13_change 31 rfl) rfl ⟨by rw [h16], fun z => absurd h16 z, fun _ => ⟨τ2, hk2, hI27.2.1, fun j j0 j1 => hI27.2.2.1 j j0 (by omega), hI27.2.2.2⟩⟩
    refine r_aload_n (dc dkX13_change 20 rfl) rfl (np 35 rfl ?_)
    refine r_getR (dc dkX13_change 21 rfl) flX13_13 fd_111_15 (np 38 rfl ?_)
    refine r_iload_n (dc dkX13_change 22 rfl) rfl (np 39 rfl ?_)
    refine r_aload_n (dc dkX13_change 23 rfl) rfl (np 40 rfl ?_)
    refine r_getR (dc dkX13_change 24 rfl) flX13_16 fd_111_16 (np 43 rfl ?_)
    refine r_iload_n (dc dkX13_change 25 rfl) rfl (np 44 rfl ?_)
    refine r_iald (dc dkX13_change 26 rfl) ar_114 (by omega) (np 45 rfl ?_)
    refine r_iast (dc dkX13_change 27 rfl) ar_113 (by omega) (np 46 rfl ?_)
    refine r_iinc (lv' := [(3, _), (0, _)]) (dc dkX13_change 28 rfl) (Nat.le_of_ble_eq_true rfl) rfl rfl (np 49 rfl ?_)
    refine r_goto (tgt := 27) (dc dkX13_change 29 rfl) rfl ?_
    refine r_pick [1, 0] rfl ?_
    exact ih27 _ _ ⟨by omega, fun c hc => by rw [ju_off _ _ _ _ _ hc]; exact hI27.2.1 c hc, fun j j0 j1 => by by_cases hj : j = i; rw [hj, ju_at, hI27.2.1 114 (by decide), hk2.1.1 114 (by decide) (by decide)]; rw [ju_ne (by omega)]; exact hI27.2.2.1 j j0 (by omega), fun j hj => by rw [ju_ne (by omega)]; exact hI27.2.2.2 j hj⟩ (by omega)
  refine r_iload_n (dc dkX13_change 11 rfl) rfl (np 20 rfl ?_)
  exact r_iret (dc dkX13_change 12 rfl) rfl ⟨rfl, fun _ => rfl, fun z => absurd z h16⟩
set_option maxRecDepth 100000 in
set_option maxHeartbeats 4000000 in
theorem c_X13_undo {σ : jS} (hp : cB 8 (σ 111 27)) : Jm 1 miX13_undo [.ref 111] σ (fun r τ => (σ 111 27 = 0 → r = some (vI (-1)) ∧ τ = ju σ 111 0 0) ∧ (¬ σ 111 27 = 0 → r = some (vI (σ 111 27 - 1)) ∧ mdT [0, 27] [113, 118] σ τ ∧ τ 111 0 = 0 ∧ τ 111 27 = σ 111 27 - 1 ∧ (∀ j, 0 ≤ j → j < 241 → τ 113 j = σ 117 (241 * (σ 111 27 - 1) + j)) ∧ (∀ j, 241 ≤ j → τ 113 j = σ 113 j) ∧ ∀ j, 0 ≤ j → j < 8 → τ 118 j = σ 120 (8 * (σ 111 27 - 1) + j))) := by
  have e27 : ju σ 111 0 0 111 27 = σ 111 27 := ju_ne (by decide)
  refine jm_ofF (Po := (fun r τ => (σ 111 27 = 0 → r = some (vI (-1)) ∧ τ = ju σ 111 0 0) ∧ (¬ σ 111 27 = 0 → r = some (vI (σ 111 27 - 1)) ∧ mdT [0, 27] [113, 118] σ τ ∧ τ 111 0 = 0 ∧ τ 111 27 = σ 111 27 - 1 ∧ (∀ j, 0 ≤ j → j < 241 → τ 113 j = σ 117 (241 * (σ 111 27 - 1) + j)) ∧ (∀ j, 241 ≤ j → τ 113 j = σ 113 j) ∧ ∀ j, 0 ≤ j → j < 8 → τ 118 j = σ 120 (8 * (σ 111 27 - 1) + j)))) (plainFor_of_name (by decide)) (Nat.le_of_ble_eq_true rfl) (lv := [(0, _)]) rfl ?_
  refine r_aload_n (dc dkX13_undo 0 rfl) rfl (np 1 rfl ?_)
  refine r_iconst (dc dkX13_undo 1 rfl) (np 2 rfl ?_)
  refine r_pI 0 (dc dkX13_undo 2 rfl) fpX13_94 fd_111_0 rfl (np 5 rfl ?_)
  refine r_aload_n (dc dkX13_undo 3 rfl) rfl (np 6 rfl ?_)
  refine r_gI 27 (dc dkX13_undo 4 rfl) flX13_273 fd_111_27 rfl (np 9 rfl ?_)
  refine r_if_ne (tgt := 14) (dc dkX13_undo 5 rfl) rfl (by rw [e27]; omega) (fun h9 => ?_) (fun h9 => (np 12 rfl ?_))
  · skip
    refine r_aload_n (dc dkX13_undo 8 rfl) rfl (np 15 rfl ?_)
    refine r_dup (dc dkX13_undo 9 rfl) rfl (np 16 rfl ?_)
    refine r_gI 27 (dc dkX13_undo 10 rfl) flX13_273 fd_111_27 rfl (np 19 rfl ?_)
    refine r_iconst (dc dkX13_undo 11 rfl) (np 20 rfl ?_)
    refine r_isub (dc dkX13_undo 12 rfl) (np 21 rfl ?_)
    refine r_pI 27 (dc dkX13_undo 13 rfl) fpX13_273 fd_111_27 rfl (np 24 rfl ?_)
    refine r_abs (fun ρ => mdT [0, 27] [] σ ρ ∧ ρ 111 0 = 0 ∧ ρ 111 27 = σ 111 27 - 1) ⟨((mdT.refl _ _ _).put (by decide)).put (by decide), by rw [ju_ne (by decide), ju_at], by rw [ju_at, e27]⟩ ?_
    intro ρ hF
    obtain ⟨F1, F2, F3⟩ := hF
    rw [e27] at h9
    refine r_iconst (dc dkX13_undo 14 rfl) (np 25 rfl ?_)
    refine r_istore_n (lv' := [(1, _), (0, _)]) (dc dkX13_undo 15 rfl) (Nat.le_of_ble_eq_true rfl) rfl (np 26 rfl ?_)
    refine r_pick [1, 0] (lv' := [(0, _), (1, _)]) rfl ?_
    refine jlp2 (P := fun (i : Int) (τ : jS) => jR _ _ _ 26 [(0, .ref 111), (1, vI i)] [] τ) (I := fun (i : Int) (τ : jS) => (0 ≤ i ∧ i ≤ 241) ∧ (∀ c, ¬ c = 113 → τ c = ρ c) ∧ (∀ j, 0 ≤ j → j < i → τ 113 j = σ 117 (241 * (σ 111 27 - 1) + j)) ∧ ∀ j, 241 ≤ j → τ 113 j = σ 113 j) (fun (i : Int) (τ : jS) => (241 - i).toNat) ?_ _ _ ⟨by omega, fun _ _ => rfl, fun _ _ _ => by omega, fun j _ => by rw [F1.1 113 (by decide) (by decide)]⟩
    intro i τ hI26 ih26
    have f27 : τ 111 27 = σ 111 27 - 1 := by rw [hI26.2.1 111 (by decide)]; exact F3
    have f117 : τ 117 = σ 117 := by rw [hI26.2.1 117 (by decide)]; exact F1.1 117 (by decide) (by decide)
    refine r_iload_n (dc dkX13_undo 16 rfl) rfl (np 27 rfl ?_)
    refine r_sipush (dc dkX13_undo 17 rfl) sp_241 (np 30 rfl ?_)
    refine r_icmp_ge (tgt := 60) (dc dkX13_undo 18 rfl) rfl (by first | assumption | decide | omega) (by first | assumption | decide | omega) (fun h30 => ?_) (fun h30 => (np 33 rfl ?_))
    · skip
      refine r_iconst (dc dkX13_undo 34 rfl) (np 61 rfl ?_)
      refine r_istore_n (lv' := [(1, _), (0, _)]) (dc dkX13_undo 35 rfl) (Nat.le_of_ble_eq_true rfl) rfl (np 62 rfl ?_)
      refine r_pick [1, 0] (lv' := [(0, _), (1, _)]) rfl ?_
      refine jlp2 (P := fun (i : Int) (τ2 : jS) => jR _ _ _ 62 [(0, .ref 111), (1, vI i)] [] τ2) (I := fun (i : Int) (τ2 : jS) => (0 ≤ i ∧ i ≤ 8) ∧ (∀ c, ¬ c = 118 → τ2 c = τ c) ∧ ∀ j, 0 ≤ j → j < i → τ2 118 j = σ 120 (8 * (σ 111 27 - 1) + j)) (fun (i : Int) (τ2 : jS) => (8 - i).toNat) ?_ _ _ ⟨by omega, fun _ _ => rfl, fun _ _ _ => by omega⟩
      intro i τ2 hI62 ih62
      have g27 : τ2 111 27 = σ 111 27 - 1 := by rw [hI62.2.1 111 (by decide)]; exact f27
      have g120 : τ2 120 = σ 120 := by rw [hI62.2.1 120 (by decide), hI26.2.1 120 (by decide)]; exact F1.1 120 (by decide) (by decide)
      refine r_iload_n (dc dkX13_undo 36 rfl) rfl (np 63 rfl ?_)
      refine r_bipush (dc dkX13_undo 37 rfl) bp_8 (np 65 rfl ?_)
      refine r_icmp_ge (tgt := 94) (dc dkX13_undo 38 rfl) rfl (by first | assumption | decide | omega) (by first | assumption | decide | omega) (fun h65 => ?_) (fun h65 => (np 68 rfl ?_))
      · skip
        refine r_aload_n (dc dkX13_undo 54 rfl) rfl (np 95 rfl ?_)
        refine r_gI 27 (dc dkX13_undo 55 rfl) flX13_273 fd_111_27 rfl (np 98 rfl ?_)
        exact r_iret (dc dkX13_undo 56 rfl) rfl (by
            have k1 : τ2 111 = ρ 111 := by rw [hI62.2.1 111 (by decide), hI26.2.1 111 (by decide)]
            have k3 : τ2 113 = τ 113 := hI62.2.1 113 (by decide)
            exact ⟨fun z => absurd z h9, fun _ => ⟨by rw [g27], ⟨fun c h1 h2 => by have h3 := h2; simp at h3; rw [hI62.2.1 c (by omega), hI26.2.1 c (by omega)]; exact F1.1 c h1 (by simp), fun j hj => by rw [k1]; exact F1.2 j hj⟩, by rw [k1]; exact F2, g27, fun j j0 j1 => by rw [k3]; exact hI26.2.2.1 j j0 (by omega), fun j hj => by rw [k3]; exact hI26.2.2.2 j hj, fun j j0 j1 => hI62.2.2 j j0 (by omega)⟩⟩)
      refine r_aload_n (dc dkX13_undo 39 rfl) rfl (np 69 rfl ?_)
      refine r_getR (dc dkX13_undo 40 rfl) flX13_28 fd_111_20 (np 72 rfl ?_)
      refine r_iload_n (dc dkX13_undo 41 rfl) rfl (np 73 rfl ?_)
      refine r_aload_n (dc dkX13_undo 42 rfl) rfl (np 74 rfl ?_)
      refine r_getR (dc dkX13_undo 43 rfl) flX13_35 fd_111_22 (np 77 rfl ?_)
      refine r_bipush (dc dkX13_undo 44 rfl) bp_8 (np 79 rfl ?_)
      refine r_aload_n (dc dkX13_undo 45 rfl) rfl (np 80 rfl ?_)
      refine r_gI 27 (dc dkX13_undo 46 rfl) flX13_273 fd_111_27 rfl (np 83 rfl ?_)
      refine r_imul (dc dkX13_undo 47 rfl) (np 84 rfl ?_)
      refine r_iload_n (dc dkX13_undo 48 rfl) rfl (np 85 rfl ?_)
      refine r_iadd (dc dkX13_undo 49 rfl) (np 86 rfl ?_)
      refine r_lald (dc dkX13_undo 50 rfl) ar_120 (by omega) (np 87 rfl ?_)
      refine r_last (dc dkX13_undo 51 rfl) ar_118 (by omega) (np 88 rfl ?_)
      refine r_iinc (lv' := [(1, _), (0, _)]) (dc dkX13_undo 52 rfl) (Nat.le_of_ble_eq_true rfl) rfl rfl (np 91 rfl ?_)
      refine r_goto (tgt := 62) (dc dkX13_undo 53 rfl) rfl ?_
      refine r_pick [1, 0] rfl ?_
      exact ih62 _ _ ⟨by omega, fun c hc => by rw [ju_off _ _ _ _ _ hc]; exact hI62.2.1 c hc, fun j j0 j1 => by by_cases hj : j = i; rw [hj, ju_at, g27, g120]; rw [ju_ne (by omega)]; exact hI62.2.2 j j0 (by omega)⟩ (by omega)
    refine r_aload_n (dc dkX13_undo 19 rfl) rfl (np 34 rfl ?_)
    refine r_getR (dc dkX13_undo 20 rfl) flX13_13 fd_111_15 (np 37 rfl ?_)
    refine r_iload_n (dc dkX13_undo 21 rfl) rfl (np 38 rfl ?_)
    refine r_aload_n (dc dkX13_undo 22 rfl) rfl (np 39 rfl ?_)
    refine r_getR (dc dkX13_undo 23 rfl) flX13_25 fd_111_19 (np 42 rfl ?_)
    refine r_sipush (dc dkX13_undo 24 rfl) sp_241 (np 45 rfl ?_)
    refine r_aload_n (dc dkX13_undo 25 rfl) rfl (np 46 rfl ?_)
    refine r_gI 27 (dc dkX13_undo 26 rfl) flX13_273 fd_111_27 rfl (np 49 rfl ?_)
    refine r_imul (dc dkX13_undo 27 rfl) (np 50 rfl ?_)
    refine r_iload_n (dc dkX13_undo 28 rfl) rfl (np 51 rfl ?_)
    refine r_iadd (dc dkX13_undo 29 rfl) (np 52 rfl ?_)
    refine r_iald (dc dkX13_undo 30 rfl) ar_117 (by omega) (np 53 rfl ?_)
    refine r_iast (dc dkX13_undo 31 rfl) ar_113 (by omega) (np 54 rfl ?_)
    refine r_iinc (lv' := [(1, _), (0, _)]) (dc dkX13_undo 32 rfl) (Nat.le_of_ble_eq_true rfl) rfl rfl (np 57 rfl ?_)
    refine r_goto (tgt := 26) (dc dkX13_undo 33 rfl) rfl ?_
    refine r_pick [1, 0] rfl ?_
    exact ih26 _ _ ⟨by omega, fun c hc => by rw [ju_off _ _ _ _ _ hc]; exact hI26.2.1 c hc, fun j j0 j1 => by by_cases hj : j = i; rw [hj, ju_at, f27, f117]; rw [ju_ne (by omega)]; exact hI26.2.2.1 j j0 (by omega), fun j hj => by rw [ju_ne (by omega)]; exact hI26.2.2.2 j hj⟩ (by omega)
  refine r_iconst (dc dkX13_undo 6 rfl) (np 13 rfl ?_)
  exact r_iret (dc dkX13_undo 7 rfl) rfl (by rw [e27] at h9; exact ⟨fun _ => ⟨rfl, rfl⟩, fun z => absurd h9 z⟩)
