set_option maxRecDepth 100000 in
set_option maxHeartbeats 4000000 in
theorem c_X13_sentence {σ : jS} {t : Int → Int} {L : Int} (hL : σ 111 2 = L) (hL2 : cB 640 L) (hT : mTp t L σ) {ex : Int → Prop} {idn : Int → Int} (hS : MPn σ ex) : Jm 47 miX13_sentence [.ref 111] σ (fun r τ => (mdT [0, 2, 3, 4, 5, 6, 7, 8, 9, 10, 11, 13, 14, 46, 47, 48, 49, 50] [113, 121, 137, 138] σ τ ∧ τ 111 0 = 0 ∧ τ 111 2 = 0 ∧ τ 111 10 = (seF t L ex idn).1.1) ∧ ((seF t L ex idn).1.1 = 0 → r = some (vI (seF t L ex idn).2.1) ∧ (∀ j, (j < 270 ∨ 512 ≤ j) → τ 113 j = σ 113 j) ∧ τ 113 270 = 1 ∧ ∃ N M : Int, (0 ≤ N ∧ N ≤ 40) ∧ (0 ≤ M ∧ M ≤ 20) ∧ okNd N M (fun j => τ 113 (272 + j)) ∧ okSy M (τ 121) ∧ rpM N M (fun j => τ 113 (272 + j)) (τ 121) idn (τ 113 271) (seF t L ex idn).2.2) ∧ (¬ (seF t L ex idn).1.1 = 0 → r = some (vI (-1 - (seF t L ex idn).1.2)) ∧ τ 113 = σ 113 ∧ τ 121 = σ 121)) := by
  refine jm_ofF (Po := (fun r τ => (mdT [0, 2, 3, 4, 5, 6, 7, 8, 9, 10, 11, 13, 14, 46, 47, 48, 49, 50] [113, 121, 137, 138] σ τ ∧ τ 111 0 = 0 ∧ τ 111 2 = 0 ∧ τ 111 10 = (seF t L ex idn).1.1) ∧ ((seF t L ex idn).1.1 = 0 → r = some (vI (seF t L ex idn).2.1) ∧ (∀ j, (j < 270 ∨ 512 ≤ j) → τ 113 j = σ 113 j) ∧ τ 113 270 = 1 ∧ ∃ N M : Int, (0 ≤ N ∧ N ≤ 40) ∧ (0 ≤ M ∧ M ≤ 20) ∧ okNd N M (fun j => τ 113 (272 + j)) ∧ okSy M (τ 121) ∧ rpM N M (fun j => τ 113 (272 + j)) (τ 121) idn (τ 113 271) (seF t L ex idn).2.2) ∧ (¬ (seF t L ex idn).1.1 = 0 → r = some (vI (-1 - (seF t L ex idn).1.2)) ∧ τ 113 = σ 113 ∧ τ 121 = σ 121))) (plainFor_of_name (by decide)) (Nat.le_of_ble_eq_true rfl) (lv := [(0, _)]) rfl ?_
  refine r_aload_n (dc dkX13_sentence 0 rfl) rfl (np 1 rfl ?_)
  refine r_sipush (dc dkX13_sentence 1 rfl) sp_200 (np 4 rfl ?_)
  refine r_cV1 (y' := miX13_begin) (dc dkX13_sentence 2 rfl) mlX13_258 ceX13_begin ob_111 (Nat.le_of_ble_eq_true rfl) (Nat.le_of_ble_eq_true rfl) (c_X13_begin (by decide) hL hL2 hT) (fun r τ1 hp1 => (np 7 rfl ?_))
  obtain ⟨rfl, hs1, h01, h21, h101, hM1⟩ := hp1
  refine r_aload_n (dc dkX13_sentence 3 rfl) rfl (np 8 rfl ?_)
  refine r_iconst (dc dkX13_sentence 4 rfl) (np 9 rfl ?_)
  refine r_pI 46 (dc dkX13_sentence 5 rfl) fpX13_447 fd_111_46 rfl (np 12 rfl ?_)
  refine r_aload_n (dc dkX13_sentence 6 rfl) rfl (np 13 rfl ?_)
  refine r_iconst (dc dkX13_sentence 7 rfl) (np 14 rfl ?_)
  refine r_pI 47 (dc dkX13_sentence 8 rfl) fpX13_463 fd_111_47 rfl (np 17 rfl ?_)
  refine r_aload_n (dc dkX13_sentence 9 rfl) rfl (np 18 rfl ?_)
  refine r_iconst (dc dkX13_sentence 10 rfl) (np 19 rfl ?_)
  refine r_pI 48 (dc dkX13_sentence 11 rfl) fpX13_466 fd_111_48 rfl (np 22 rfl ?_)
  refine r_aload_n (dc dkX13_sentence 12 rfl) rfl (np 23 rfl ?_)
  refine r_iconst (dc dkX13_sentence 13 rfl) (np 24 rfl ?_)
  refine r_pI 50 (dc dkX13_sentence 14 rfl) fpX13_483 fd_111_50 rfl (np 27 rfl ?_)
  refine r_abs (fun ρ => mdT [0, 2, 3, 4, 5, 6, 7, 8, 9, 10, 11, 13, 14, 46, 47, 48, 49, 50] [137, 138] σ ρ ∧ MPp ρ t L 200 ex (0, 0) 0 1 ∧ ρ 111 0 = 0 ∧ ρ 111 2 = 0 ∧ ρ 111 46 = 0 ∧ ρ 111 47 = 0 ∧ ρ 111 50 = 0) ⟨?_, ?_, ?_, ?_, ?_, ?_, ?_⟩ ?_
  · exact ((((mdT.of hs1 (by decide)).put (by decide)).put (by decide)).put (by decide)).put (by decide)
  · have s : mdT [46, 47, 48, 50] [] τ1 (ju (ju (ju (ju τ1 111 46 0) 111 47 0) 111 48 0) 111 50 0) := ((((mdT.refl _ _ _).put (by decide)).put (by decide)).put (by decide)).put (by decide)
    have a46 : ju (ju (ju (ju τ1 111 46 0) 111 47 0) 111 48 0) 111 50 0 111 46 = 0 := by rw [ju_ne (by decide), ju_ne (by decide), ju_ne (by decide), ju_at]
    have a50 : ju (ju (ju (ju τ1 111 46 0) 111 47 0) 111 48 0) 111 50 0 111 50 = 0 := ju_at _ _ _ _
    refine ⟨md_T hM1 s (by decide) (by decide), rfl, by rw [ju_ne (by decide), ju_ne (by decide), ju_at], by decide, by rw [ju_ne (by decide), ju_at]; decide, by rw [a46]; decide, by rw [a50]; decide, fun i i0 i1 => ?_, fun i i0 i1 => ?_, MPn_s hS ?_ ?_⟩
    · rw [a46] at i1; omega
    · rw [a50] at i1; omega
    · rw [s.1 113 (by decide) (by decide), hs1.1 113 (by decide)]
    · rw [s.1 118 (by decide) (by decide), hs1.1 118 (by decide)]
  · rw [ju_ne (by decide), ju_ne (by decide), ju_ne (by decide), ju_ne (by decide)]; exact h01
  · rw [ju_ne (by decide), ju_ne (by decide), ju_ne (by decide), ju_ne (by decide)]; exact h21
  · rw [ju_ne (by decide), ju_ne (by decide), ju_ne (by decide), ju_at]
  · rw [ju_ne (by decide), ju_ne (by decide), ju_at]
  · rw [ju_at]
  intro ρ hF
  obtain ⟨Fr, hP, r0, r2, r46, r47, r50⟩ := hF
  refine r_aload_n (dc dkX13_sentence 15 rfl) rfl (np 28 rfl ?_)
  refine r_cV0 (y' := miX13_readOr) (dc dkX13_sentence 16 rfl) mlX13_480 ceX13_readOr ob_111 (Nat.le_of_ble_eq_true rfl) (Nat.le_of_ble_eq_true rfl) ((c_msent 8 1 (by decide) (by decide)).2.2 (idn := idn) hP) (fun r τ3 hp3 => (np 31 rfl ?_))
  obtain ⟨rfl, hy⟩ := hp3
  change MPo ρ t L 200 idn (seY t L ex idn) τ3 at hy
  change jR _ _ _ _ _ [vI (bI ((seY t L ex idn).1.1 = 0))] _
  have F3 : mdT [0, 2, 3, 4, 5, 6, 7, 8, 9, 10, 11, 13, 14, 46, 47, 48, 49, 50] [137, 138] σ τ3 := Fr.tr (hy.1.wide (by decide) (by decide))
  have z03 : τ3 111 0 = 0 := (hy.1.2 0 (by decide)).trans r0
  have z23 : τ3 111 2 = 0 := (hy.1.2 2 (by decide)).trans r2
  refine r_bn (tgt := 41) (dc dkX13_sentence 17 rfl) rfl (fun h31 => ?_) (fun h31 => (np 34 rfl ?_))
  · skip
    have k0 := km_0 (hy.2.1.1 h31)
    have kmb := kM_b (t := t) (L := L) (m := 200) (q := (seY t L ex idn).1.2)
    have m7 := (hy.2.1.1 h31).2.2.2.2.2.2.2.2.1
    refine r_aload_n (dc dkX13_sentence 23 rfl) rfl (np 42 rfl ?_)
    refine r_gI 7 (dc dkX13_sentence 24 rfl) flX13_120 fd_111_7 rfl (np 45 rfl ?_)
    refine r_if_eq (tgt := 61) (dc dkX13_sentence 25 rfl) rfl (by rw [m7]; omega) (fun h45 => ?_) (fun h45 => (np 48 rfl ?_))
    · skip
      obtain ⟨q1, q2, q3, q4, q5, q6, q7, q8, q9, q10⟩ := hy.2.2 h31
      rw [r46] at q4
      rw [r47] at q2 q4 q5
      rw [r50] at q5
      have hFe : (seF t L ex idn).1 = (seY t L ex idn).1 := gte_t (k0.mp h45)
      have hz : (seF t L ex idn).1.1 = 0 := by rw [hFe]; exact h31
      refine r_aload_n (dc dkX13_sentence 35 rfl) rfl (np 62 rfl ?_)
      refine r_getR (dc dkX13_sentence 36 rfl) flX13_13 fd_111_15 (np 65 rfl ?_)
      refine r_sipush (dc dkX13_sentence 37 rfl) sp_270 (np 68 rfl ?_)
      refine r_iconst (dc dkX13_sentence 38 rfl) (np 69 rfl ?_)
      refine r_iast (dc dkX13_sentence 39 rfl) ar_113 (by omega) (np 70 rfl ?_)
      refine r_aload_n (dc dkX13_sentence 40 rfl) rfl (np 71 rfl ?_)
      refine r_getR (dc dkX13_sentence 41 rfl) flX13_13 fd_111_15 (np 74 rfl ?_)
      refine r_sipush (dc dkX13_sentence 42 rfl) sp_271 (np 77 rfl ?_)
      refine r_aload_n (dc dkX13_sentence 43 rfl) rfl (np 78 rfl ?_)
      refine r_gI 49 (dc dkX13_sentence 44 rfl) flX13_453 fd_111_49 rfl (np 81 rfl ?_)
      refine r_iast (dc dkX13_sentence 45 rfl) ar_113 (by omega) (np 82 rfl ?_)
      refine r_iconst (dc dkX13_sentence 46 rfl) (np 83 rfl ?_)
      refine r_istore_n (lv' := [(1, _), (0, _)]) (dc dkX13_sentence 47 rfl) (Nat.le_of_ble_eq_true rfl) rfl (np 84 rfl ?_)
      refine r_pick [1, 0] (lv' := [(0, _), (1, _)]) rfl ?_
      refine jlp2 (P := fun (i : Int) (τ5 : jS) => jR _ _ _ 84 [(0, .ref 111), (1, vI i)] [] τ5) (I := fun (i : Int) (τ5 : jS) => (0 ≤ i ∧ i ≤ 240) ∧ (∀ j, 0 ≤ j → j < i → τ5 113 (272 + j) = τ3 137 j) ∧ (∀ j, (j < 270 ∨ 512 ≤ j) → τ5 113 j = τ3 113 j) ∧ τ5 113 270 = 1 ∧ τ5 113 271 = τ3 111 49 ∧ (∀ c, ¬ c = 113 → τ5 c = τ3 c)) (fun (i : Int) (τ5 : jS) => (240 - i).toNat) ?_ _ _ ⟨by omega, fun j _ _ => by omega, fun j hj => by rw [ju_ne (by omega), ju_ne (by omega)], by rw [ju_ne (by decide), ju_at], by rw [ju_at, ju_ne (by decide)], fun c hc => by rw [ju_off _ _ _ _ _ hc, ju_off _ _ _ _ _ hc]⟩
      intro i τ5 hI84 ih84
      refine r_iload_n (dc dkX13_sentence 48 rfl) rfl (np 85 rfl ?_)
      refine r_sipush (dc dkX13_sentence 49 rfl) sp_240 (np 88 rfl ?_)
      refine r_icmp_ge (tgt := 113) (dc dkX13_sentence 50 rfl) rfl (by first | assumption | decide | omega) (by first | assumption | decide | omega) (fun h88 => ?_) (fun h88 => (np 91 rfl ?_))
      · skip
        refine r_iconst (dc dkX13_sentence 63 rfl) (np 114 rfl ?_)
        refine r_istore_n (lv' := [(1, _), (0, _)]) (dc dkX13_sentence 64 rfl) (Nat.le_of_ble_eq_true rfl) rfl (np 115 rfl ?_)
        refine r_pick [1, 0] (lv' := [(0, _), (1, _)]) rfl ?_
        refine jlp2 (P := fun (i : Int) (τ6 : jS) => jR _ _ _ 115 [(0, .ref 111), (1, vI i)] [] τ6) (I := fun (i : Int) (τ6 : jS) => (0 ≤ i ∧ i ≤ 20) ∧ (∀ j, 0 ≤ j → j < i → τ6 121 j = τ3 138 j) ∧ (∀ c, ¬ c = 121 → τ6 c = τ5 c)) (fun (i : Int) (τ6 : jS) => (20 - i).toNat) ?_ _ _ ⟨by omega, fun j _ _ => by omega, fun _ _ => rfl⟩
        intro i τ6 hI115 ih115
        refine r_iload_n (dc dkX13_sentence 65 rfl) rfl (np 116 rfl ?_)
        refine r_bipush (dc dkX13_sentence 66 rfl) bp_20 (np 118 rfl ?_)
        refine r_icmp_ge (tgt := 139) (dc dkX13_sentence 67 rfl) rfl (by first | assumption | decide | omega) (by first | assumption | decide | omega) (fun h118 => ?_) (fun h118 => (np 121 rfl ?_))
        · skip
          refine r_aload_n (dc dkX13_sentence 78 rfl) rfl (np 140 rfl ?_)
          refine r_gI 47 (dc dkX13_sentence 79 rfl) flX13_463 fd_111_47 rfl (np 143 rfl ?_)
          exact r_iret (dc dkX13_sentence 80 rfl) rfl (by
              have k7 : ∀ c, ¬ c = 113 → ¬ c = 121 → τ6 c = τ3 c := fun c h1 h2 => by rw [hI115.2.2 c h2, hI84.2.2.2.2.2 c h1]
              have k1 := k7 111 (by decide) (by decide)
              have k3 : τ6 113 = τ5 113 := hI115.2.2 113 (by decide)
              have eN : (seF t L ex idn).2.1 = (seY t L ex idn).2.1 := rfl
              have eE : (seF t L ex idn).2.2 = (seY t L ex idn).2.2 := rfl
              refine ⟨⟨⟨fun c h1 h2 => ?_, fun j hj => ?_⟩, ?_, ?_, ?_⟩, fun _ => ⟨by rw [k1, q1, eN], fun j hj => ?_, ?_, τ3 111 46, τ3 111 50, by omega, by omega, ?_, ?_, ?_⟩, fun z => absurd hz z⟩
              · simp at h2
                rw [k7 c (by omega) (by omega)]
                exact F3.1 c h1 (by simp; omega)
              · rw [k1]; exact F3.2 j hj
              · rw [k1]; exact z03
              · rw [k1]; exact z23
              · rw [k1, hFe]; exact mR_10 hy.2.1
              · rw [k3, hI84.2.2.1 j hj, F3.1 113 (by decide) (by decide)]
              · rw [k3]; exact hI84.2.2.2.1
              · intro i i0 i1
                have q := q8 i i0 i1
                show (τ6 113 (272 + 4 * i) = 1 ∧ 0 ≤ τ6 113 (272 + (4 * i + 1)) ∧ τ6 113 (272 + (4 * i + 1)) < i) ∨ ((τ6 113 (272 + 4 * i) = 2 ∨ τ6 113 (272 + 4 * i) = 3) ∧ (0 ≤ τ6 113 (272 + (4 * i + 1)) ∧ τ6 113 (272 + (4 * i + 1)) < i) ∧ (0 ≤ τ6 113 (272 + (4 * i + 2)) ∧ τ6 113 (272 + (4 * i + 2)) < i)) ∨ ((τ6 113 (272 + 4 * i) = 59 ∨ τ6 113 (272 + 4 * i) = 60) ∧ 0 ≤ τ6 113 (272 + (4 * i + 1)) ∧ τ6 113 (272 + (4 * i + 1)) < τ3 111 50) ∨ τ6 113 (272 + 4 * i) = 61 ∨ ((62 ≤ τ6 113 (272 + 4 * i) ∧ τ6 113 (272 + 4 * i) ≤ 66) ∧ (60 ≤ τ6 113 (272 + (4 * i + 3)) ∧ τ6 113 (272 + (4 * i + 3)) ≤ 62) ∧ (0 ≤ τ6 113 (272 + (4 * i + 2)) ∧ τ6 113 (272 + (4 * i + 2)) ≤ 999))
                rw [k3, hI84.2.1 (4 * i) (by omega) (by omega), hI84.2.1 (4 * i + 1) (by omega) (by omega), hI84.2.1 (4 * i + 2) (by omega) (by omega), hI84.2.1 (4 * i + 3) (by omega) (by omega)]
                exact q
              · intro j j0 j1
                rw [hI115.2.1 j j0 (by omega)]
                exact q9 j j0 j1
              · rw [k3, hI84.2.2.2.2.1, eE]
                exact rpM_x q10 (Int.le_refl _) (Int.le_refl _) (fun j j0 j1 => by show τ5 113 (272 + j) = _; exact hI84.2.1 j j0 (by omega)) (fun j j0 j1 => hI115.2.1 j j0 (by omega)))
        refine r_aload_n (dc dkX13_sentence 68 rfl) rfl (np 122 rfl ?_)
        refine r_getR (dc dkX13_sentence 69 rfl) flX13_38 fd_111_23 (np 125 rfl ?_)
        refine r_iload_n (dc dkX13_sentence 70 rfl) rfl (np 126 rfl ?_)
        refine r_aload_n (dc dkX13_sentence 71 rfl) rfl (np 127 rfl ?_)
        refine r_getR (dc dkX13_sentence 72 rfl) flX13_91 fd_111_45 (np 130 rfl ?_)
        refine r_iload_n (dc dkX13_sentence 73 rfl) rfl (np 131 rfl ?_)
        refine r_lald (dc dkX13_sentence 74 rfl) ar_138 (by omega) (np 132 rfl ?_)
        refine r_last (dc dkX13_sentence 75 rfl) ar_121 (by omega) (np 133 rfl ?_)
        refine r_iinc (lv' := [(1, _), (0, _)]) (dc dkX13_sentence 76 rfl) (Nat.le_of_ble_eq_true rfl) rfl rfl (np 136 rfl ?_)
        refine r_goto (tgt := 115) (dc dkX13_sentence 77 rfl) rfl ?_
        refine r_pick [1, 0] rfl ?_
        exact ih115 _ _ ⟨by omega, fun j j0 j1 => by rcases (show j < i ∨ j = i by omega) with z | z; rw [ju_ne (by omega)]; exact hI115.2.1 j j0 z; rw [z, ju_at, hI115.2.2 138 (by decide), hI84.2.2.2.2.2 138 (by decide)], fun c hc => by rw [ju_off _ _ _ _ _ hc]; exact hI115.2.2 c hc⟩ (by omega)
      refine r_aload_n (dc dkX13_sentence 51 rfl) rfl (np 92 rfl ?_)
      refine r_getR (dc dkX13_sentence 52 rfl) flX13_13 fd_111_15 (np 95 rfl ?_)
      refine r_sipush (dc dkX13_sentence 53 rfl) sp_272 (np 98 rfl ?_)
      refine r_iload_n (dc dkX13_sentence 54 rfl) rfl (np 99 rfl ?_)
      refine r_iadd (dc dkX13_sentence 55 rfl) (np 100 rfl ?_)
      refine r_aload_n (dc dkX13_sentence 56 rfl) rfl (np 101 rfl ?_)
      refine r_getR (dc dkX13_sentence 57 rfl) flX13_88 fd_111_44 (np 104 rfl ?_)
      refine r_iload_n (dc dkX13_sentence 58 rfl) rfl (np 105 rfl ?_)
      refine r_iald (dc dkX13_sentence 59 rfl) ar_137 (by omega) (np 106 rfl ?_)
      refine r_iast (dc dkX13_sentence 60 rfl) ar_113 (by omega) (np 107 rfl ?_)
      refine r_iinc (lv' := [(1, _), (0, _)]) (dc dkX13_sentence 61 rfl) (Nat.le_of_ble_eq_true rfl) rfl rfl (np 110 rfl ?_)
      refine r_goto (tgt := 84) (dc dkX13_sentence 62 rfl) rfl ?_
      refine r_pick [1, 0] rfl ?_
      exact ih84 _ _ ⟨by omega, fun j j0 j1 => by rcases (show j < i ∨ j = i by omega) with z | z; rw [ju_ne (by omega)]; exact hI84.2.1 j j0 z; rw [z, ju_at, hI84.2.2.2.2.2 137 (by decide)], fun j hj => by rw [ju_ne (by omega)]; exact hI84.2.2.1 j hj, by rw [ju_ne (by omega)]; exact hI84.2.2.2.1, by rw [ju_ne (by omega)]; exact hI84.2.2.2.2.1, fun c hc => by rw [ju_off _ _ _ _ _ hc]; exact hI84.2.2.2.2.2 c hc⟩ (by omega)
    refine r_aload_n (dc dkX13_sentence 26 rfl) rfl (np 49 rfl ?_)
    refine r_iconst (dc dkX13_sentence 27 rfl) (np 50 rfl ?_)
    refine r_cV1 (y' := miX13_bad) (dc dkX13_sentence 28 rfl) mlX13_165 ceX13_bad ob_111 (Nat.le_of_ble_eq_true rfl) (Nat.le_of_ble_eq_true rfl) (c_bdR h31 (hy.2.1.1 h31) (by decide) (fun _ => rfl)) (fun r τ4 hp4 => (np 53 rfl ?_))
    obtain ⟨rfl, hs4, hM4⟩ := hp4
    refine r_pop (dc dkX13_sentence 29 rfl) rfl (np 54 rfl ?_)
    refine r_iconst (dc dkX13_sentence 30 rfl) (np 55 rfl ?_)
    refine r_aload_n (dc dkX13_sentence 31 rfl) rfl (np 56 rfl ?_)
    refine r_gI 11 (dc dkX13_sentence 32 rfl) flX13_162 fd_111_11 rfl (np 59 rfl ?_)
    refine r_isub (dc dkX13_sentence 33 rfl) (np 60 rfl ?_)
    exact r_iret (dc dkX13_sentence 34 rfl) rfl (by
        have e : (seF t L ex idn).1 = flR t L 200 1 (seY t L ex idn).1 := gte_f (fun z => h45 (k0.mpr z))
        have x0 : ¬ (flR t L 200 1 (seY t L ex idn).1).1 = 0 := flR_f (by decide)
        rw [e]
        exact ⟨⟨(F3.trS hs4 (by decide)).wide (by decide) (by decide), (hs4.2 0 (by decide)).trans z03, (hs4.2 2 (by decide)).trans z23, mR_10 hM4⟩, fun z => absurd z x0, fun _ => ⟨by rw [mR_11 hM4 x0], (hs4.1 113 (by decide)).trans (F3.1 113 (by decide) (by decide)), (hs4.1 121 (by decide)).trans (F3.1 121 (by decide) (by decide))⟩⟩)
  refine r_iconst (dc dkX13_sentence 18 rfl) (np 35 rfl ?_)
  refine r_aload_n (dc dkX13_sentence 19 rfl) rfl (np 36 rfl ?_)
  refine r_gI 11 (dc dkX13_sentence 20 rfl) flX13_162 fd_111_11 rfl (np 39 rfl ?_)
  refine r_isub (dc dkX13_sentence 21 rfl) (np 40 rfl ?_)
  exact r_iret (dc dkX13_sentence 22 rfl) rfl (by
      have e : (seF t L ex idn).1 = (seY t L ex idn).1 := gte_flR h31
      rw [e]
      exact ⟨⟨F3.wide (by decide) (by decide), z03, z23, mR_10 hy.2.1⟩, fun z => absurd z h31, fun _ => ⟨by rw [mR_11 hy.2.1 h31], F3.1 113 (by decide) (by decide), F3.1 121 (by decide) (by decide)⟩⟩)
