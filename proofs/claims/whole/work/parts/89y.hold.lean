set_option maxRecDepth 100000 in
set_option maxHeartbeats 400000 in
theorem c_X9_holdsOf {σ : jS} (hB : okB σ 30) (hn : ∀ b, 0 ≤ b → b < σ 30 0 → 3 ≤ σ 32 b) {b : Int} (h0 : 0 ≤ b) (h1 : b < σ 30 0) (hs : 0 ≤ σ 38 0 ∧ σ 38 0 ≤ 40) (hc : ∀ i, 0 ≤ i → i < σ 38 0 → 0 ≤ σ 39 i ∧ σ 39 i < 51000) (ha : acn (σ 39) (σ 38 0).toNat 0 ≤ 20) : Jm 7 miX9_holdsOf [.ref 38, .ref 30, vI b, .ref 9] σ (fun r τ => r = some (vI (bI (hdP (rnL (atS σ b) (σ 39) (σ 38 0).toNat 0 [])))) ∧ same [11, 12, 13, 14] σ τ) := by
  refine jm_ofF (Po := (fun r τ => r = some (vI (bI (hdP (rnL (atS σ b) (σ 39) (σ 38 0).toNat 0 [])))) ∧ same [11, 12, 13, 14] σ τ)) (plainFor_of_name (by decide)) (Nat.le_of_ble_eq_true rfl) (lv := [(0, _), (1, _), (2, _), (3, _)]) rfl ?_
  refine r_iconst (dc dkX9_holdsOf 0 rfl) (np 1 rfl ?_)
  refine r_istore (lv' := [(4, _), (0, _), (1, _), (2, _), (3, _)]) (dc dkX9_holdsOf 1 rfl) (Nat.le_of_ble_eq_true rfl) rfl (np 3 rfl ?_)
  refine r_iconst (dc dkX9_holdsOf 2 rfl) (np 4 rfl ?_)
  refine r_istore (lv' := [(5, _), (4, _), (0, _), (1, _), (2, _), (3, _)]) (dc dkX9_holdsOf 3 rfl) (Nat.le_of_ble_eq_true rfl) rfl (np 6 rfl ?_)
  refine r_pick [2, 3, 4, 5, 1, 0] (lv' := [(0, _), (1, _), (2, _), (3, _), (4, _), (5, _)]) rfl ?_
  refine jlp3 (P := fun (z : Int) (i : Int) (τ : jS) => jR _ _ _ 6 [(0, .ref 38), (1, .ref 30), (2, vI b), (3, .ref 9), (4, vI z), (5, vI i)] [] τ) (I := fun (z : Int) (i : Int) (τ : jS) => (0 ≤ i ∧ i ≤ σ 38 0) ∧ same [11, 12, 13, 14] σ τ ∧ BSt z (rnL (atS σ b) (σ 39) i.toNat 0 []) ∧ ((rnL (atS σ b) (σ 39) i.toNat 0 []).length : Int) ≤ acn (σ 39) i.toNat 0 + 1) (fun (z : Int) (i : Int) (τ : jS) => (σ 38 0 - i).toNat) ?_ _ _ _ ⟨by omega, same.refl _ _, BSt_0, by show ((([] : List Prop).length : Nat) : Int) ≤ (0 : Int) + 1; decide⟩
  intro z i τ hI6 ih6
  obtain ⟨_, S, B, LN_⟩ := hI6
  refine r_iload (dc dkX9_holdsOf 4 rfl) rfl (np 8 rfl ?_)
  refine r_aload_n (dc dkX9_holdsOf 5 rfl) rfl (np 9 rfl ?_)
  refine r_gI 0 (dc dkX9_holdsOf 6 rfl) flX9_9 fd_38_0 rfl (np 12 rfl ?_)
  refine r_eqI _ (show τ 38 0 = σ 38 0 by rw [S 38 (by decide)]) ?_
  refine r_icmp_ge (tgt := 141) (dc dkX9_holdsOf 7 rfl) rfl (by first | assumption | omega | decide) (by first | assumption | omega | decide) (fun h12 => ?_) (fun h12 => (np 15 rfl ?_))
  · skip
    refine r_iload (dc dkX9_holdsOf 76 rfl) rfl (np 143 rfl ?_)
    refine r_iconst (dc dkX9_holdsOf 77 rfl) (np 144 rfl ?_)
    refine r_iand (dc dkX9_holdsOf 78 rfl) (np 145 rfl ?_)
    refine r_eqI (bI (hdP (rnL (atS σ b) (σ 39) i.toNat 0 []))) (by rw [and1_b]; exact bI_iff (by rw [hdP_0]; exact B 0 (by omega))) ?_
    refine r_bz (tgt := 152) (dc dkX9_holdsOf 79 rfl) rfl (fun h145 => ?_) (fun h145 => (np 148 rfl ?_))
    · skip
      refine r_iconst (dc dkX9_holdsOf 82 rfl) (np 153 rfl ?_)
      exact r_zret (dc dkX9_holdsOf 83 rfl) rfl (by first | exact Or.inl rfl | exact Or.inr rfl) ⟨congrArg (fun z => some (vI z)) (by rw [show i = σ 38 0 by omega] at h145; first | exact bT h145 | exact bF h145), S⟩
    refine r_iconst (dc dkX9_holdsOf 80 rfl) (np 149 rfl ?_)
    refine r_goto (tgt := 153) (dc dkX9_holdsOf 81 rfl) rfl ?_
    exact r_zret (dc dkX9_holdsOf 83 rfl) rfl (by first | exact Or.inl rfl | exact Or.inr rfl) ⟨congrArg (fun z => some (vI z)) (by rw [show i = σ 38 0 by omega] at h145; first | exact bT h145 | exact bF h145), S⟩
  refine r_iload (dc dkX9_holdsOf 8 rfl) rfl (np 17 rfl ?_)
  refine r_bipush (dc dkX9_holdsOf 9 rfl) bp_40 (np 19 rfl ?_)
  refine r_icmp_ge (tgt := 141) (dc dkX9_holdsOf 10 rfl) rfl (by first | assumption | omega | decide) (by first | assumption | omega | decide) (fun h19 => ?_) (fun h19 => (np 22 rfl ?_))
  · skip
    refine r_iload (dc dkX9_holdsOf 76 rfl) rfl (np 143 rfl ?_)
    refine r_iconst (dc dkX9_holdsOf 77 rfl) (np 144 rfl ?_)
    refine r_iand (dc dkX9_holdsOf 78 rfl) (np 145 rfl ?_)
    refine r_eqI (bI (hdP (rnL (atS σ b) (σ 39) i.toNat 0 []))) (by rw [and1_b]; exact bI_iff (by rw [hdP_0]; exact B 0 (by omega))) ?_
    refine r_bz (tgt := 152) (dc dkX9_holdsOf 79 rfl) rfl (fun h145 => ?_) (fun h145 => (np 148 rfl ?_))
    · skip
      refine r_iconst (dc dkX9_holdsOf 82 rfl) (np 153 rfl ?_)
      exact r_zret (dc dkX9_holdsOf 83 rfl) rfl (by first | exact Or.inl rfl | exact Or.inr rfl) ⟨congrArg (fun z => some (vI z)) (by rw [show i = σ 38 0 by omega] at h145; first | exact bT h145 | exact bF h145), S⟩
    refine r_iconst (dc dkX9_holdsOf 80 rfl) (np 149 rfl ?_)
    refine r_goto (tgt := 153) (dc dkX9_holdsOf 81 rfl) rfl ?_
    exact r_zret (dc dkX9_holdsOf 83 rfl) rfl (by first | exact Or.inl rfl | exact Or.inr rfl) ⟨congrArg (fun z => some (vI z)) (by rw [show i = σ 38 0 by omega] at h145; first | exact bT h145 | exact bF h145), S⟩
  refine r_bipush (dc dkX9_holdsOf 11 rfl) bp_100 (np 24 rfl ?_)
  refine r_aload_n (dc dkX9_holdsOf 12 rfl) rfl (np 25 rfl ?_)
  refine r_getR (dc dkX9_holdsOf 13 rfl) flX9_18 fd_38_2 (np 28 rfl ?_)
  refine r_iload (dc dkX9_holdsOf 14 rfl) rfl (np 30 rfl ?_)
  refine r_iald (dc dkX9_holdsOf 15 rfl) ar_39 (by omega) (np 31 rfl ?_)
  refine r_eqI (σ 39 i) (by rw [S 39 (by decide)]) ?_
  have ci := hc i (by omega) (by omega)
  refine r_sipush (dc dkX9_holdsOf 16 rfl) sp_3000 (np 34 rfl ?_)
  refine r_idivn (dc dkX9_holdsOf 17 rfl) (by first | assumption | omega | decide) (by first | assumption | omega | decide) (np 35 rfl ?_)
  refine r_iadd (dc dkX9_holdsOf 18 rfl) (np 36 rfl ?_)
  refine r_istore (lv' := [(6, _), (0, _), (1, _), (2, _), (3, _), (4, _), (5, _)]) (dc dkX9_holdsOf 19 rfl) (Nat.le_of_ble_eq_true rfl) rfl (np 38 rfl ?_)
  have jj135 : ∀ (z2 : Int) (τ3 : jS), (same [11, 12, 13, 14] σ τ3 ∧ BSt z2 (rnL (atS σ b) (σ 39) (i + 1).toNat 0 []) ∧ ((rnL (atS σ b) (σ 39) (i + 1).toNat 0 []).length : Int) ≤ acn (σ 39) (i + 1).toNat 0 + 1) → jR 7 miX9_holdsOf (fun r τ => r = some (vI (bI (hdP (rnL (atS σ b) (σ 39) (σ 38 0).toNat 0 [])))) ∧ same [11, 12, 13, 14] σ τ) 135 [(0, .ref 38), (1, .ref 30), (2, vI b), (3, .ref 9), (4, vI z2), (5, vI i)] [] τ3 := by
    intro z2 τ3 hx
    refine r_iinc (lv' := [(5, _), (0, _), (1, _), (2, _), (3, _), (4, _)]) (dc dkX9_holdsOf 74 rfl) (Nat.le_of_ble_eq_true rfl) rfl rfl (np 138 rfl ?_)
    refine r_goto (tgt := 6) (dc dkX9_holdsOf 75 rfl) rfl ?_
    refine r_pick [1, 2, 3, 4, 5, 0] rfl ?_
    exact ih6 _ _ _ ⟨by omega, hx.1, hx.2.1, hx.2.2⟩ (by omega)
  refine r_iload (dc dkX9_holdsOf 20 rfl) rfl (np 40 rfl ?_)
  refine r_iconst (dc dkX9_holdsOf 21 rfl) (np 41 rfl ?_)
  refine r_iand (dc dkX9_holdsOf 22 rfl) (np 42 rfl ?_)
  refine r_eqI (bI (hdP (rnL (atS σ b) (σ 39) i.toNat 0 []))) (by rw [and1_b]; exact bI_iff (by rw [hdP_0]; exact B 0 (by omega))) ?_
  have al := acn_le (σ 39) (i := i) (n := σ 38 0) (by omega) (by omega)
  have ll : (rnL (atS σ b) (σ 39) i.toNat 0 []).length ≤ 30 := by omega
  refine r_istore (lv' := [(7, _), (6, _), (0, _), (1, _), (2, _), (3, _), (4, _), (5, _)]) (dc dkX9_holdsOf 23 rfl) (Nat.le_of_ble_eq_true rfl) rfl (np 44 rfl ?_)
  refine r_iload (dc dkX9_holdsOf 24 rfl) rfl (np 46 rfl ?_)
  refine r_bipush (dc dkX9_holdsOf 25 rfl) bp_108 (np 48 rfl ?_)
  refine r_icmp_ne (tgt := 60) (dc dkX9_holdsOf 26 rfl) rfl (by first | assumption | omega | decide) (by first | assumption | omega | decide) (fun h48 => ?_) (fun h48 => (np 51 rfl ?_))
  · skip
    refine r_iload (dc dkX9_holdsOf 32 rfl) rfl (np 62 rfl ?_)
    refine r_bipush (dc dkX9_holdsOf 33 rfl) bp_107 (np 64 rfl ?_)
    refine r_icmp_ne (tgt := 82) (dc dkX9_holdsOf 34 rfl) rfl (by first | assumption | omega | decide) (by first | assumption | omega | decide) (fun h64 => ?_) (fun h64 => (np 67 rfl ?_))
    · skip
      refine r_iload (dc dkX9_holdsOf 44 rfl) rfl (np 84 rfl ?_)
      refine r_bipush (dc dkX9_holdsOf 45 rfl) bp_106 (np 86 rfl ?_)
      refine r_icmp_ne (tgt := 101) (dc dkX9_holdsOf 46 rfl) rfl (by first | assumption | omega | decide) (by first | assumption | omega | decide) (fun h86 => ?_) (fun h86 => (np 89 rfl ?_))
      · skip
        refine r_iload (dc dkX9_holdsOf 54 rfl) rfl (np 103 rfl ?_)
        refine r_aload_n (dc dkX9_holdsOf 55 rfl) rfl (np 104 rfl ?_)
        refine r_getR (dc dkX9_holdsOf 56 rfl) flX9_18 fd_38_2 (np 107 rfl ?_)
        refine r_iload (dc dkX9_holdsOf 57 rfl) rfl (np 109 rfl ?_)
        refine r_iald (dc dkX9_holdsOf 58 rfl) ar_39 (by omega) (np 110 rfl ?_)
        refine r_eqI (σ 39 i) (by rw [S 39 (by decide)]) ?_
        refine r_aload_n (dc dkX9_holdsOf 59 rfl) rfl (np 111 rfl ?_)
        refine r_iload_n (dc dkX9_holdsOf 60 rfl) rfl (np 112 rfl ?_)
        refine r_aload_n (dc dkX9_holdsOf 61 rfl) rfl (np 113 rfl ?_)
        have e30 : ∀ c, c ∉ [11, 12, 13, 14] → τ c = σ c := S
        have oB : okB τ 30 := okB_t hB (S 30 (by decide)) (S 31 (by decide)) (S 32 (by decide)) (S 33 (by decide))
        refine r_cS5 (y' := miX9_fitsOne) (dc dkX9_holdsOf 62 rfl) mlX9_95 seX9_fitsOne (Nat.le_of_ble_eq_true rfl) (Nat.le_of_ble_eq_true rfl) (c_X9_fitsOne oB (fun b b0 b1 => by rw [S 30 (by decide)] at b1; rw [S 32 (by decide)]; exact hn b b0 b1) h0 (by rw [S 30 (by decide)]; exact h1) ci) (fun r2 τ2 hp2 => (np 116 rfl ?_))
        obtain ⟨rfl, S2⟩ := hp2
        rw [atS_e S]
        replace S2 : same [11, 12, 13, 14] σ τ2 := fun c hc => (S2 c hc).trans (S c hc)
        refine r_istore (lv' := [(8, _), (7, _), (6, _), (0, _), (1, _), (2, _), (3, _), (4, _), (5, _)]) (dc dkX9_holdsOf 63 rfl) (Nat.le_of_ble_eq_true rfl) rfl (np 118 rfl ?_)
        have jj132 : ∀ g : Int, (g = bI (atS σ b (σ 39 i))) → jR 7 miX9_holdsOf (fun r τ => r = some (vI (bI (hdP (rnL (atS σ b) (σ 39) (σ 38 0).toNat 0 [])))) ∧ same [11, 12, 13, 14] σ τ) 132 [(0, .ref 38), (1, .ref 30), (2, vI b), (3, .ref 9), (5, vI i)] [vI g, vI (iShl z 1)] τ2 := by
          intro g hg
          refine r_ior (dc dkX9_holdsOf 72 rfl) (np 133 rfl ?_)
          refine r_istore (lv' := [(4, _), (0, _), (1, _), (2, _), (3, _), (5, _)]) (dc dkX9_holdsOf 73 rfl) (Nat.le_of_ble_eq_true rfl) rfl (np 135 rfl ?_)
          refine r_pick [1, 2, 3, 4, 0, 5] rfl ?_
          exact jj135 _ _ (by
                rw [rnL_s _ _ (by omega), acn_s _ (by omega)]
                unfold stp
                have lt : (rnL (atS σ b) (σ 39) i.toNat 0 []).tail.length = (rnL (atS σ b) (σ 39) i.toNat 0 []).length - 1 := List.length_tail
                have ltt : (rnL (atS σ b) (σ 39) i.toNat 0 []).tail.tail.length = (rnL (atS σ b) (σ 39) i.toNat 0 []).length - 1 - 1 := by rw [List.length_tail, List.length_tail]
                have an := acn_nn (σ 39) i.toNat 0
                first
                | (rw [if_pos (show σ 39 i / 3000 = 8 by omega), bite_t (show isO (σ 39 i) from Or.inl (by omega))]
                   exact ⟨S, BSt_not B, by rw [List.length_cons, lt]; omega⟩)
                | (rw [if_neg (show ¬ σ 39 i / 3000 = 8 by omega), if_pos (show σ 39 i / 3000 = 7 by omega), bite_t (show isO (σ 39 i) from Or.inr (Or.inl (by omega)))]
                   exact ⟨S, BSt_and B ll, by rw [List.length_cons, ltt]; omega⟩)
                | (rw [if_neg (show ¬ σ 39 i / 3000 = 8 by omega), if_neg (show ¬ σ 39 i / 3000 = 7 by omega), if_pos (show σ 39 i / 3000 = 6 by omega), bite_t (show isO (σ 39 i) from Or.inr (Or.inr (by omega)))]
                   exact ⟨S, BSt_or B ll, by rw [List.length_cons, ltt]; omega⟩)
                | (rw [if_neg (show ¬ σ 39 i / 3000 = 8 by omega), if_neg (show ¬ σ 39 i / 3000 = 7 by omega), if_neg (show ¬ σ 39 i / 3000 = 6 by omega), bite_f (show ¬ isO (σ 39 i) from fun u => by unfold isO at u; omega), hg]
                   exact ⟨S2, BSt_push B _, by rw [List.length_cons]; omega⟩))
        refine r_iload (dc dkX9_holdsOf 64 rfl) rfl (np 120 rfl ?_)
        refine r_iconst (dc dkX9_holdsOf 65 rfl) (np 121 rfl ?_)
        refine r_ishl (dc dkX9_holdsOf 66 rfl) (np 122 rfl ?_)
        refine r_iload (dc dkX9_holdsOf 67 rfl) rfl (np 124 rfl ?_)
        refine r_bz (tgt := 131) (dc dkX9_holdsOf 68 rfl) rfl (fun h124 => ?_) (fun h124 => (np 127 rfl ?_))
        · skip
          refine r_iconst (dc dkX9_holdsOf 71 rfl) (np 132 rfl ?_)
          refine r_pick [3, 4, 5, 6, 8] rfl ?_
          exact jj132 _ (by first | exact bT h124 | exact bF h124)
        refine r_iconst (dc dkX9_holdsOf 69 rfl) (np 128 rfl ?_)
        refine r_goto (tgt := 132) (dc dkX9_holdsOf 70 rfl) rfl ?_
        refine r_pick [3, 4, 5, 6, 8] rfl ?_
        exact jj132 _ (by first | exact bT h124 | exact bF h124)
      refine r_iload (dc dkX9_holdsOf 47 rfl) rfl (np 91 rfl ?_)
      refine r_iconst (dc dkX9_holdsOf 48 rfl) (np 92 rfl ?_)
      refine r_ishr (dc dkX9_holdsOf 49 rfl) (np 93 rfl ?_)
      refine r_iload (dc dkX9_holdsOf 50 rfl) rfl (np 95 rfl ?_)
      refine r_ior (dc dkX9_holdsOf 51 rfl) (np 96 rfl ?_)
      refine r_istore (lv' := [(4, _), (7, _), (6, _), (0, _), (1, _), (2, _), (3, _), (5, _)]) (dc dkX9_holdsOf 52 rfl) (Nat.le_of_ble_eq_true rfl) rfl (np 98 rfl ?_)
      refine r_goto (tgt := 135) (dc dkX9_holdsOf 53 rfl) rfl ?_
      refine r_pick [3, 4, 5, 6, 0, 7] rfl ?_
      exact jj135 _ _ (by
            rw [rnL_s _ _ (by omega), acn_s _ (by omega)]
            unfold stp
            have lt : (rnL (atS σ b) (σ 39) i.toNat 0 []).tail.length = (rnL (atS σ b) (σ 39) i.toNat 0 []).length - 1 := List.length_tail
            have ltt : (rnL (atS σ b) (σ 39) i.toNat 0 []).tail.tail.length = (rnL (atS σ b) (σ 39) i.toNat 0 []).length - 1 - 1 := by rw [List.length_tail, List.length_tail]
            have an := acn_nn (σ 39) i.toNat 0
            first
            | (rw [if_pos (show σ 39 i / 3000 = 8 by omega), bite_t (show isO (σ 39 i) from Or.inl (by omega))]
               exact ⟨S, BSt_not B, by rw [List.length_cons, lt]; omega⟩)
            | (rw [if_neg (show ¬ σ 39 i / 3000 = 8 by omega), if_pos (show σ 39 i / 3000 = 7 by omega), bite_t (show isO (σ 39 i) from Or.inr (Or.inl (by omega)))]
               exact ⟨S, BSt_and B ll, by rw [List.length_cons, ltt]; omega⟩)
            | (rw [if_neg (show ¬ σ 39 i / 3000 = 8 by omega), if_neg (show ¬ σ 39 i / 3000 = 7 by omega), if_pos (show σ 39 i / 3000 = 6 by omega), bite_t (show isO (σ 39 i) from Or.inr (Or.inr (by omega)))]
               exact ⟨S, BSt_or B ll, by rw [List.length_cons, ltt]; omega⟩)
            | (rw [if_neg (show ¬ σ 39 i / 3000 = 8 by omega), if_neg (show ¬ σ 39 i / 3000 = 7 by omega), if_neg (show ¬ σ 39 i / 3000 = 6 by omega), bite_f (show ¬ isO (σ 39 i) from fun u => by unfold isO at u; omega), hg]
               exact ⟨S2, BSt_push B _, by rw [List.length_cons]; omega⟩))
    refine r_iload (dc dkX9_holdsOf 35 rfl) rfl (np 69 rfl ?_)
    refine r_iconst (dc dkX9_holdsOf 36 rfl) (np 70 rfl ?_)
    refine r_ishr (dc dkX9_holdsOf 37 rfl) (np 71 rfl ?_)
    refine r_iload (dc dkX9_holdsOf 38 rfl) rfl (np 73 rfl ?_)
    refine r_bipush (dc dkX9_holdsOf 39 rfl) bp_m2 (np 75 rfl ?_)
    refine r_ior (dc dkX9_holdsOf 40 rfl) (np 76 rfl ?_)
    refine r_iand (dc dkX9_holdsOf 41 rfl) (np 77 rfl ?_)
    refine r_istore (lv' := [(4, _), (7, _), (6, _), (0, _), (1, _), (2, _), (3, _), (5, _)]) (dc dkX9_holdsOf 42 rfl) (Nat.le_of_ble_eq_true rfl) rfl (np 79 rfl ?_)
    refine r_goto (tgt := 135) (dc dkX9_holdsOf 43 rfl) rfl ?_
    refine r_pick [3, 4, 5, 6, 0, 7] rfl ?_
    exact jj135 _ _ (by
          rw [rnL_s _ _ (by omega), acn_s _ (by omega)]
          unfold stp
          have lt : (rnL (atS σ b) (σ 39) i.toNat 0 []).tail.length = (rnL (atS σ b) (σ 39) i.toNat 0 []).length - 1 := List.length_tail
          have ltt : (rnL (atS σ b) (σ 39) i.toNat 0 []).tail.tail.length = (rnL (atS σ b) (σ 39) i.toNat 0 []).length - 1 - 1 := by rw [List.length_tail, List.length_tail]
          have an := acn_nn (σ 39) i.toNat 0
          first
          | (rw [if_pos (show σ 39 i / 3000 = 8 by omega), bite_t (show isO (σ 39 i) from Or.inl (by omega))]
             exact ⟨S, BSt_not B, by rw [List.length_cons, lt]; omega⟩)
          | (rw [if_neg (show ¬ σ 39 i / 3000 = 8 by omega), if_pos (show σ 39 i / 3000 = 7 by omega), bite_t (show isO (σ 39 i) from Or.inr (Or.inl (by omega)))]
             exact ⟨S, BSt_and B ll, by rw [List.length_cons, ltt]; omega⟩)
          | (rw [if_neg (show ¬ σ 39 i / 3000 = 8 by omega), if_neg (show ¬ σ 39 i / 3000 = 7 by omega), if_pos (show σ 39 i / 3000 = 6 by omega), bite_t (show isO (σ 39 i) from Or.inr (Or.inr (by omega)))]
             exact ⟨S, BSt_or B ll, by rw [List.length_cons, ltt]; omega⟩)
          | (rw [if_neg (show ¬ σ 39 i / 3000 = 8 by omega), if_neg (show ¬ σ 39 i / 3000 = 7 by omega), if_neg (show ¬ σ 39 i / 3000 = 6 by omega), bite_f (show ¬ isO (σ 39 i) from fun u => by unfold isO at u; omega), hg]
             exact ⟨S2, BSt_push B _, by rw [List.length_cons]; omega⟩))
  refine r_iload (dc dkX9_holdsOf 27 rfl) rfl (np 53 rfl ?_)
  refine r_iconst (dc dkX9_holdsOf 28 rfl) (np 54 rfl ?_)
  refine r_ixor (dc dkX9_holdsOf 29 rfl) (np 55 rfl ?_)
  refine r_istore (lv' := [(4, _), (7, _), (6, _), (0, _), (1, _), (2, _), (3, _), (5, _)]) (dc dkX9_holdsOf 30 rfl) (Nat.le_of_ble_eq_true rfl) rfl (np 57 rfl ?_)
  refine r_goto (tgt := 135) (dc dkX9_holdsOf 31 rfl) rfl ?_
  refine r_pick [3, 4, 5, 6, 0, 7] rfl ?_
  exact jj135 _ _ (by
        rw [rnL_s _ _ (by omega), acn_s _ (by omega)]
        unfold stp
        have lt : (rnL (atS σ b) (σ 39) i.toNat 0 []).tail.length = (rnL (atS σ b) (σ 39) i.toNat 0 []).length - 1 := List.length_tail
        have ltt : (rnL (atS σ b) (σ 39) i.toNat 0 []).tail.tail.length = (rnL (atS σ b) (σ 39) i.toNat 0 []).length - 1 - 1 := by rw [List.length_tail, List.length_tail]
        have an := acn_nn (σ 39) i.toNat 0
        first
        | (rw [if_pos (show σ 39 i / 3000 = 8 by omega), bite_t (show isO (σ 39 i) from Or.inl (by omega))]
           exact ⟨S, BSt_not B, by rw [List.length_cons, lt]; omega⟩)
        | (rw [if_neg (show ¬ σ 39 i / 3000 = 8 by omega), if_pos (show σ 39 i / 3000 = 7 by omega), bite_t (show isO (σ 39 i) from Or.inr (Or.inl (by omega)))]
           exact ⟨S, BSt_and B ll, by rw [List.length_cons, ltt]; omega⟩)
        | (rw [if_neg (show ¬ σ 39 i / 3000 = 8 by omega), if_neg (show ¬ σ 39 i / 3000 = 7 by omega), if_pos (show σ 39 i / 3000 = 6 by omega), bite_t (show isO (σ 39 i) from Or.inr (Or.inr (by omega)))]
           exact ⟨S, BSt_or B ll, by rw [List.length_cons, ltt]; omega⟩)
        | (rw [if_neg (show ¬ σ 39 i / 3000 = 8 by omega), if_neg (show ¬ σ 39 i / 3000 = 7 by omega), if_neg (show ¬ σ 39 i / 3000 = 6 by omega), bite_f (show ¬ isO (σ 39 i) from fun u => by unfold isO at u; omega), hg]
           exact ⟨S2, BSt_push B _, by rw [List.length_cons]; omega⟩))
set_option maxRecDepth 100000 in
set_option maxHeartbeats 400000 in
theorem c_X12_said {σ : jS} (hB : okB σ 30) (hn : ∀ b, 0 ≤ b → b < σ 30 0 → 3 ≤ σ 32 b) (hs : 0 ≤ σ 38 0 ∧ σ 38 0 ≤ 40) (hc : ∀ i, 0 ≤ i → i < σ 38 0 → 0 ≤ σ 39 i ∧ σ 39 i < 51000) (ha : acn (σ 39) (σ 38 0).toNat 0 ≤ 20) {k : Int} (hk : iR k) : Jm 8 miX12_said [.ref 0, vI k] σ (fun r τ => same [11, 12, 13, 14] σ τ ∧ r = some (vI (gte (σ 38 0 = 0) (-1) (nthL (saL (fun b => hdP (rnL (atS σ b) (σ 39) (σ 38 0).toNat 0 [])) (σ 30 0)) k)))) := by
  have m8 := hB.1
  refine jm_ofF (Po := (fun r τ => same [11, 12, 13, 14] σ τ ∧ r = some (vI (gte (σ 38 0 = 0) (-1) (nthL (saL (fun b => hdP (rnL (atS σ b) (σ 39) (σ 38 0).toNat 0 [])) (σ 30 0)) k))))) (plainFor_of_name (by decide)) (Nat.le_of_ble_eq_true rfl) (lv := [(0, _), (1, _)]) rfl ?_
  refine r_aload_n (dc dkX12_said 0 rfl) rfl (np 1 rfl ?_)
  refine r_getR (dc dkX12_said 1 rfl) flX12_24 fd_0_2 (np 4 rfl ?_)
  refine r_getR (dc dkX12_said 2 rfl) flX12_154 fd_27_5 (np 7 rfl ?_)
  refine r_gI 0 (dc dkX12_said 3 rfl) flX12_380 fd_38_0 rfl (np 10 rfl ?_)
  refine r_if_ne (tgt := 15) (dc dkX12_said 4 rfl) rfl (by first | assumption | omega | decide) (fun h10 => ?_) (fun h10 => (np 13 rfl ?_))
  · skip
    refine r_iconst (dc dkX12_said 7 rfl) (np 16 rfl ?_)
    refine r_istore_n (lv' := [(2, _), (0, _), (1, _)]) (dc dkX12_said 8 rfl) (Nat.le_of_ble_eq_true rfl) rfl (np 17 rfl ?_)
    refine r_iconst (dc dkX12_said 9 rfl) (np 18 rfl ?_)
    refine r_istore_n (lv' := [(3, _), (2, _), (0, _), (1, _)]) (dc dkX12_said 10 rfl) (Nat.le_of_ble_eq_true rfl) rfl (np 19 rfl ?_)
    refine r_pick [2, 3, 1, 0] (lv' := [(0, _), (1, _), (2, _), (3, _)]) rfl ?_
    refine jlp3 (P := fun (n : Int) (i : Int) (τ : jS) => jR _ _ _ 19 [(0, .ref 0), (1, vI k), (2, vI n), (3, vI i)] [] τ) (I := fun (n : Int) (i : Int) (τ : jS) => (0 ≤ i ∧ i ≤ σ 30 0) ∧ same [11, 12, 13, 14] σ τ ∧ n = (saL (fun b => hdP (rnL (atS σ b) (σ 39) (σ 38 0).toNat 0 [])) i).length ∧ ¬ (0 ≤ k ∧ k < n)) (fun (n : Int) (i : Int) (τ : jS) => (σ 30 0 - i).toNat) ?_ _ _ _ ⟨by omega, same.refl _ _, rfl, by omega⟩
    intro n i τ hI19 ih19
    obtain ⟨_, S, L1, L2⟩ := hI19
    refine r_iload_n (dc dkX12_said 11 rfl) rfl (np 20 rfl ?_)
    refine r_aload_n (dc dkX12_said 12 rfl) rfl (np 21 rfl ?_)
    refine r_getR (dc dkX12_said 13 rfl) flX12_24 fd_0_2 (np 24 rfl ?_)
    refine r_getR (dc dkX12_said 14 rfl) flX12_105 fd_27_1 (np 27 rfl ?_)
    refine r_getR (dc dkX12_said 15 rfl) flX12_167 fd_28_9 (np 30 rfl ?_)
    refine r_gI 0 (dc dkX12_said 16 rfl) flX12_198 fd_30_0 rfl (np 33 rfl ?_)
    refine r_eqI _ (show τ 30 0 = σ 30 0 by rw [S 30 (by decide)]) ?_
    refine r_icmp_ge (tgt := 80) (dc dkX12_said 17 rfl) rfl (by first | assumption | omega | decide) (by first | assumption | omega | decide) (fun h33 => ?_) (fun h33 => (np 36 rfl ?_))
    · skip
      refine r_iload_n (dc dkX12_said 38 rfl) rfl (np 81 rfl ?_)
      refine r_iconst (dc dkX12_said 39 rfl) (np 82 rfl ?_)
      refine r_icmp_ne (tgt := 89) (dc dkX12_said 40 rfl) rfl (by first | assumption | omega | decide) (by first | assumption | omega | decide) (fun h82 => ?_) (fun h82 => (np 85 rfl ?_))
      · skip
        refine r_iconst (dc dkX12_said 43 rfl) (np 90 rfl ?_)
        exact r_iret (dc dkX12_said 44 rfl) rfl ⟨S, congrArg (fun z => some (vI z)) (by rw [show i = σ 30 0 by omega] at L1; rw [gte_f h10, nthL_end L1 L2]; first | (rw [if_pos (by omega)]; done) | (rw [if_neg (by omega)]; done))⟩
      refine r_iload_n (dc dkX12_said 41 rfl) rfl (np 86 rfl ?_)
      refine r_goto (tgt := 90) (dc dkX12_said 42 rfl) rfl ?_
      exact r_iret (dc dkX12_said 44 rfl) rfl ⟨S, congrArg (fun z => some (vI z)) (by rw [show i = σ 30 0 by omega] at L1; rw [gte_f h10, nthL_end L1 L2]; first | (rw [if_pos (by omega)]; done) | (rw [if_neg (by omega)]; done))⟩
    have oB : okB τ 30 := okB_t hB (S 30 (by decide)) (S 31 (by decide)) (S 32 (by decide)) (S 33 (by decide))
    refine r_aload_n (dc dkX12_said 18 rfl) rfl (np 37 rfl ?_)
    refine r_getR (dc dkX12_said 19 rfl) flX12_24 fd_0_2 (np 40 rfl ?_)
    refine r_getR (dc dkX12_said 20 rfl) flX12_154 fd_27_5 (np 43 rfl ?_)
    refine r_aload_n (dc dkX12_said 21 rfl) rfl (np 44 rfl ?_)
    refine r_getR (dc dkX12_said 22 rfl) flX12_24 fd_0_2 (np 47 rfl ?_)
    refine r_getR (dc dkX12_said 23 rfl) flX12_105 fd_27_1 (np 50 rfl ?_)
    refine r_getR (dc dkX12_said 24 rfl) flX12_167 fd_28_9 (np 53 rfl ?_)
    refine r_iload_n (dc dkX12_said 25 rfl) rfl (np 54 rfl ?_)
    refine r_aload_n (dc dkX12_said 26 rfl) rfl (np 55 rfl ?_)
    refine r_getR (dc dkX12_said 27 rfl) flX12_52 fd_0_8 (np 58 rfl ?_)
    refine r_cV3 (y' := miX9_holdsOf) (dc dkX12_said 28 rfl) mlX12_383 ceX9_holdsOf ob_38 (Nat.le_of_ble_eq_true rfl) (Nat.le_of_ble_eq_true rfl) (c_X9_holdsOf oB (fun b b0 b1 => by rw [S 30 (by decide)] at b1; rw [S 32 (by decide)]; exact hn b b0 b1) (by omega) (by rw [S 30 (by decide)]; omega) (by rw [S 38 (by decide)]; exact hs) (by rw [S 38 (by decide), S 39 (by decide)]; exact hc) (by rw [S 38 (by decide), S 39 (by decide)]; exact ha)) (fun r2 τ2 hp2 => (np 61 rfl ?_))
    obtain ⟨rfl, S2⟩ := hp2
    replace S2 : same [11, 12, 13, 14] σ τ2 := fun c hc => (S2 c hc).trans (S c hc)
    rw [atS_e S, S 39 (by decide), S 38 (by decide)]
    refine r_bz (tgt := 74) (dc dkX12_said 29 rfl) rfl (fun h61 => ?_) (fun h61 => (np 64 rfl ?_))
    · skip
      refine r_iinc (lv' := [(3, _), (0, _), (1, _), (2, _)]) (dc dkX12_said 36 rfl) (Nat.le_of_ble_eq_true rfl) rfl rfl (np 77 rfl ?_)
      refine r_goto (tgt := 19) (dc dkX12_said 37 rfl) rfl ?_
      refine r_pick [1, 2, 3, 0] rfl ?_
      exact ih19 _ _ _ (by
            refine ⟨by omega, S2, ?_⟩
            unfold saL
            rw [fl_s _ (by omega)]
            first
            | (rw [lif_f h61, List.append_nil]; exact ⟨L1, L2⟩)
            | (rw [lif_t h61]; exact fnd_s L1 L2 (by omega))) (by omega)
    have nb2 := sa_len (Q := (fun b => hdP (rnL (atS σ b) (σ 39) (σ 38 0).toNat 0 []))) (n := i) (by omega)
    rw [← Int.ofNat_le, ← L1] at nb2
    refine r_iload_n (dc dkX12_said 30 rfl) rfl (np 65 rfl ?_)
    refine r_iload_n (dc dkX12_said 31 rfl) rfl (np 66 rfl ?_)
    refine r_icmp_ne (tgt := 71) (dc dkX12_said 32 rfl) rfl (by first | assumption | omega | decide) (by first | assumption | omega | decide) (fun h66 => ?_) (fun h66 => (np 69 rfl ?_))
    · skip
      refine r_iinc (lv' := [(2, _), (0, _), (1, _), (3, _)]) (dc dkX12_said 35 rfl) (Nat.le_of_ble_eq_true rfl) rfl rfl (np 74 rfl ?_)
      refine r_iinc (lv' := [(3, _), (2, _), (0, _), (1, _)]) (dc dkX12_said 36 rfl) (Nat.le_of_ble_eq_true rfl) rfl rfl (np 77 rfl ?_)
      refine r_goto (tgt := 19) (dc dkX12_said 37 rfl) rfl ?_
      refine r_pick [2, 3, 1, 0] rfl ?_
      exact ih19 _ _ _ (by
            refine ⟨by omega, S2, ?_⟩
            unfold saL
            rw [fl_s _ (by omega)]
            first
            | (rw [lif_f h61, List.append_nil]; exact ⟨L1, L2⟩)
            | (rw [lif_t h61]; exact fnd_s L1 L2 (by omega))) (by omega)
    refine r_iload_n (dc dkX12_said 33 rfl) rfl (np 70 rfl ?_)
    exact r_iret (dc dkX12_said 34 rfl) rfl ⟨S2, congrArg (fun z => some (vI z)) (by rw [gte_f h10]; exact (nthL_at (sa_at ⟨by omega, by omega⟩ h61) (by rw [← L1]; omega)).symm)⟩
  refine r_iconst (dc dkX12_said 5 rfl) (np 14 rfl ?_)
  exact r_iret (dc dkX12_said 6 rfl) rfl ⟨same.refl _ _, congrArg (fun z => some (vI z)) (gte_t h10).symm⟩
