/-- a byte is put into the reference's text -/
theorem TXr {σ τ : jS} {L : List Int} {c : Int} (h : TX (σ 130) (σ 111 36) L) (e : τ = ju (ju σ 130 (σ 111 36) c) 111 36 (σ 111 36 + 1)) : mdT [36] [130] σ τ ∧ TX (τ 130) (τ 111 36) (L ++ [c]) := by
  refine ⟨by rw [e]; exact ((mdT.refl _ _ _).row (by decide) (by decide)).put (by decide), ?_⟩
  have e4 : τ 111 36 = σ 111 36 + 1 := by rw [e, ju_at]
  rw [e4]
  refine TX_1 h ?_ (fun j hj => ?_)
  · rw [e, ju_off _ _ _ _ _ (by decide)]; exact ju_at _ _ _ _
  · rw [e, ju_off _ _ _ _ _ (by decide), ju_ne (by omega)]
set_option maxRecDepth 100000 in
set_option maxHeartbeats 4000000 in
theorem c_X13_put {σ : jS} {L : List Int} (hT : TX (σ 130) (σ 111 36) L) (hl : L.length < 200) {c : Int} : Jm 1 miX13_put [.ref 111, vI c] σ (fun r τ => r = none ∧ mdT [36] [130] σ τ ∧ TX (τ 130) (τ 111 36) (L ++ [c])) := by
  have t1 := hT.1
  refine jm_ofF (Po := (fun r τ => r = none ∧ mdT [36] [130] σ τ ∧ TX (τ 130) (τ 111 36) (L ++ [c]))) (plainFor_of_name (by decide)) (Nat.le_of_ble_eq_true rfl) (lv := [(0, _), (1, _)]) rfl ?_
  refine r_aload_n (dc dkX13_put 0 rfl) rfl (np 1 rfl ?_)
  refine r_getR (dc dkX13_put 1 rfl) flX13_66 fd_111_35 (np 4 rfl ?_)
  refine r_aload_n (dc dkX13_put 2 rfl) rfl (np 5 rfl ?_)
  refine r_gI 36 (dc dkX13_put 3 rfl) flX13_399 fd_111_36 rfl (np 8 rfl ?_)
  refine r_iload_n (dc dkX13_put 4 rfl) rfl (np 9 rfl ?_)
  refine r_iast (dc dkX13_put 5 rfl) ar_130 (by omega) (np 10 rfl ?_)
  refine r_aload_n (dc dkX13_put 6 rfl) rfl (np 11 rfl ?_)
  refine r_dup (dc dkX13_put 7 rfl) rfl (np 12 rfl ?_)
  refine r_gI 36 (dc dkX13_put 8 rfl) flX13_399 fd_111_36 rfl (np 15 rfl ?_)
  refine r_iconst (dc dkX13_put 9 rfl) (np 16 rfl ?_)
  refine r_iadd (dc dkX13_put 10 rfl) (np 17 rfl ?_)
  refine r_pI 36 (dc dkX13_put 11 rfl) fpX13_399 fd_111_36 rfl (np 20 rfl ?_)
  exact r_vret (dc dkX13_put 12 rfl) rfl ⟨rfl, TXr hT (by rw [ju_off _ _ _ _ _ (by decide)])⟩
set_option maxRecDepth 100000 in
set_option maxHeartbeats 4000000 in
theorem c_X13_putSigned {σ : jS} {L : List Int} (hT : TX (σ 130) (σ 111 36) L) (hl : L.length < 190) {v : Int} (hv : -9 ≤ v ∧ v ≤ 9) : Jm 2 miX13_putSigned [.ref 111, vI v] σ (fun r τ => r = none ∧ mdT [36] [130] σ τ ∧ TX (τ 130) (τ 111 36) (L ++ nuT v)) := by
  refine jm_ofF (Po := (fun r τ => r = none ∧ mdT [36] [130] σ τ ∧ TX (τ 130) (τ 111 36) (L ++ nuT v))) (plainFor_of_name (by decide)) (Nat.le_of_ble_eq_true rfl) (lv := [(0, _), (1, _)]) rfl ?_
  refine r_aload_n (dc dkX13_putSigned 0 rfl) rfl (np 1 rfl ?_)
  refine r_bipush (dc dkX13_putSigned 1 rfl) bp_32 (np 3 rfl ?_)
  refine r_cV1 (y' := miX13_put) (dc dkX13_putSigned 2 rfl) mlX13_402 ceX13_put ob_111 (Nat.le_of_ble_eq_true rfl) (Nat.le_of_ble_eq_true rfl) (c_X13_put hT (by omega)) (fun r τ2 hp2 => (np 6 rfl ?_))
  obtain ⟨rfl, S2, T2⟩ := hp2
  have jj16 : ∀ τ4 : jS, (mdT [36] [130] σ τ4 ∧ TX (τ4 130) (τ4 111 36) (L ++ [32] ++ (if v < 0 then [45] else []))) → jR 2 miX13_putSigned (fun r τ => r = none ∧ mdT [36] [130] σ τ ∧ TX (τ 130) (τ 111 36) (L ++ nuT v)) 16 [(0, .ref 111), (1, vI v)] [] τ4 := by
    intro τ4 hq
    obtain ⟨S4, T4⟩ := hq
    have hl4 : (L ++ [32] ++ (if v < 0 then [45] else [])).length < 200 := by
      split <;> (simp only [List.length_append, List.length_cons, List.length_nil]; omega)
    refine r_aload_n (dc dkX13_putSigned 8 rfl) rfl (np 17 rfl ?_)
    refine r_bipush (dc dkX13_putSigned 9 rfl) bp_48 (np 19 rfl ?_)
    refine r_iload_n (dc dkX13_putSigned 10 rfl) rfl (np 20 rfl ?_)
    refine r_pS1 (y' := miX13_size) (dc dkX13_putSigned 11 rfl) mlX13_105 seX13_size (Nat.le_of_ble_eq_true rfl) (Nat.le_of_ble_eq_true rfl) (c_X13_size (by first | assumption | omega)) (np 23 rfl ?_)
    refine r_iadd (dc dkX13_putSigned 12 rfl) (np 24 rfl ?_)
    refine r_cV1 (y' := miX13_put) (dc dkX13_putSigned 13 rfl) mlX13_402 ceX13_put ob_111 (Nat.le_of_ble_eq_true rfl) (Nat.le_of_ble_eq_true rfl) (c_X13_put T4 hl4) (fun r τ5 hp5 => (np 27 rfl ?_))
    obtain ⟨rfl, S5, T5⟩ := hp5
    exact r_vret (dc dkX13_putSigned 14 rfl) rfl ⟨rfl, S4.tr S5, by unfold nuT; rw [← List.append_assoc, ← List.append_assoc]; exact T5⟩
  refine r_iload_n (dc dkX13_putSigned 3 rfl) rfl (np 7 rfl ?_)
  refine r_if_ge (tgt := 16) (dc dkX13_putSigned 4 rfl) rfl (by first | assumption | decide | omega) (fun h7 => ?_) (fun h7 => (np 10 rfl ?_))
  · skip
    refine r_pick [0, 1] rfl ?_
    exact jj16 _ (by first | exact ⟨S2.tr S3, by rw [if_pos (by omega)]; exact T3⟩ | exact ⟨S2, by rw [if_neg (by omega), List.append_nil]; exact T2⟩)
  refine r_aload_n (dc dkX13_putSigned 5 rfl) rfl (np 11 rfl ?_)
  refine r_bipush (dc dkX13_putSigned 6 rfl) bp_45 (np 13 rfl ?_)
  refine r_cV1 (y' := miX13_put) (dc dkX13_putSigned 7 rfl) mlX13_402 ceX13_put ob_111 (Nat.le_of_ble_eq_true rfl) (Nat.le_of_ble_eq_true rfl) (c_X13_put T2 (by simp only [List.length_append, List.length_cons, List.length_nil]; omega)) (fun r τ3 hp3 => (np 16 rfl ?_))
  obtain ⟨rfl, S3, T3⟩ := hp3
  refine r_pick [0, 1] rfl ?_
  exact jj16 _ (by first | exact ⟨S2.tr S3, by rw [if_pos (by omega)]; exact T3⟩ | exact ⟨S2, by rw [if_neg (by omega), List.append_nil]; exact T2⟩)
