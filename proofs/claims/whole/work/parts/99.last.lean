set_option maxRecDepth 100000 in
set_option maxHeartbeats 4000000 in
theorem zz_c_X7_meet {σ : jS} {a b c e : Int} (ha : isPg a) (hb : isPg b) (hc : isPg c) (he : isPg e) : Jp 2 miX7_meet [vI a, vI b, vI c, vI e] σ (vI (mt a b c e)) := by
  have t1 : iR (tn a b c) := tn_R ha hb hc
  have t2 : iR (tn a b e) := tn_R ha hb he
  have t3 : iR (tn c e a) := tn_R hc he ha
  have t4 : iR (tn c e b) := tn_R hc he hb
  have q1 : iR (tn a b c * tn a b e) := tn2_R ha hb hc ha hb he
  have q2 : iR (tn c e a * tn c e b) := tn2_R hc he ha hc he hb
  have l1 : iR (al c a b) := al_R hc ha hb
  have l2 : iR (al e a b) := al_R he ha hb
  have l3 : iR (al a c e) := al_R ha hc he
  have l4 : iR (al b c e) := al_R hb hc he
  refine jm_ofF (Po := (jP (vI (mt a b c e)) σ)) (plainFor_of_name (by decide)) (Nat.le_of_ble_eq_true rfl) (lv := [(0, _), (1, _), (2, _), (3, _)]) rfl ?_
  refine r_iload_n (dc dkX7_meet 0 rfl) rfl (np 1 rfl ?_)
  refine r_iload_n (dc dkX7_meet 1 rfl) rfl (np 2 rfl ?_)
  refine r_iload_n (dc dkX7_meet 2 rfl) rfl (np 3 rfl ?_)
  refine r_pS3 (y' := miX7_turn) (dc dkX7_meet 3 rfl) mlX7_21 seX7_turn (Nat.le_of_ble_eq_true rfl) (Nat.le_of_ble_eq_true rfl) (c_X7_turn (by first | assumption | omega) (by first | assumption | omega) (by first | assumption | omega)) (np 6 rfl ?_)
  refine r_istore (lv' := [(4, _), (0, _), (1, _), (2, _), (3, _)]) (dc dkX7_meet 4 rfl) (Nat.le_of_ble_eq_true rfl) rfl (np 8 rfl ?_)
  refine r_iload_n (dc dkX7_meet 5 rfl) rfl (np 9 rfl ?_)
  refine r_iload_n (dc dkX7_meet 6 rfl) rfl (np 10 rfl ?_)
  refine r_iload_n (dc dkX7_meet 7 rfl) rfl (np 11 rfl ?_)
  refine r_pS3 (y' := miX7_turn) (dc dkX7_meet 8 rfl) mlX7_21 seX7_turn (Nat.le_of_ble_eq_true rfl) (Nat.le_of_ble_eq_true rfl) (c_X7_turn (by first | assumption | omega) (by first | assumption | omega) (by first | assumption | omega)) (np 14 rfl ?_)
  refine r_istore (lv' := [(5, _), (4, _), (0, _), (1, _), (2, _), (3, _)]) (dc dkX7_meet 9 rfl) (Nat.le_of_ble_eq_true rfl) rfl (np 16 rfl ?_)
  refine r_iload_n (dc dkX7_meet 10 rfl) rfl (np 17 rfl ?_)
  refine r_iload_n (dc dkX7_meet 11 rfl) rfl (np 18 rfl ?_)
  refine r_iload_n (dc dkX7_meet 12 rfl) rfl (np 19 rfl ?_)
  refine r_pS3 (y' := miX7_turn) (dc dkX7_meet 13 rfl) mlX7_21 seX7_turn (Nat.le_of_ble_eq_true rfl) (Nat.le_of_ble_eq_true rfl) (c_X7_turn (by first | assumption | omega) (by first | assumption | omega) (by first | assumption | omega)) (np 22 rfl ?_)
  refine r_istore (lv' := [(6, _), (5, _), (4, _), (0, _), (1, _), (2, _), (3, _)]) (dc dkX7_meet 14 rfl) (Nat.le_of_ble_eq_true rfl) rfl (np 24 rfl ?_)
  refine r_iload_n (dc dkX7_meet 15 rfl) rfl (np 25 rfl ?_)
  refine r_iload_n (dc dkX7_meet 16 rfl) rfl (np 26 rfl ?_)
  refine r_iload_n (dc dkX7_meet 17 rfl) rfl (np 27 rfl ?_)
  refine r_pS3 (y' := miX7_turn) (dc dkX7_meet 18 rfl) mlX7_21 seX7_turn (Nat.le_of_ble_eq_true rfl) (Nat.le_of_ble_eq_true rfl) (c_X7_turn (by first | assumption | omega) (by first | assumption | omega) (by first | assumption | omega)) (np 30 rfl ?_)
  refine r_istore (lv' := [(7, _), (6, _), (5, _), (4, _), (0, _), (1, _), (2, _), (3, _)]) (dc dkX7_meet 19 rfl) (Nat.le_of_ble_eq_true rfl) rfl (np 32 rfl ?_)
  refine r_iload (dc dkX7_meet 20 rfl) rfl (np 34 rfl ?_)
  refine r_iload (dc dkX7_meet 21 rfl) rfl (np 36 rfl ?_)
  refine r_imul (dc dkX7_meet 22 rfl) (np 37 rfl ?_)
  have jj50 : ¬ (tn a b c * tn a b e < 0 ∧ tn c e a * tn c e b < 0) → jR 2 miX7_meet (jP (vI (mt a b c e)) σ) 50 [(0, vI a), (1, vI b), (2, vI c), (3, vI e), (4, vI (tn a b c)), (5, vI (tn a b e)), (6, vI (tn c e a)), (7, vI (tn c e b))] [] σ := by
    intro hx
    have jj106 : (onS c a b ∨ onS e a b ∨ onS a c e ∨ onS b c e) → jR 2 miX7_meet (jP (vI (mt a b c e)) σ) 106 [(0, vI a), (1, vI b), (2, vI c), (3, vI e), (4, vI (tn a b c)), (5, vI (tn a b e)), (6, vI (tn c e a)), (7, vI (tn c e b))] [] σ := by
      intro hx9
      refine r_iconst (dc dkX7_meet 58 rfl) (np 107 rfl ?_)
      refine r_goto (tgt := 111) (dc dkX7_meet 59 rfl) rfl ?_
      refine r_istore (lv' := [(8, _), (0, _), (1, _), (2, _), (3, _), (4, _), (5, _), (6, _), (7, _)]) (dc dkX7_meet 61 rfl) (Nat.le_of_ble_eq_true rfl) rfl (np 113 rfl ?_)
      refine r_iload (dc dkX7_meet 62 rfl) rfl (np 115 rfl ?_)
      refine r_if_eq (tgt := 122) (dc dkX7_meet 63 rfl) rfl (by first | assumption | decide | omega) (fun h115 => ?_) (fun h115 => (np 118 rfl ?_))
      · exact absurd h115 (by decide)
      refine r_iconst (dc dkX7_meet 64 rfl) (np 119 rfl ?_)
      refine r_goto (tgt := 123) (dc dkX7_meet 65 rfl) rfl ?_
      exact r_iret (dc dkX7_meet 67 rfl) rfl ⟨congrArg (fun z => some (vI z)) (by unfold mt; rw [if_neg hx, if_pos hx9]), rfl⟩
    have jj64 : ¬ onS c a b → jR 2 miX7_meet (jP (vI (mt a b c e)) σ) 64 [(0, vI a), (1, vI b), (2, vI c), (3, vI e), (4, vI (tn a b c)), (5, vI (tn a b e)), (6, vI (tn c e a)), (7, vI (tn c e b))] [] σ := by
      intro hx1
      have jj78 : ¬ onS e a b → jR 2 miX7_meet (jP (vI (mt a b c e)) σ) 78 [(0, vI a), (1, vI b), (2, vI c), (3, vI e), (4, vI (tn a b c)), (5, vI (tn a b e)), (6, vI (tn c e a)), (7, vI (tn c e b))] [] σ := by
        intro hx2
        have jj92 : ¬ onS a c e → jR 2 miX7_meet (jP (vI (mt a b c e)) σ) 92 [(0, vI a), (1, vI b), (2, vI c), (3, vI e), (4, vI (tn a b c)), (5, vI (tn a b e)), (6, vI (tn c e a)), (7, vI (tn c e b))] [] σ := by
          intro hx3
          refine r_iload (dc dkX7_meet 51 rfl) rfl (np 94 rfl ?_)
          refine r_if_ne (tgt := 110) (dc dkX7_meet 52 rfl) rfl (by first | assumption | decide | omega) (fun h94 => ?_) (fun h94 => (np 97 rfl ?_))
          · skip
            refine r_iconst (dc dkX7_meet 60 rfl) (np 111 rfl ?_)
            refine r_istore (lv' := [(8, _), (0, _), (1, _), (2, _), (3, _), (4, _), (5, _), (6, _), (7, _)]) (dc dkX7_meet 61 rfl) (Nat.le_of_ble_eq_true rfl) rfl (np 113 rfl ?_)
            refine r_iload (dc dkX7_meet 62 rfl) rfl (np 115 rfl ?_)
            refine r_if_eq (tgt := 122) (dc dkX7_meet 63 rfl) rfl (by first | assumption | decide | omega) (fun h115 => ?_) (fun h115 => (np 118 rfl ?_))
            · skip
              refine r_iconst (dc dkX7_meet 66 rfl) (np 123 rfl ?_)
              exact r_iret (dc dkX7_meet 67 rfl) rfl ⟨congrArg (fun z => some (vI z)) (by unfold mt; rw [if_neg hx, if_neg (fun q => by rcases q with q | q | q | q; exact hx1 q; exact hx2 q; exact hx3 q; have := q.1; have := q.2; omega)]), rfl⟩
            exact absurd h115 (by decide)
          refine r_iload_n (dc dkX7_meet 53 rfl) rfl (np 98 rfl ?_)
          refine r_iload_n (dc dkX7_meet 54 rfl) rfl (np 99 rfl ?_)
          refine r_iload_n (dc dkX7_meet 55 rfl) rfl (np 100 rfl ?_)
          refine r_pS3 (y' := miX7_along) (dc dkX7_meet 56 rfl) mlX7_9 seX7_along (Nat.le_of_ble_eq_true rfl) (Nat.le_of_ble_eq_true rfl) (c_X7_along (by first | assumption | omega) (by first | assumption | omega) (by first | assumption | omega)) (np 103 rfl ?_)
          refine r_if_gt (tgt := 110) (dc dkX7_meet 57 rfl) rfl (by first | assumption | decide | omega) (fun h103 => ?_) (fun h103 => (np 106 rfl ?_))
          · skip
            refine r_iconst (dc dkX7_meet 60 rfl) (np 111 rfl ?_)
            refine r_istore (lv' := [(8, _), (0, _), (1, _), (2, _), (3, _), (4, _), (5, _), (6, _), (7, _)]) (dc dkX7_meet 61 rfl) (Nat.le_of_ble_eq_true rfl) rfl (np 113 rfl ?_)
            refine r_iload (dc dkX7_meet 62 rfl) rfl (np 115 rfl ?_)
            refine r_if_eq (tgt := 122) (dc dkX7_meet 63 rfl) rfl (by first | assumption | decide | omega) (fun h115 => ?_) (fun h115 => (np 118 rfl ?_))
            · skip
              refine r_iconst (dc dkX7_meet 66 rfl) (np 123 rfl ?_)
              exact r_iret (dc dkX7_meet 67 rfl) rfl ⟨congrArg (fun z => some (vI z)) (by unfold mt; rw [if_neg hx, if_neg (fun q => by rcases q with q | q | q | q; exact hx1 q; exact hx2 q; exact hx3 q; have := q.1; have := q.2; omega)]), rfl⟩
            exact absurd h115 (by decide)
          refine r_pick [0, 1, 2, 3, 4, 5, 6, 7] rfl ?_
          exact jj106 (by first | exact Or.inl ⟨by omega, by omega⟩ | exact Or.inr (Or.inl ⟨by omega, by omega⟩) | exact Or.inr (Or.inr (Or.inl ⟨by omega, by omega⟩)) | exact Or.inr (Or.inr (Or.inr ⟨by omega, by omega⟩)))
        refine r_iload (dc dkX7_meet 44 rfl) rfl (np 80 rfl ?_)
        refine r_if_ne (tgt := 92) (dc dkX7_meet 45 rfl) rfl (by first | assumption | decide | omega) (fun h80 => ?_) (fun h80 => (np 83 rfl ?_))
        · skip
          refine r_pick [0, 1, 2, 3, 4, 5, 6, 7] rfl ?_
          exact jj92 (fun q => by have := q.1; have := q.2; omega)
        refine r_iload_n (dc dkX7_meet 46 rfl) rfl (np 84 rfl ?_)
        refine r_iload_n (dc dkX7_meet 47 rfl) rfl (np 85 rfl ?_)
        refine r_iload_n (dc dkX7_meet 48 rfl) rfl (np 86 rfl ?_)
        refine r_pS3 (y' := miX7_along) (dc dkX7_meet 49 rfl) mlX7_9 seX7_along (Nat.le_of_ble_eq_true rfl) (Nat.le_of_ble_eq_true rfl) (c_X7_along (by first | assumption | omega) (by first | assumption | omega) (by first | assumption | omega)) (np 89 rfl ?_)
        refine r_if_le (tgt := 106) (dc dkX7_meet 50 rfl) rfl (by first | assumption | decide | omega) (fun h89 => ?_) (fun h89 => (np 92 rfl ?_))
        · skip
          refine r_pick [0, 1, 2, 3, 4, 5, 6, 7] rfl ?_
          exact jj106 (by first | exact Or.inl ⟨by omega, by omega⟩ | exact Or.inr (Or.inl ⟨by omega, by omega⟩) | exact Or.inr (Or.inr (Or.inl ⟨by omega, by omega⟩)) | exact Or.inr (Or.inr (Or.inr ⟨by omega, by omega⟩)))
        refine r_pick [0, 1, 2, 3, 4, 5, 6, 7] rfl ?_
        exact jj92 (fun q => by have := q.1; have := q.2; omega)
      refine r_iload (dc dkX7_meet 37 rfl) rfl (np 66 rfl ?_)
      refine r_if_ne (tgt := 78) (dc dkX7_meet 38 rfl) rfl (by first | assumption | decide | omega) (fun h66 => ?_) (fun h66 => (np 69 rfl ?_))
      · skip
        refine r_pick [0, 1, 2, 3, 4, 5, 6, 7] rfl ?_
        exact jj78 (fun q => by have := q.1; have := q.2; omega)
      refine r_iload_n (dc dkX7_meet 39 rfl) rfl (np 70 rfl ?_)
      refine r_iload_n (dc dkX7_meet 40 rfl) rfl (np 71 rfl ?_)
      refine r_iload_n (dc dkX7_meet 41 rfl) rfl (np 72 rfl ?_)
      refine r_pS3 (y' := miX7_along) (dc dkX7_meet 42 rfl) mlX7_9 seX7_along (Nat.le_of_ble_eq_true rfl) (Nat.le_of_ble_eq_true rfl) (c_X7_along (by first | assumption | omega) (by first | assumption | omega) (by first | assumption | omega)) (np 75 rfl ?_)
      refine r_if_le (tgt := 106) (dc dkX7_meet 43 rfl) rfl (by first | assumption | decide | omega) (fun h75 => ?_) (fun h75 => (np 78 rfl ?_))
      · skip
        refine r_pick [0, 1, 2, 3, 4, 5, 6, 7] rfl ?_
        exact jj106 (by first | exact Or.inl ⟨by omega, by omega⟩ | exact Or.inr (Or.inl ⟨by omega, by omega⟩) | exact Or.inr (Or.inr (Or.inl ⟨by omega, by omega⟩)) | exact Or.inr (Or.inr (Or.inr ⟨by omega, by omega⟩)))
      refine r_pick [0, 1, 2, 3, 4, 5, 6, 7] rfl ?_
      exact jj78 (fun q => by have := q.1; have := q.2; omega)
    refine r_iload (dc dkX7_meet 30 rfl) rfl (np 52 rfl ?_)
    refine r_if_ne (tgt := 64) (dc dkX7_meet 31 rfl) rfl (by first | assumption | decide | omega) (fun h52 => ?_) (fun h52 => (np 55 rfl ?_))
    · skip
      refine r_pick [0, 1, 2, 3, 4, 5, 6, 7] rfl ?_
      exact jj64 (fun q => by have := q.1; have := q.2; omega)
    refine r_iload_n (dc dkX7_meet 32 rfl) rfl (np 56 rfl ?_)
    refine r_iload_n (dc dkX7_meet 33 rfl) rfl (np 57 rfl ?_)
    refine r_iload_n (dc dkX7_meet 34 rfl) rfl (np 58 rfl ?_)
    refine r_pS3 (y' := miX7_along) (dc dkX7_meet 35 rfl) mlX7_9 seX7_along (Nat.le_of_ble_eq_true rfl) (Nat.le_of_ble_eq_true rfl) (c_X7_along (by first | assumption | omega) (by first | assumption | omega) (by first | assumption | omega)) (np 61 rfl ?_)
    refine r_if_le (tgt := 106) (dc dkX7_meet 36 rfl) rfl (by first | assumption | decide | omega) (fun h61 => ?_) (fun h61 => (np 64 rfl ?_))
    · skip
      refine r_pick [0, 1, 2, 3, 4, 5, 6, 7] rfl ?_
      exact jj106 (by first | exact Or.inl ⟨by omega, by omega⟩ | exact Or.inr (Or.inl ⟨by omega, by omega⟩) | exact Or.inr (Or.inr (Or.inl ⟨by omega, by omega⟩)) | exact Or.inr (Or.inr (Or.inr ⟨by omega, by omega⟩)))
    refine r_pick [0, 1, 2, 3, 4, 5, 6, 7] rfl ?_
    exact jj64 (fun q => by have := q.1; have := q.2; omega)
  refine r_if_ge (tgt := 50) (dc dkX7_meet 23 rfl) rfl (by first | assumption | decide | omega) (fun h37 => ?_) (fun h37 => (np 40 rfl ?_))
  · skip
    refine r_pick [4, 5, 6, 7, 3, 2, 1, 0] rfl ?_
    exact jj50 (by omega)
  refine r_iload (dc dkX7_meet 24 rfl) rfl (np 42 rfl ?_)
  refine r_iload (dc dkX7_meet 25 rfl) rfl (np 44 rfl ?_)
  refine r_imul (dc dkX7_meet 26 rfl) (np 45 rfl ?_)
  refine r_if_ge (tgt := 50) (dc dkX7_meet 27 rfl) rfl (by first | assumption | decide | omega) (fun h45 => ?_) (fun h45 => (np 48 rfl ?_))
  · skip
    refine r_pick [4, 5, 6, 7, 3, 2, 1, 0] rfl ?_
    exact jj50 (by omega)
  refine r_iconst (dc dkX7_meet 28 rfl) (np 49 rfl ?_)
  exact r_iret (dc dkX7_meet 29 rfl) rfl ⟨congrArg (fun z => some (vI z)) (by unfold mt; rw [if_pos (by omega)]), rfl⟩
