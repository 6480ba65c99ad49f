def nmV (σ : jS) (n s w j : Int) : Int := if j % 2 = 0 then σ 13 ((s + w * (j / 2)) % n) else σ 14 ((s + w * (j / 2)) % n)
theorem lxS_c {m : Int} {f g f' g' : Int → Int} (hf : ∀ j, 0 ≤ j → j < m → f' j = f j) (hg : ∀ j, 0 ≤ j → j < m → g' j = g j) : lxS m f' g' ↔ lxS m f g := by
  constructor
  · rintro ⟨k, hk, e, l⟩
    exact ⟨k, hk, fun j j0 j1 => by rw [← hf j j0 (by omega), ← hg j j0 (by omega)]; exact e j j0 j1, by rw [← hf k hk.1 hk.2, ← hg k hk.1 hk.2]; exact l⟩
  · rintro ⟨k, hk, e, l⟩
    exact ⟨k, hk, fun j j0 j1 => by rw [hf j j0 (by omega), hg j j0 (by omega)]; exact e j j0 j1, by rw [hf k hk.1 hk.2, hg k hk.1 hk.2]; exact l⟩
/-- the rows of a band b, poses u to v -/
def VV (n u v p i : Int) : Prop := (u ≤ p ∧ p ≤ v) ∧ 0 ≤ i ∧ i < 2 * n
theorem r12 {a : Nat} (h : a = 10 ∨ a = 11 ∨ a = 12) : jAr a = some (0, 16) := by rcases h with rfl | rfl | rfl <;> rfl
set_option maxRecDepth 100000 in
set_option maxHeartbeats 4000000 in
theorem c_X10_numberAt {σ : jS} {n s w : Int} (hn : 1 ≤ n ∧ n ≤ 8) (hsb : 0 ≤ s ∧ s ≤ 7) (hw : w = 1 ∨ w = -1) {i : Int} (hi : 0 ≤ i ∧ i ≤ 15) : Jp 2 miX10_numberAt [.ref 9, vI s, vI w, vI n, vI i] σ (vI (nmV σ n s w i)) := by
  have wb : w * (i / 2) = i / 2 ∨ w * (i / 2) = -(i / 2) := by rcases hw with rfl | rfl <;> omega
  have e1 := Int.emod_nonneg (s + w * (i / 2)) (show n ≠ 0 by omega)
  have e2 := Int.emod_lt_of_pos (s + w * (i / 2)) (show 0 < n by omega)
  refine jm_ofF (Po := (jP (vI (nmV σ n s w i)) σ)) (plainFor_of_name (by decide)) (Nat.le_of_ble_eq_true rfl) (lv := [(0, _), (1, _), (2, _), (3, _), (4, _)]) rfl ?_
  refine r_iload_n (dc dkX10_numberAt 0 rfl) rfl (np 1 rfl ?_)
  refine r_if_le (tgt := 10) (dc dkX10_numberAt 1 rfl) rfl (by first | assumption | decide | omega) (fun h1 => ?_) (fun h1 => (np 4 rfl ?_))
  · skip
    omega
  refine r_iload_n (dc dkX10_numberAt 2 rfl) rfl (np 5 rfl ?_)
  refine r_bipush (dc dkX10_numberAt 3 rfl) bp_8 (np 7 rfl ?_)
  refine r_icmp_le (tgt := 12) (dc dkX10_numberAt 4 rfl) rfl (by first | assumption | decide | omega) (by first | assumption | decide | omega) (fun h7 => ?_) (fun h7 => (np 10 rfl ?_))
  · skip
    refine r_iload_n (dc dkX10_numberAt 7 rfl) rfl (np 13 rfl ?_)
    refine r_iload_n (dc dkX10_numberAt 8 rfl) rfl (np 14 rfl ?_)
    refine r_iload (dc dkX10_numberAt 9 rfl) rfl (np 16 rfl ?_)
    refine r_iconst (dc dkX10_numberAt 10 rfl) (np 17 rfl ?_)
    refine r_idivn (dc dkX10_numberAt 11 rfl) (by first | assumption | decide | omega) (by first | assumption | decide | omega) (np 18 rfl ?_)
    refine r_imul (dc dkX10_numberAt 12 rfl) (np 19 rfl ?_)
    refine r_iadd (dc dkX10_numberAt 13 rfl) (np 20 rfl ?_)
    refine r_iload_n (dc dkX10_numberAt 14 rfl) rfl (np 21 rfl ?_)
    refine r_pS2 (y' := miJ9_floorMod_7cf53) (dc dkX10_numberAt 15 rfl) mlX10_69 seJ9_floorMod_7cf53 (Nat.le_of_ble_eq_true rfl) (Nat.le_of_ble_eq_true rfl) (c_J9_floorMod_7cf53 (by omega) (by omega)) (np 24 rfl ?_)
    refine r_istore (lv' := [(5, _), (0, _), (1, _), (2, _), (3, _), (4, _)]) (dc dkX10_numberAt 16 rfl) (Nat.le_of_ble_eq_true rfl) rfl (np 26 rfl ?_)
    refine r_iload (dc dkX10_numberAt 17 rfl) rfl (np 28 rfl ?_)
    refine r_iconst (dc dkX10_numberAt 18 rfl) (np 29 rfl ?_)
    refine r_iremn (dc dkX10_numberAt 19 rfl) (by first | assumption | decide | omega) (by first | assumption | decide | omega) (np 30 rfl ?_)
    refine r_if_ne (tgt := 43) (dc dkX10_numberAt 20 rfl) rfl (by first | assumption | decide | omega) (fun h30 => ?_) (fun h30 => (np 33 rfl ?_))
    · skip
      refine r_aload_n (dc dkX10_numberAt 26 rfl) rfl (np 44 rfl ?_)
      refine r_getR (dc dkX10_numberAt 27 rfl) flX10_28 fd_9_5 (np 47 rfl ?_)
      refine r_iload (dc dkX10_numberAt 28 rfl) rfl (np 49 rfl ?_)
      refine r_iald (dc dkX10_numberAt 29 rfl) ar_14 (by omega) (np 50 rfl ?_)
      exact r_iret (dc dkX10_numberAt 30 rfl) rfl ⟨congrArg (fun z => some (vI z)) (by unfold nmV; first | (rw [if_pos (by omega)]; done) | (rw [if_neg (by omega)]; done)), rfl⟩
    refine r_aload_n (dc dkX10_numberAt 21 rfl) rfl (np 34 rfl ?_)
    refine r_getR (dc dkX10_numberAt 22 rfl) flX10_25 fd_9_4 (np 37 rfl ?_)
    refine r_iload (dc dkX10_numberAt 23 rfl) rfl (np 39 rfl ?_)
    refine r_iald (dc dkX10_numberAt 24 rfl) ar_13 (by omega) (np 40 rfl ?_)
    refine r_goto (tgt := 50) (dc dkX10_numberAt 25 rfl) rfl ?_
    exact r_iret (dc dkX10_numberAt 30 rfl) rfl ⟨congrArg (fun z => some (vI z)) (by unfold nmV; first | (rw [if_pos (by omega)]; done) | (rw [if_neg (by omega)]; done)), rfl⟩
  omega
theorem nmV_b {σ : jS} {n s w j : Int} (hn : 1 ≤ n ∧ n ≤ 8) (hxs : ∀ j, 0 ≤ j → j < n → cB 18 (σ 13 j) ∧ cB 18 (σ 14 j)) : cB 18 (nmV σ n s w j) := by
  have e1 := Int.emod_nonneg (s + w * (j / 2)) (show n ≠ 0 by omega)
  have e2 := Int.emod_lt_of_pos (s + w * (j / 2)) (show 0 < n by omega)
  have := hxs _ e1 e2
  unfold nmV
  split
  · exact this.1
  · exact this.2
set_option maxRecDepth 100000 in
set_option maxHeartbeats 4000000 in
theorem c_X10_isLess {σ : jS} {n s w : Int} (hn : 1 ≤ n ∧ n ≤ 8) (hsb : 0 ≤ s ∧ s ≤ 7) (hw : w = 1 ∨ w = -1) {a : Nat} (hx : a = 10 ∨ a = 11 ∨ a = 12) (hxs : ∀ j, 0 ≤ j → j < n → cB 18 (σ 13 j) ∧ cB 18 (σ 14 j)) (hr : ∀ j, 0 ≤ j → j < 2 * n → iR (σ a j)) : Jp 3 miX10_isLess [.ref 9, vI s, vI w, vI n, .ref a] σ (vI (bI (lxS (2 * n) (nmV σ n s w) (σ a)))) := by
  have ha := r12 hx
  refine jm_ofF (Po := (jP (vI (bI (lxS (2 * n) (nmV σ n s w) (σ a)))) σ)) (plainFor_of_name (by decide)) (Nat.le_of_ble_eq_true rfl) (lv := [(0, _), (1, _), (2, _), (3, _), (4, _)]) rfl ?_
  refine r_iconst (dc dkX10_isLess 0 rfl) (np 1 rfl ?_)
  refine r_istore (lv' := [(5, _), (0, _), (1, _), (2, _), (3, _), (4, _)]) (dc dkX10_isLess 1 rfl) (Nat.le_of_ble_eq_true rfl) rfl (np 3 rfl ?_)
  refine r_pick [1, 2, 3, 4, 5, 0] (lv' := [(0, _), (1, _), (2, _), (3, _), (4, _), (5, _)]) rfl ?_
  refine jlp1 (P := fun (i : Int) => jR _ _ _ 3 [(0, .ref 9), (1, vI s), (2, vI w), (3, vI n), (4, .ref a), (5, vI i)] [] σ) (I := fun (i : Int) => (0 ≤ i ∧ i ≤ 2 * n) ∧ ∀ j, 0 ≤ j → j < i → nmV σ n s w j = σ a j) (fun (i : Int) => (2 * n - i).toNat) ?_ _ ⟨by omega, fun j _ _ => by omega⟩
  intro i hI3 ih3
  refine r_iload (dc dkX10_isLess 2 rfl) rfl (np 5 rfl ?_)
  refine r_iconst (dc dkX10_isLess 3 rfl) (np 6 rfl ?_)
  refine r_iload_n (dc dkX10_isLess 4 rfl) rfl (np 7 rfl ?_)
  refine r_imul (dc dkX10_isLess 5 rfl) (np 8 rfl ?_)
  refine r_icmp_ge (tgt := 62) (dc dkX10_isLess 6 rfl) rfl (by first | assumption | decide | omega) (by first | assumption | decide | omega) (fun h8 => ?_) (fun h8 => (np 11 rfl ?_))
  · skip
    refine r_iconst (dc dkX10_isLess 34 rfl) (np 63 rfl ?_)
    exact r_zret (dc dkX10_isLess 35 rfl) rfl (by first | exact Or.inl rfl | exact Or.inr rfl) ⟨congrArg (fun z => some (vI z)) (bF (fun ⟨k, hk, e, l⟩ => by have := hI3.2 k hk.1 (by omega); omega)), rfl⟩
  refine r_iload (dc dkX10_isLess 7 rfl) rfl (np 13 rfl ?_)
  refine r_aload (dc dkX10_isLess 8 rfl) rfl (np 15 rfl ?_)
  refine r_alen (dc dkX10_isLess 9 rfl) ha (Nat.le_of_ble_eq_true rfl) (np 16 rfl ?_)
  refine r_icmp_ge (tgt := 62) (dc dkX10_isLess 10 rfl) rfl (by first | assumption | decide | omega) (by first | assumption | decide | omega) (fun h16 => ?_) (fun h16 => (np 19 rfl ?_))
  · skip
    refine r_iconst (dc dkX10_isLess 34 rfl) (np 63 rfl ?_)
    exact r_zret (dc dkX10_isLess 35 rfl) rfl (by first | exact Or.inl rfl | exact Or.inr rfl) ⟨congrArg (fun z => some (vI z)) (bF (fun ⟨k, hk, e, l⟩ => by have := hI3.2 k hk.1 (by omega); omega)), rfl⟩
  refine r_aload_n (dc dkX10_isLess 11 rfl) rfl (np 20 rfl ?_)
  refine r_iload_n (dc dkX10_isLess 12 rfl) rfl (np 21 rfl ?_)
  refine r_iload_n (dc dkX10_isLess 13 rfl) rfl (np 22 rfl ?_)
  refine r_iload_n (dc dkX10_isLess 14 rfl) rfl (np 23 rfl ?_)
  refine r_iload (dc dkX10_isLess 15 rfl) rfl (np 25 rfl ?_)
  refine r_pV4 (y' := miX10_numberAt) (dc dkX10_isLess 16 rfl) mlX10_72 ceX10_numberAt ob_9 (Nat.le_of_ble_eq_true rfl) (Nat.le_of_ble_eq_true rfl) (c_X10_numberAt hn hsb hw (by omega)) (np 28 rfl ?_)
  have nb := nmV_b (s := s) (w := w) (j := i) hn hxs
  have rb := hr i (by omega) (by omega)
  refine r_istore (lv' := [(6, _), (0, _), (1, _), (2, _), (3, _), (4, _), (5, _)]) (dc dkX10_isLess 17 rfl) (Nat.le_of_ble_eq_true rfl) rfl (np 30 rfl ?_)
  refine r_iload (dc dkX10_isLess 18 rfl) rfl (np 32 rfl ?_)
  refine r_aload (dc dkX10_isLess 19 rfl) rfl (np 34 rfl ?_)
  refine r_iload (dc dkX10_isLess 20 rfl) rfl (np 36 rfl ?_)
  refine r_iald (dc dkX10_isLess 21 rfl) ha (by omega) (np 37 rfl ?_)
  refine r_icmp_eq (tgt := 56) (dc dkX10_isLess 22 rfl) rfl (by omega) rb (fun h37 => ?_) (fun h37 => (np 40 rfl ?_))
  · skip
    refine r_iinc (lv' := [(5, _), (6, _), (0, _), (1, _), (2, _), (3, _), (4, _)]) (dc dkX10_isLess 32 rfl) (Nat.le_of_ble_eq_true rfl) rfl rfl (np 59 rfl ?_)
    refine r_goto (tgt := 3) (dc dkX10_isLess 33 rfl) rfl ?_
    refine r_pick [2, 3, 4, 5, 6, 0] rfl ?_
    exact ih3 _ ⟨by omega, fun j j0 j1 => by rcases (show j < i ∨ j = i by omega) with z | z; exact hI3.2 j j0 z; rw [z]; exact h37⟩ (by omega)
  refine r_iload (dc dkX10_isLess 23 rfl) rfl (np 42 rfl ?_)
  refine r_aload (dc dkX10_isLess 24 rfl) rfl (np 44 rfl ?_)
  refine r_iload (dc dkX10_isLess 25 rfl) rfl (np 46 rfl ?_)
  refine r_iald (dc dkX10_isLess 26 rfl) ha (by omega) (np 47 rfl ?_)
  refine r_icmp_ge (tgt := 54) (dc dkX10_isLess 27 rfl) rfl (by omega) rb (fun h47 => ?_) (fun h47 => (np 50 rfl ?_))
  · skip
    refine r_iconst (dc dkX10_isLess 30 rfl) (np 55 rfl ?_)
    exact r_zret (dc dkX10_isLess 31 rfl) rfl (by first | exact Or.inl rfl | exact Or.inr rfl) ⟨congrArg (fun z => some (vI z)) (by first | exact bT ⟨i, by omega, hI3.2, h47⟩ | exact bF (fun ⟨k, hk, e, l⟩ => by rcases Int.lt_trichotomy k i with z | z | z; have := hI3.2 k hk.1 z; omega; subst z; omega; have := e i (by omega) z; omega)), rfl⟩
  refine r_iconst (dc dkX10_isLess 28 rfl) (np 51 rfl ?_)
  refine r_goto (tgt := 55) (dc dkX10_isLess 29 rfl) rfl ?_
  exact r_zret (dc dkX10_isLess 31 rfl) rfl (by first | exact Or.inl rfl | exact Or.inr rfl) ⟨congrArg (fun z => some (vI z)) (by first | exact bT ⟨i, by omega, hI3.2, h47⟩ | exact bF (fun ⟨k, hk, e, l⟩ => by rcases Int.lt_trichotomy k i with z | z | z; have := hI3.2 k hk.1 z; omega; subst z; omega; have := e i (by omega) z; omega)), rfl⟩
set_option maxRecDepth 100000 in
set_option maxHeartbeats 4000000 in
theorem c_X10_fill {σ : jS} {n s w : Int} (hn : 1 ≤ n ∧ n ≤ 8) (hsb : 0 ≤ s ∧ s ≤ 7) (hw : w = 1 ∨ w = -1) {a : Nat} (hx : a = 10 ∨ a = 11 ∨ a = 12) : Jm 3 miX10_fill [.ref 9, vI s, vI w, vI n, .ref a] σ (fun r τ => r = none ∧ same [a] σ τ ∧ ∀ j, 0 ≤ j → j < 2 * n → τ a j = nmV σ n s w j) := by
  have ha := r12 hx
  refine jm_ofF (Po := (fun r τ => r = none ∧ same [a] σ τ ∧ ∀ j, 0 ≤ j → j < 2 * n → τ a j = nmV σ n s w j)) (plainFor_of_name (by decide)) (Nat.le_of_ble_eq_true rfl) (lv := [(0, _), (1, _), (2, _), (3, _), (4, _)]) rfl ?_
  refine r_iconst (dc dkX10_fill 0 rfl) (np 1 rfl ?_)
  refine r_istore (lv' := [(5, _), (0, _), (1, _), (2, _), (3, _), (4, _)]) (dc dkX10_fill 1 rfl) (Nat.le_of_ble_eq_true rfl) rfl (np 3 rfl ?_)
  refine r_pick [1, 2, 3, 4, 5, 0] (lv' := [(0, _), (1, _), (2, _), (3, _), (4, _), (5, _)]) rfl ?_
  refine jlp2 (P := fun (i : Int) (τ : jS) => jR _ _ _ 3 [(0, .ref 9), (1, vI s), (2, vI w), (3, vI n), (4, .ref a), (5, vI i)] [] τ) (I := fun (i : Int) (τ : jS) => (0 ≤ i ∧ i ≤ 2 * n) ∧ same [a] σ τ ∧ ∀ j, 0 ≤ j → j < i → τ a j = nmV σ n s w j) (fun (i : Int) (τ : jS) => (2 * n - i).toNat) ?_ _ _ ⟨by omega, same.refl _ _, fun j _ _ => by omega⟩
  intro i τ hI3 ih3
  have e13 : τ 13 = σ 13 := hI3.2.1 13 (by simp; omega)
  have e14 : τ 14 = σ 14 := hI3.2.1 14 (by simp; omega)
  have eN : ∀ j, nmV τ n s w j = nmV σ n s w j := fun j => by unfold nmV; rw [e13, e14]
  refine r_iload (dc dkX10_fill 2 rfl) rfl (np 5 rfl ?_)
  refine r_iconst (dc dkX10_fill 3 rfl) (np 6 rfl ?_)
  refine r_iload_n (dc dkX10_fill 4 rfl) rfl (np 7 rfl ?_)
  refine r_imul (dc dkX10_fill 5 rfl) (np 8 rfl ?_)
  refine r_icmp_ge (tgt := 39) (dc dkX10_fill 6 rfl) rfl (by first | assumption | decide | omega) (by first | assumption | decide | omega) (fun h8 => ?_) (fun h8 => (np 11 rfl ?_))
  · skip
    exact r_vret (dc dkX10_fill 22 rfl) rfl ⟨rfl, hI3.2.1, fun j j0 j1 => hI3.2.2 j j0 (by omega)⟩
  refine r_iload (dc dkX10_fill 7 rfl) rfl (np 13 rfl ?_)
  refine r_aload (dc dkX10_fill 8 rfl) rfl (np 15 rfl ?_)
  refine r_alen (dc dkX10_fill 9 rfl) ha (Nat.le_of_ble_eq_true rfl) (np 16 rfl ?_)
  refine r_icmp_ge (tgt := 39) (dc dkX10_fill 10 rfl) rfl (by first | assumption | decide | omega) (by first | assumption | decide | omega) (fun h16 => ?_) (fun h16 => (np 19 rfl ?_))
  · skip
    exact r_vret (dc dkX10_fill 22 rfl) rfl ⟨rfl, hI3.2.1, fun j j0 j1 => hI3.2.2 j j0 (by omega)⟩
  refine r_aload (dc dkX10_fill 11 rfl) rfl (np 21 rfl ?_)
  refine r_iload (dc dkX10_fill 12 rfl) rfl (np 23 rfl ?_)
  refine r_aload_n (dc dkX10_fill 13 rfl) rfl (np 24 rfl ?_)
  refine r_iload_n (dc dkX10_fill 14 rfl) rfl (np 25 rfl ?_)
  refine r_iload_n (dc dkX10_fill 15 rfl) rfl (np 26 rfl ?_)
  refine r_iload_n (dc dkX10_fill 16 rfl) rfl (np 27 rfl ?_)
  refine r_iload (dc dkX10_fill 17 rfl) rfl (np 29 rfl ?_)
  refine r_pV4 (y' := miX10_numberAt) (dc dkX10_fill 18 rfl) mlX10_72 ceX10_numberAt ob_9 (Nat.le_of_ble_eq_true rfl) (Nat.le_of_ble_eq_true rfl) (c_X10_numberAt hn hsb hw (by omega)) (np 32 rfl ?_)
  refine r_iast (dc dkX10_fill 19 rfl) ha (by omega) (np 33 rfl ?_)
  refine r_iinc (lv' := [(5, _), (0, _), (1, _), (2, _), (3, _), (4, _)]) (dc dkX10_fill 20 rfl) (Nat.le_of_ble_eq_true rfl) rfl rfl (np 36 rfl ?_)
  refine r_goto (tgt := 3) (dc dkX10_fill 21 rfl) rfl ?_
  refine r_pick [1, 2, 3, 4, 5, 0] rfl ?_
  exact ih3 _ _ ⟨by omega, hI3.2.1.put (by simp), fun j j0 j1 => by rcases (show j < i ∨ j = i by omega) with z | z; rw [ju_ne (by omega)]; exact hI3.2.2 j j0 z; rw [z, ju_at, eN]⟩ (by omega)
set_option maxRecDepth 100000 in
set_option maxHeartbeats 4000000 in
theorem c_X10_least {σ : jS} (hB : okB σ 30) {b : Int} (h0 : 0 ≤ b) (h1 : b < 8) (hn : 3 ≤ σ 32 b) {u v : Int} (hu : 0 ≤ u ∧ u ≤ v ∧ v ≤ 7) {a : Nat} (hx : a = 10 ∨ a = 11 ∨ a = 12) : Jm 4 miX10_least [.ref 9, .ref 30, vI b, vI u, vI v, .ref a] σ (fun r τ => r = some (vI (2 * σ 32 b)) ∧ same [13, 14, a] σ τ ∧ (∀ j, 0 ≤ j → j < 2 * σ 32 b → cB 18 (τ a j)) ∧ lsO (2 * σ 32 b) (VV (σ 32 b) u v) (rwV (σ 32 b) (bAt σ 30 b)) (τ a)) := by
  have hs := hB.2.1 b h0 h1
  replace hs : 0 ≤ σ 32 b ∧ σ 32 b ≤ 8 := hs
  have hPg : ∀ i, 0 ≤ i → isPg (bAt σ 30 b i) := fun i i0 => bAt_p hB h0 h1 (show 0 < σ 32 b by omega) i0
  have ha := r12 hx
  refine jm_ofF (Po := (fun r τ => r = some (vI (2 * σ 32 b)) ∧ same [13, 14, a] σ τ ∧ (∀ j, 0 ≤ j → j < 2 * σ 32 b → cB 18 (τ a j)) ∧ lsO (2 * σ 32 b) (VV (σ 32 b) u v) (rwV (σ 32 b) (bAt σ 30 b)) (τ a))) (plainFor_of_name (by decide)) (Nat.le_of_ble_eq_true rfl) (lv := [(0, _), (1, _), (2, _), (3, _), (4, _), (5, _)]) rfl ?_
  refine r_aload_n (dc dkX10_least 0 rfl) rfl (np 1 rfl ?_)
  refine r_iload_n (dc dkX10_least 1 rfl) rfl (np 2 rfl ?_)
  refine r_pV1 (y' := miX0_sizeOf) (dc dkX10_least 2 rfl) mlX10_43 ceX0_sizeOf ob_30 (Nat.le_of_ble_eq_true rfl) (Nat.le_of_ble_eq_true rfl) (c_X0_sizeOf isBands_at30 h0 h1) (np 5 rfl ?_)
  refine r_eqI (σ 32 b) rfl ?_
  refine r_bipush (dc dkX10_least 3 rfl) bp_8 (np 7 rfl ?_)
  refine r_pS2 (y' := miJ9_min_7cf53) (dc dkX10_least 4 rfl) mlX10_48 seJ9_min_7cf53 (Nat.le_of_ble_eq_true rfl) (Nat.le_of_ble_eq_true rfl) (c_J9_min_7cf53 (by omega) (by omega)) (np 10 rfl ?_)
  refine r_eqI (σ 32 b) (by omega) ?_
  refine r_istore (lv' := [(6, _), (0, _), (1, _), (2, _), (3, _), (4, _), (5, _)]) (dc dkX10_least 5 rfl) (Nat.le_of_ble_eq_true rfl) rfl (np 12 rfl ?_)
  refine r_iconst (dc dkX10_least 6 rfl) (np 13 rfl ?_)
  refine r_istore (lv' := [(7, _), (6, _), (0, _), (1, _), (2, _), (3, _), (4, _), (5, _)]) (dc dkX10_least 7 rfl) (Nat.le_of_ble_eq_true rfl) rfl (np 15 rfl ?_)
  refine r_iload_n (dc dkX10_least 8 rfl) rfl (np 16 rfl ?_)
  refine r_istore (lv' := [(8, _), (7, _), (6, _), (0, _), (1, _), (2, _), (3, _), (4, _), (5, _)]) (dc dkX10_least 9 rfl) (Nat.le_of_ble_eq_true rfl) rfl (np 18 rfl ?_)
  refine r_pick [3, 4, 5, 6, 7, 8, 2, 1, 0] (lv' := [(0, _), (1, _), (2, _), (3, _), (4, _), (5, _), (6, _), (7, _), (8, _)]) rfl ?_
  refine jlp3 (P := fun (g : Int) (p : Int) (τ : jS) => jR _ _ _ 18 [(0, .ref 9), (1, .ref 30), (2, vI b), (3, vI u), (4, vI v), (5, .ref a), (6, vI (σ 32 b)), (7, vI g), (8, vI p)] [] τ) (I := fun (g : Int) (p : Int) (τ : jS) => (u ≤ p ∧ p ≤ v + 1) ∧ same [13, 14, a] σ τ ∧ ((g = 1 ∧ p = u) ∨ (g = 0 ∧ u < p ∧ (∀ j, 0 ≤ j → j < 2 * σ 32 b → cB 18 (τ a j)) ∧ lsO (2 * σ 32 b) (fun p2 i2 => u ≤ p2 ∧ p2 < p ∧ 0 ≤ i2 ∧ i2 < 2 * σ 32 b) (rwV (σ 32 b) (bAt σ 30 b)) (τ a)))) (fun (g : Int) (p : Int) (τ : jS) => (v + 1 - p).toNat) ?_ _ _ _ ⟨by omega, same.refl _ _, Or.inl ⟨rfl, rfl⟩⟩
  intro g p τ hI18 ih18
  obtain ⟨hpb, hS, hG⟩ := hI18
  refine r_iload (dc dkX10_least 10 rfl) rfl (np 20 rfl ?_)
  refine r_iload (dc dkX10_least 11 rfl) rfl (np 22 rfl ?_)
  refine r_icmp_gt (tgt := 121) (dc dkX10_least 12 rfl) rfl (by first | assumption | decide | omega) (by first | assumption | decide | omega) (fun h22 => ?_) (fun h22 => (np 25 rfl ?_))
  · skip
    refine r_iconst (dc dkX10_least 62 rfl) (np 122 rfl ?_)
    refine r_iload (dc dkX10_least 63 rfl) rfl (np 124 rfl ?_)
    refine r_imul (dc dkX10_least 64 rfl) (np 125 rfl ?_)
    exact r_iret (dc dkX10_least 65 rfl) rfl (by
        rcases hG with z | z
        · omega
        · exact ⟨rfl, hS, z.2.2.1, lsO_V z.2.2.2 (fun p2 i2 => by unfold VV; constructor <;> intro q <;> omega)⟩)
  refine r_iload (dc dkX10_least 13 rfl) rfl (np 27 rfl ?_)
  refine r_bipush (dc dkX10_least 14 rfl) bp_8 (np 29 rfl ?_)
  refine r_icmp_ge (tgt := 121) (dc dkX10_least 15 rfl) rfl (by first | assumption | decide | omega) (by first | assumption | decide | omega) (fun h29 => ?_) (fun h29 => (np 32 rfl ?_))
  · skip
    refine r_iconst (dc dkX10_least 62 rfl) (np 122 rfl ?_)
    refine r_iload (dc dkX10_least 63 rfl) rfl (np 124 rfl ?_)
    refine r_imul (dc dkX10_least 64 rfl) (np 125 rfl ?_)
    exact r_iret (dc dkX10_least 65 rfl) rfl (by
        rcases hG with z | z
        · omega
        · exact ⟨rfl, hS, z.2.2.1, lsO_V z.2.2.2 (fun p2 i2 => by unfold VV; constructor <;> intro q <;> omega)⟩)
  refine r_aload_n (dc dkX10_least 16 rfl) rfl (np 33 rfl ?_)
  refine r_aload_n (dc dkX10_least 17 rfl) rfl (np 34 rfl ?_)
  refine r_iload_n (dc dkX10_least 18 rfl) rfl (np 35 rfl ?_)
  refine r_iload (dc dkX10_least 19 rfl) rfl (np 37 rfl ?_)
  refine r_iload (dc dkX10_least 20 rfl) rfl (np 39 rfl ?_)
  have e32 : τ 32 b = σ 32 b := by rw [hS 32 (by simp; omega)]
  have hB2 : okB τ 30 := okB_t hB (hS 30 (by simp; omega)) (hS 31 (by simp; omega)) (hS 32 (by simp; omega)) (hS 33 (by simp; omega))
  refine r_eqI (τ 32 b) e32.symm ?_
  refine r_cV4 (y' := miX10_takePose) (dc dkX10_least 21 rfl) mlX10_54 ceX10_takePose ob_9 (Nat.le_of_ble_eq_true rfl) (Nat.le_of_ble_eq_true rfl) (c_X10_takePose hB2 h0 h1 (by rw [e32]; exact hn) (by omega)) (fun r τ1 hp1 => (np 42 rfl ?_))
  obtain ⟨rfl, hs1, hxy⟩ := hp1
  have eP : bAt τ 30 b = bAt σ 30 b := funext (fun i => bAt_t (hS 32 (by simp; omega)) (hS 33 (by simp; omega)) b i)
  rw [eP, e32] at hxy
  refine r_iconst (dc dkX10_least 22 rfl) (np 43 rfl ?_)
  refine r_istore (lv' := [(9, _), (0, _), (1, _), (2, _), (3, _), (4, _), (5, _), (6, _), (7, _), (8, _)]) (dc dkX10_least 23 rfl) (Nat.le_of_ble_eq_true rfl) rfl (np 45 rfl ?_)
  refine r_pick [1, 2, 3, 4, 5, 6, 7, 8, 9, 0] (lv' := [(0, _), (1, _), (2, _), (3, _), (4, _), (5, _), (6, _), (7, _), (8, _), (9, _)]) rfl ?_
  refine jlp3 (P := fun (g2 : Int) (i : Int) (τ2 : jS) => jR _ _ _ 45 [(0, .ref 9), (1, .ref 30), (2, vI b), (3, vI u), (4, vI v), (5, .ref a), (6, vI (σ 32 b)), (7, vI g2), (8, vI p), (9, vI i)] [] τ2) (I := fun (g2 : Int) (i : Int) (τ2 : jS) => (0 ≤ i ∧ i ≤ 2 * σ 32 b) ∧ same [13, 14, a] σ τ2 ∧ (∀ j, 0 ≤ j → j < σ 32 b → τ2 13 j = fX (σ 32 b) (bAt σ 30 b) p j ∧ τ2 14 j = fY (σ 32 b) (bAt σ 30 b) p j) ∧ ((g2 = 1 ∧ p = u ∧ i = 0) ∨ (g2 = 0 ∧ (u < p ∨ 0 < i) ∧ (∀ j, 0 ≤ j → j < 2 * σ 32 b → cB 18 (τ2 a j)) ∧ lsO (2 * σ 32 b) (fun p2 i2 => (u ≤ p2 ∧ p2 < p ∧ 0 ≤ i2 ∧ i2 < 2 * σ 32 b) ∨ (p2 = p ∧ 0 ≤ i2 ∧ i2 < i)) (rwV (σ 32 b) (bAt σ 30 b)) (τ2 a)))) (fun (g2 : Int) (i : Int) (τ2 : jS) => (2 * σ 32 b - i).toNat) ?_ _ _ _ (by
        refine ⟨by omega, hS.tr (hs1.wide (by simp)), hxy, ?_⟩
        rcases hG with z | z
        · exact Or.inl ⟨z.1, z.2, rfl⟩
        · have e1 : τ1 a = τ a := hs1 a (by simp; omega)
          rw [e1]
          exact Or.inr ⟨z.1, Or.inl z.2.1, z.2.2.1, lsO_V z.2.2.2 (fun p2 i2 => by constructor <;> intro q <;> omega)⟩)
  intro g2 i τ2 hI45 ih45
  obtain ⟨hib, hS2, hxy2, hG2⟩ := hI45
  have hcb : ∀ j, 0 ≤ j → j < σ 32 b → cB 18 (τ2 13 j) ∧ cB 18 (τ2 14 j) := fun j j0 j1 => by
    have q := hxy2 j j0 j1
    rw [q.1, q.2]
    exact fXY_b hPg j0 j1
  have eV : ∀ j, nmV τ2 (σ 32 b) (i / 2) (wy i) j = rwV (σ 32 b) (bAt σ 30 b) p i j := fun j => by
    have e1 := Int.emod_nonneg (i / 2 + wy i * (j / 2)) (show σ 32 b ≠ 0 by omega)
    have e2 := Int.emod_lt_of_pos (i / 2 + wy i * (j / 2)) (show 0 < σ 32 b by omega)
    have q := hxy2 _ e1 e2
    unfold nmV rwV
    rw [q.1, q.2]
  refine r_iload (dc dkX10_least 24 rfl) rfl (np 47 rfl ?_)
  refine r_iconst (dc dkX10_least 25 rfl) (np 48 rfl ?_)
  refine r_iload (dc dkX10_least 26 rfl) rfl (np 50 rfl ?_)
  refine r_imul (dc dkX10_least 27 rfl) (np 51 rfl ?_)
  refine r_icmp_ge (tgt := 115) (dc dkX10_least 28 rfl) rfl (by first | assumption | decide | omega) (by first | assumption | decide | omega) (fun h51 => ?_) (fun h51 => (np 54 rfl ?_))
  · skip
    refine r_iinc (lv' := [(8, _), (0, _), (1, _), (2, _), (3, _), (4, _), (5, _), (6, _), (7, _), (9, _)]) (dc dkX10_least 60 rfl) (Nat.le_of_ble_eq_true rfl) rfl rfl (np 118 rfl ?_)
    refine r_goto (tgt := 18) (dc dkX10_least 61 rfl) rfl ?_
    refine r_pick [1, 2, 3, 4, 5, 6, 7, 8, 0] rfl ?_
    exact ih18 _ _ _ (by
          refine ⟨by omega, hS2, Or.inr ?_⟩
          rcases hG2 with z | z
          · omega
          · exact ⟨z.1, by omega, z.2.2.1, lsO_V z.2.2.2 (fun p2 i2 => by constructor <;> intro q <;> omega)⟩) (by omega)
  have jj72 : ∀ w : Int, w = wy i → jR 4 miX10_least (fun r τ => r = some (vI (2 * σ 32 b)) ∧ same [13, 14, a] σ τ ∧ (∀ j, 0 ≤ j → j < 2 * σ 32 b → cB 18 (τ a j)) ∧ lsO (2 * σ 32 b) (VV (σ 32 b) u v) (rwV (σ 32 b) (bAt σ 30 b)) (τ a)) 72 [(0, .ref 9), (1, .ref 30), (2, vI b), (3, vI u), (4, vI v), (5, .ref a), (6, vI (σ 32 b)), (7, vI g2), (8, vI p), (9, vI i), (10, vI (i / 2))] [vI w] τ2 := by
    intro w hwe
    have hwv : w = 1 ∨ w = -1 := by rw [hwe]; unfold wy; split <;> omega
    have hri : (g2 = 0) → ∀ j, 0 ≤ j → j < 2 * σ 32 b → iR (τ2 a j) := fun z j j0 j1 => by rcases hG2 with y | y; omega; have := y.2.2.1 j j0 j1; omega
    refine r_istore (lv' := [(11, _), (0, _), (1, _), (2, _), (3, _), (4, _), (5, _), (6, _), (7, _), (8, _), (9, _), (10, _)]) (dc dkX10_least 40 rfl) (Nat.le_of_ble_eq_true rfl) rfl (np 74 rfl ?_)
    have jj94 : g2 = 1 ∨ (g2 = 0 ∧ lxS (2 * σ 32 b) (rwV (σ 32 b) (bAt σ 30 b) p i) (τ2 a)) → jR 4 miX10_least (fun r τ => r = some (vI (2 * σ 32 b)) ∧ same [13, 14, a] σ τ ∧ (∀ j, 0 ≤ j → j < 2 * σ 32 b → cB 18 (τ a j)) ∧ lsO (2 * σ 32 b) (VV (σ 32 b) u v) (rwV (σ 32 b) (bAt σ 30 b)) (τ a)) 94 [(0, .ref 9), (1, .ref 30), (2, vI b), (3, vI u), (4, vI v), (5, .ref a), (6, vI (σ 32 b)), (7, vI g2), (8, vI p), (9, vI i), (10, vI (i / 2)), (11, vI w)] [] τ2 := by
      intro hK
      refine r_aload_n (dc dkX10_least 50 rfl) rfl (np 95 rfl ?_)
      refine r_iload (dc dkX10_least 51 rfl) rfl (np 97 rfl ?_)
      refine r_iload (dc dkX10_least 52 rfl) rfl (np 99 rfl ?_)
      refine r_iload (dc dkX10_least 53 rfl) rfl (np 101 rfl ?_)
      refine r_aload (dc dkX10_least 54 rfl) rfl (np 103 rfl ?_)
      refine r_cV4 (y' := miX10_fill) (dc dkX10_least 55 rfl) mlX10_62 ceX10_fill ob_9 (Nat.le_of_ble_eq_true rfl) (Nat.le_of_ble_eq_true rfl) (c_X10_fill (by omega) (by omega) hwv hx) (fun r τ3 hp3 => (np 106 rfl ?_))
      obtain ⟨rfl, hs3, hf3⟩ := hp3
      refine r_iconst (dc dkX10_least 56 rfl) (np 107 rfl ?_)
      refine r_istore (lv' := [(7, _), (0, _), (1, _), (2, _), (3, _), (4, _), (5, _), (6, _), (8, _), (9, _), (10, _), (11, _)]) (dc dkX10_least 57 rfl) (Nat.le_of_ble_eq_true rfl) rfl (np 109 rfl ?_)
      refine r_iinc (lv' := [(9, _), (7, _), (0, _), (1, _), (2, _), (3, _), (4, _), (5, _), (6, _), (8, _), (10, _), (11, _)]) (dc dkX10_least 58 rfl) (Nat.le_of_ble_eq_true rfl) rfl rfl (np 112 rfl ?_)
      refine r_goto (tgt := 45) (dc dkX10_least 59 rfl) rfl ?_
      refine r_pick [2, 3, 4, 5, 6, 7, 8, 1, 9, 0] rfl ?_
      exact ih45 _ _ _ (by
            first
            | (refine ⟨by omega, hS2.tr (hs3.wide (by simp)), fun j j0 j1 => ?_, Or.inr ⟨rfl, by omega, fun j j0 j1 => ?_, ?_⟩⟩
               · rw [hs3 13 (by simp; omega), hs3 14 (by simp; omega)]; exact hxy2 j j0 j1
               · rw [hf3 j j0 j1, hwe, eV]; exact rwV_b (by omega) hPg
               · have hh : ∀ j, 0 ≤ j → j < 2 * σ 32 b → τ3 a j = rwV (σ 32 b) (bAt σ 30 b) p i j := fun j j0 j1 => by rw [hf3 j j0 j1, hwe, eV]
                 rcases hK with z | z
                 · rcases hG2 with y | y
                   · exact lsO_1 (fun p2 i2 => by constructor <;> intro q <;> omega) hh
                   · omega
                 · rcases hG2 with y | y
                   · omega
                   · exact lsO_y y.2.2.2 (fun p2 i2 => by constructor <;> intro q <;> omega) z.2 hh)
            | (refine ⟨by omega, hS2, hxy2, Or.inr ?_⟩
               rcases hG2 with y | y
               · omega
               · refine ⟨y.1, by omega, y.2.2.1, lsO_n y.2.2.2 (p := p) (i := i) (fun p2 i2 => by constructor <;> intro q <;> omega) (fun z => h91 ((lxS_c (fun j _ _ => by rw [hwe, eV]) (fun _ _ _ => rfl)).mpr z))⟩)) (by omega)
    refine r_iload (dc dkX10_least 41 rfl) rfl (np 76 rfl ?_)
    refine r_if_ne (tgt := 94) (dc dkX10_least 42 rfl) rfl (by omega) (fun h76 => ?_) (fun h76 => (np 79 rfl ?_))
    · skip
      refine r_pick [1, 2, 3, 4, 5, 6, 7, 8, 9, 10, 11, 0] rfl ?_
      exact jj94 (by first | exact Or.inl (by omega) | exact Or.inr ⟨by omega, (lxS_c (fun j _ _ => by rw [hwe, eV]) (fun _ _ _ => rfl)).mp h91⟩)
    refine r_aload_n (dc dkX10_least 43 rfl) rfl (np 80 rfl ?_)
    refine r_iload (dc dkX10_least 44 rfl) rfl (np 82 rfl ?_)
    refine r_iload (dc dkX10_least 45 rfl) rfl (np 84 rfl ?_)
    refine r_iload (dc dkX10_least 46 rfl) rfl (np 86 rfl ?_)
    refine r_aload (dc dkX10_least 47 rfl) rfl (np 88 rfl ?_)
    refine r_pV4 (y' := miX10_isLess) (dc dkX10_least 48 rfl) mlX10_58 ceX10_isLess ob_9 (Nat.le_of_ble_eq_true rfl) (Nat.le_of_ble_eq_true rfl) (c_X10_isLess (by omega) (by omega) hwv hx hcb (hri (by omega))) (np 91 rfl ?_)
    refine r_bz (tgt := 109) (dc dkX10_least 49 rfl) rfl (fun h91 => ?_) (fun h91 => (np 94 rfl ?_))
    · skip
      refine r_iinc (lv' := [(9, _), (11, _), (0, _), (1, _), (2, _), (3, _), (4, _), (5, _), (6, _), (7, _), (8, _), (10, _)]) (dc dkX10_least 58 rfl) (Nat.le_of_ble_eq_true rfl) rfl rfl (np 112 rfl ?_)
      refine r_goto (tgt := 45) (dc dkX10_least 59 rfl) rfl ?_
      refine r_pick [2, 3, 4, 5, 6, 7, 8, 9, 10, 0] rfl ?_
      exact ih45 _ _ _ (by
            first
            | (refine ⟨by omega, hS2.tr (hs3.wide (by simp)), fun j j0 j1 => ?_, Or.inr ⟨rfl, by omega, fun j j0 j1 => ?_, ?_⟩⟩
               · rw [hs3 13 (by simp; omega), hs3 14 (by simp; omega)]; exact hxy2 j j0 j1
               · rw [hf3 j j0 j1, hwe, eV]; exact rwV_b (by omega) hPg
               · have hh : ∀ j, 0 ≤ j → j < 2 * σ 32 b → τ3 a j = rwV (σ 32 b) (bAt σ 30 b) p i j := fun j j0 j1 => by rw [hf3 j j0 j1, hwe, eV]
                 rcases hK with z | z
                 · rcases hG2 with y | y
                   · exact lsO_1 (fun p2 i2 => by constructor <;> intro q <;> omega) hh
                   · omega
                 · rcases hG2 with y | y
                   · omega
                   · exact lsO_y y.2.2.2 (fun p2 i2 => by constructor <;> intro q <;> omega) z.2 hh)
            | (refine ⟨by omega, hS2, hxy2, Or.inr ?_⟩
               rcases hG2 with y | y
               · omega
               · refine ⟨y.1, by omega, y.2.2.1, lsO_n y.2.2.2 (p := p) (i := i) (fun p2 i2 => by constructor <;> intro q <;> omega) (fun z => h91 ((lxS_c (fun j _ _ => by rw [hwe, eV]) (fun _ _ _ => rfl)).mpr z))⟩)) (by omega)
    refine r_pick [1, 2, 3, 4, 5, 6, 7, 8, 9, 10, 11, 0] rfl ?_
    exact jj94 (by first | exact Or.inl (by omega) | exact Or.inr ⟨by omega, (lxS_c (fun j _ _ => by rw [hwe, eV]) (fun _ _ _ => rfl)).mp h91⟩)
  refine r_iload (dc dkX10_least 29 rfl) rfl (np 56 rfl ?_)
  refine r_iconst (dc dkX10_least 30 rfl) (np 57 rfl ?_)
  refine r_idivn (dc dkX10_least 31 rfl) (by first | assumption | decide | omega) (by first | assumption | decide | omega) (np 58 rfl ?_)
  refine r_istore (lv' := [(10, _), (0, _), (1, _), (2, _), (3, _), (4, _), (5, _), (6, _), (7, _), (8, _), (9, _)]) (dc dkX10_least 32 rfl) (Nat.le_of_ble_eq_true rfl) rfl (np 60 rfl ?_)
  refine r_iload (dc dkX10_least 33 rfl) rfl (np 62 rfl ?_)
  refine r_iconst (dc dkX10_least 34 rfl) (np 63 rfl ?_)
  refine r_iremn (dc dkX10_least 35 rfl) (by first | assumption | decide | omega) (by first | assumption | decide | omega) (np 64 rfl ?_)
  refine r_if_ne (tgt := 71) (dc dkX10_least 36 rfl) rfl (by first | assumption | decide | omega) (fun h64 => ?_) (fun h64 => (np 67 rfl ?_))
  · skip
    refine r_iconst (dc dkX10_least 39 rfl) (np 72 rfl ?_)
    refine r_pick [1, 2, 3, 4, 5, 6, 7, 8, 9, 10, 0] rfl ?_
    exact jj72 _ (by unfold wy; first | (rw [if_pos (by omega)]; done) | (rw [if_neg (by omega)]; done))
  refine r_iconst (dc dkX10_least 37 rfl) (np 68 rfl ?_)
  refine r_goto (tgt := 72) (dc dkX10_least 38 rfl) rfl ?_
  refine r_pick [1, 2, 3, 4, 5, 6, 7, 8, 9, 10, 0] rfl ?_
  exact jj72 _ (by unfold wy; first | (rw [if_pos (by omega)]; done) | (rw [if_neg (by omega)]; done))
