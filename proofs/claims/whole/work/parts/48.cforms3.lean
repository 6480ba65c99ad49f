/-- two bands have like forms, by poses 0 to v -/
def alk (n : Int) (P : Int → Int) (n2 : Int) (P2 : Int → Int) (v : Int) : Prop := n = n2 ∧ ∀ g h, lsO (2 * n) (VV n 0 v) (rwV n P) g → lsO (2 * n2) (VV n2 0 v) (rwV n2 P2) h → ∀ j, 0 ≤ j → j < 2 * n → g j = h j
/-- a band's form is the same in pose p -/
def evn (n : Int) (P : Int → Int) (p : Int) : Prop := ∀ g h, lsO (2 * n) (VV n 0 0) (rwV n P) g → lsO (2 * n) (VV n p p) (rwV n P) h → ∀ j, 0 ≤ j → j < 2 * n → g j = h j
theorem alk_i {n n2 v : Int} {P P2 g h : Int → Int} (e : n = n2) (hg : lsO (2 * n) (VV n 0 v) (rwV n P) g) (hh : lsO (2 * n2) (VV n2 0 v) (rwV n2 P2) h) : alk n P n2 P2 v ↔ ∀ j, 0 ≤ j → j < 2 * n → g j = h j := by
  constructor
  · exact fun a => a.2 g h hg hh
  · refine fun a => ⟨e, fun g' h' hg' hh' j j0 j1 => ?_⟩
    rw [lsO_u hg' hg j j0 j1, lsO_u hh' hh j j0 (by omega)]
    exact a j j0 j1
theorem evn_i {n p : Int} {P g h : Int → Int} (hg : lsO (2 * n) (VV n 0 0) (rwV n P) g) (hh : lsO (2 * n) (VV n p p) (rwV n P) h) : evn n P p ↔ ∀ j, 0 ≤ j → j < 2 * n → g j = h j := by
  constructor
  · exact fun a => a g h hg hh
  · refine fun a g' h' hg' hh' j j0 j1 => ?_
    rw [lsO_u hg' hg j j0 j1, lsO_u hh' hh j j0 j1]
    exact a j j0 j1
def lPs (w : Int) : Int := if w = 0 then 0 else if w = 1 then 3 else 7
theorem lPs_b (w : Int) : 0 ≤ lPs w ∧ lPs w ≤ 7 := by unfold lPs; split <;> (try split) <;> omega
set_option maxRecDepth 100000 in
set_option maxHeartbeats 4000000 in
theorem c_X10_areSame {σ : jS} {n : Int} (hn : 0 ≤ n ∧ n ≤ 16) (h1 : ∀ j, 0 ≤ j → j < n → cB 18 (σ 11 j) ∧ cB 18 (σ 12 j)) : Jp 1 miX10_areSame [.ref 9, vI n] σ (vI (bI (∀ j, 0 ≤ j → j < n → σ 11 j = σ 12 j))) := by
  refine jm_ofF (Po := (jP (vI (bI (∀ j, 0 ≤ j → j < n → σ 11 j = σ 12 j))) σ)) (plainFor_of_name (by decide)) (Nat.le_of_ble_eq_true rfl) (lv := [(0, _), (1, _)]) rfl ?_
  refine r_iconst (dc dkX10_areSame 0 rfl) (np 1 rfl ?_)
  refine r_istore_n (lv' := [(2, _), (0, _), (1, _)]) (dc dkX10_areSame 1 rfl) (Nat.le_of_ble_eq_true rfl) rfl (np 2 rfl ?_)
  refine r_pick [1, 2, 0] (lv' := [(0, _), (1, _), (2, _)]) rfl ?_
  refine jlp1 (P := fun (i : Int) => jR _ _ _ 2 [(0, .ref 9), (1, vI n), (2, vI i)] [] σ) (I := fun (i : Int) => (0 ≤ i ∧ i ≤ n) ∧ ∀ j, 0 ≤ j → j < i → σ 11 j = σ 12 j) (fun (i : Int) => (n - i).toNat) ?_ _ ⟨by omega, fun j _ _ => by omega⟩
  intro i hI2 ih2
  refine r_iload_n (dc dkX10_areSame 2 rfl) rfl (np 3 rfl ?_)
  refine r_iload_n (dc dkX10_areSame 3 rfl) rfl (np 4 rfl ?_)
  refine r_icmp_ge (tgt := 36) (dc dkX10_areSame 4 rfl) rfl (by first | assumption | decide | omega) (by first | assumption | decide | omega) (fun h4 => ?_) (fun h4 => (np 7 rfl ?_))
  · skip
    refine r_iconst (dc dkX10_areSame 21 rfl) (np 37 rfl ?_)
    exact r_zret (dc dkX10_areSame 22 rfl) rfl (by first | exact Or.inl rfl | exact Or.inr rfl) ⟨congrArg (fun z => some (vI z)) (bT (fun j j0 j1 => hI2.2 j j0 (by omega))), rfl⟩
  refine r_iload_n (dc dkX10_areSame 5 rfl) rfl (np 8 rfl ?_)
  refine r_bipush (dc dkX10_areSame 6 rfl) bp_16 (np 10 rfl ?_)
  refine r_icmp_ge (tgt := 36) (dc dkX10_areSame 7 rfl) rfl (by first | assumption | decide | omega) (by first | assumption | decide | omega) (fun h10 => ?_) (fun h10 => (np 13 rfl ?_))
  · skip
    refine r_iconst (dc dkX10_areSame 21 rfl) (np 37 rfl ?_)
    exact r_zret (dc dkX10_areSame 22 rfl) rfl (by first | exact Or.inl rfl | exact Or.inr rfl) ⟨congrArg (fun z => some (vI z)) (bT (fun j j0 j1 => hI2.2 j j0 (by omega))), rfl⟩
  have q := h1 i (by omega) (by omega)
  refine r_aload_n (dc dkX10_areSame 8 rfl) rfl (np 14 rfl ?_)
  refine r_getR (dc dkX10_areSame 9 rfl) flX10_19 fd_9_2 (np 17 rfl ?_)
  refine r_iload_n (dc dkX10_areSame 10 rfl) rfl (np 18 rfl ?_)
  refine r_iald (dc dkX10_areSame 11 rfl) ar_11 (by omega) (np 19 rfl ?_)
  refine r_aload_n (dc dkX10_areSame 12 rfl) rfl (np 20 rfl ?_)
  refine r_getR (dc dkX10_areSame 13 rfl) flX10_22 fd_9_3 (np 23 rfl ?_)
  refine r_iload_n (dc dkX10_areSame 14 rfl) rfl (np 24 rfl ?_)
  refine r_iald (dc dkX10_areSame 15 rfl) ar_12 (by omega) (np 25 rfl ?_)
  refine r_icmp_eq (tgt := 30) (dc dkX10_areSame 16 rfl) rfl (by first | assumption | decide | omega) (by first | assumption | decide | omega) (fun h25 => ?_) (fun h25 => (np 28 rfl ?_))
  · skip
    refine r_iinc (lv' := [(2, _), (0, _), (1, _)]) (dc dkX10_areSame 19 rfl) (Nat.le_of_ble_eq_true rfl) rfl rfl (np 33 rfl ?_)
    refine r_goto (tgt := 2) (dc dkX10_areSame 20 rfl) rfl ?_
    refine r_pick [1, 2, 0] rfl ?_
    exact ih2 _ ⟨by omega, fun j j0 j1 => by rcases (show j < i ∨ j = i by omega) with z | z; exact hI2.2 j j0 z; rw [z]; exact h25⟩ (by omega)
  refine r_iconst (dc dkX10_areSame 17 rfl) (np 29 rfl ?_)
  exact r_zret (dc dkX10_areSame 18 rfl) rfl (by first | exact Or.inl rfl | exact Or.inr rfl) ⟨congrArg (fun z => some (vI z)) (bF (fun z => h25 (z i (by omega) (by omega)))), rfl⟩
set_option maxRecDepth 100000 in
set_option maxHeartbeats 4000000 in
theorem c_X10_tell {σ : jS} (hB : okB σ 30) {b : Int} (h0 : 0 ≤ b) (h1 : b < 8) (hn : 3 ≤ σ 32 b) {w : Int} (hw : 0 ≤ w ∧ w ≤ 2) : Jm 5 miX10_tell [.ref 9, .ref 30, vI b, vI w] σ (fun r τ => r = none ∧ same [9, 10, 13, 14] σ τ ∧ (∀ j, ¬ j = 1 → τ 9 j = σ 9 j) ∧ τ 9 1 = 2 * σ 32 b ∧ (∀ j, 0 ≤ j → j < 2 * σ 32 b → cB 18 (τ 10 j)) ∧ lsO (2 * σ 32 b) (VV (σ 32 b) 0 (lPs w)) (rwV (σ 32 b) (bAt σ 30 b)) (τ 10)) := by
  have lb := lPs_b w
  refine jm_ofF (Po := (fun r τ => r = none ∧ same [9, 10, 13, 14] σ τ ∧ (∀ j, ¬ j = 1 → τ 9 j = σ 9 j) ∧ τ 9 1 = 2 * σ 32 b ∧ (∀ j, 0 ≤ j → j < 2 * σ 32 b → cB 18 (τ 10 j)) ∧ lsO (2 * σ 32 b) (VV (σ 32 b) 0 (lPs w)) (rwV (σ 32 b) (bAt σ 30 b)) (τ 10))) (plainFor_of_name (by decide)) (Nat.le_of_ble_eq_true rfl) (lv := [(0, _), (1, _), (2, _), (3, _)]) rfl ?_
  refine r_aload_n (dc dkX10_tell 0 rfl) rfl (np 1 rfl ?_)
  refine r_aload_n (dc dkX10_tell 1 rfl) rfl (np 2 rfl ?_)
  refine r_aload_n (dc dkX10_tell 2 rfl) rfl (np 3 rfl ?_)
  refine r_iload_n (dc dkX10_tell 3 rfl) rfl (np 4 rfl ?_)
  refine r_iconst (dc dkX10_tell 4 rfl) (np 5 rfl ?_)
  refine r_iload_n (dc dkX10_tell 5 rfl) rfl (np 6 rfl ?_)
  refine r_pS1 (y' := miX10_lastPose) (dc dkX10_tell 6 rfl) mlX10_31 seX10_lastPose (Nat.le_of_ble_eq_true rfl) (Nat.le_of_ble_eq_true rfl) (c_X10_lastPose hw) (np 9 rfl ?_)
  change jR _ _ _ _ _ [vI (lPs w), vI 0, vI b, .ref 30, .ref 9, .ref 9] _
  refine r_aload_n (dc dkX10_tell 7 rfl) rfl (np 10 rfl ?_)
  refine r_getR (dc dkX10_tell 8 rfl) flX10_11 fd_9_0 (np 13 rfl ?_)
  refine r_cV5 (y' := miX10_least) (dc dkX10_tell 9 rfl) mlX10_35 ceX10_least ob_9 (Nat.le_of_ble_eq_true rfl) (Nat.le_of_ble_eq_true rfl) (c_X10_least hB h0 h1 hn (by omega) (Or.inl rfl)) (fun r τ1 hp1 => (np 16 rfl ?_))
  obtain ⟨rfl, hs1, hc1, hl1⟩ := hp1
  refine r_pI 1 (dc dkX10_tell 10 rfl) fpX10_15 fd_9_1 rfl (np 19 rfl ?_)
  exact r_vret (dc dkX10_tell 11 rfl) rfl ⟨rfl, (hs1.wide (by decide)).put (by decide), fun j hj => by rw [ju_ne (by omega), hs1 9 (by decide)], by rw [ju_at], fun j j0 j1 => by rw [ju_off _ _ _ _ _ (by decide)]; exact hc1 j j0 j1, by rw [ju_off _ _ _ _ _ (by decide)]; exact hl1⟩
set_option maxRecDepth 100000 in
set_option maxHeartbeats 4000000 in
theorem c_X10_areAlike {σ : jS} (hB : okB σ 30) {a b : Int} (h0 : 0 ≤ a) (h1 : a < 8) (hn : 3 ≤ σ 32 a) (g0 : 0 ≤ b) (g1 : b < 8) (gn : 3 ≤ σ 32 b) {w : Int} (hw : 0 ≤ w ∧ w ≤ 2) : Jm 5 miX10_areAlike [.ref 9, .ref 30, vI a, vI b, vI w] σ (fun r τ => r = some (vI (bI (alk (σ 32 a) (bAt σ 30 a) (σ 32 b) (bAt σ 30 b) (lPs w)))) ∧ same [11, 12, 13, 14] σ τ) := by
  have lb := lPs_b w
  have sa : σ 32 a ≤ 8 := (hB.2.1 a h0 h1).2
  have sb : σ 32 b ≤ 8 := (hB.2.1 b g0 g1).2
  refine jm_ofF (Po := (fun r τ => r = some (vI (bI (alk (σ 32 a) (bAt σ 30 a) (σ 32 b) (bAt σ 30 b) (lPs w)))) ∧ same [11, 12, 13, 14] σ τ)) (plainFor_of_name (by decide)) (Nat.le_of_ble_eq_true rfl) (lv := [(0, _), (1, _), (2, _), (3, _), (4, _)]) rfl ?_
  refine r_aload_n (dc dkX10_areAlike 0 rfl) rfl (np 1 rfl ?_)
  refine r_aload_n (dc dkX10_areAlike 1 rfl) rfl (np 2 rfl ?_)
  refine r_iload_n (dc dkX10_areAlike 2 rfl) rfl (np 3 rfl ?_)
  refine r_iconst (dc dkX10_areAlike 3 rfl) (np 4 rfl ?_)
  refine r_iload (dc dkX10_areAlike 4 rfl) rfl (np 6 rfl ?_)
  refine r_pS1 (y' := miX10_lastPose) (dc dkX10_areAlike 5 rfl) mlX10_31 seX10_lastPose (Nat.le_of_ble_eq_true rfl) (Nat.le_of_ble_eq_true rfl) (c_X10_lastPose hw) (np 9 rfl ?_)
  change jR _ _ _ _ _ [vI (lPs w), vI 0, vI a, .ref 30, .ref 9] _
  refine r_aload_n (dc dkX10_areAlike 6 rfl) rfl (np 10 rfl ?_)
  refine r_getR (dc dkX10_areAlike 7 rfl) flX10_19 fd_9_2 (np 13 rfl ?_)
  refine r_cV5 (y' := miX10_least) (dc dkX10_areAlike 8 rfl) mlX10_35 ceX10_least ob_9 (Nat.le_of_ble_eq_true rfl) (Nat.le_of_ble_eq_true rfl) (c_X10_least hB h0 h1 hn (by omega) (Or.inr (Or.inl rfl))) (fun r τ1 hp1 => (np 16 rfl ?_))
  obtain ⟨rfl, hs1, hc1, hl1⟩ := hp1
  have e32 : τ1 32 = σ 32 := hs1 32 (by decide)
  have hB1 : okB τ1 30 := okB_t hB (hs1 30 (by decide)) (hs1 31 (by decide)) e32 (hs1 33 (by decide))
  have eP : bAt τ1 30 b = bAt σ 30 b := funext (fun i => bAt_t e32 (hs1 33 (by decide)) b i)
  refine r_istore (lv' := [(5, _), (0, _), (1, _), (2, _), (3, _), (4, _)]) (dc dkX10_areAlike 9 rfl) (Nat.le_of_ble_eq_true rfl) rfl (np 18 rfl ?_)
  refine r_aload_n (dc dkX10_areAlike 10 rfl) rfl (np 19 rfl ?_)
  refine r_aload_n (dc dkX10_areAlike 11 rfl) rfl (np 20 rfl ?_)
  refine r_iload_n (dc dkX10_areAlike 12 rfl) rfl (np 21 rfl ?_)
  refine r_iconst (dc dkX10_areAlike 13 rfl) (np 22 rfl ?_)
  refine r_iload (dc dkX10_areAlike 14 rfl) rfl (np 24 rfl ?_)
  refine r_pS1 (y' := miX10_lastPose) (dc dkX10_areAlike 15 rfl) mlX10_31 seX10_lastPose (Nat.le_of_ble_eq_true rfl) (Nat.le_of_ble_eq_true rfl) (c_X10_lastPose hw) (np 27 rfl ?_)
  change jR _ _ _ _ _ [vI (lPs w), vI 0, vI b, .ref 30, .ref 9] _
  refine r_aload_n (dc dkX10_areAlike 16 rfl) rfl (np 28 rfl ?_)
  refine r_getR (dc dkX10_areAlike 17 rfl) flX10_22 fd_9_3 (np 31 rfl ?_)
  refine r_cV5 (y' := miX10_least) (dc dkX10_areAlike 18 rfl) mlX10_35 ceX10_least ob_9 (Nat.le_of_ble_eq_true rfl) (Nat.le_of_ble_eq_true rfl) (c_X10_least hB1 g0 g1 (by rw [e32]; exact gn) (by omega) (Or.inr (Or.inr rfl))) (fun r τ2 hp2 => (np 34 rfl ?_))
  obtain ⟨rfl, hs2, hc2, hl2⟩ := hp2
  rw [eP, e32] at hl2
  rw [e32] at hc2
  refine r_eqI (2 * σ 32 b) (by rw [e32]) ?_
  have e11 : τ2 11 = τ1 11 := hs2 11 (by decide)
  refine r_iload (dc dkX10_areAlike 19 rfl) rfl (np 36 rfl ?_)
  refine r_icmp_ne (tgt := 52) (dc dkX10_areAlike 20 rfl) rfl (by first | assumption | decide | omega) (by first | assumption | decide | omega) (fun h36 => ?_) (fun h36 => (np 39 rfl ?_))
  · skip
    refine r_iconst (dc dkX10_areAlike 27 rfl) (np 53 rfl ?_)
    exact r_zret (dc dkX10_areAlike 28 rfl) rfl (by first | exact Or.inl rfl | exact Or.inr rfl) (by
        have S : same [11, 12, 13, 14] σ τ2 := (hs1.wide (by decide)).tr (hs2.wide (by decide))
        refine ⟨congrArg (fun z => some (vI z)) ?_, S⟩
        first
        | (have q := alk_i (show σ 32 a = σ 32 b by omega) hl1 hl2
           rw [e11] at h45
           first | exact bT (q.mpr h45) | exact bF (fun z => h45 (q.mp z)))
        | exact bF (fun z => h36 (by have := z.1; omega)))
  refine r_aload_n (dc dkX10_areAlike 21 rfl) rfl (np 40 rfl ?_)
  refine r_iload (dc dkX10_areAlike 22 rfl) rfl (np 42 rfl ?_)
  refine r_pV1 (y' := miX10_areSame) (dc dkX10_areAlike 23 rfl) mlX10_39 ceX10_areSame ob_9 (Nat.le_of_ble_eq_true rfl) (Nat.le_of_ble_eq_true rfl) (c_X10_areSame (by omega) (fun j j0 j1 => ⟨by rw [e11]; exact hc1 j j0 j1, hc2 j j0 (by omega)⟩)) (np 45 rfl ?_)
  refine r_bz (tgt := 52) (dc dkX10_areAlike 24 rfl) rfl (fun h45 => ?_) (fun h45 => (np 48 rfl ?_))
  · skip
    refine r_iconst (dc dkX10_areAlike 27 rfl) (np 53 rfl ?_)
    exact r_zret (dc dkX10_areAlike 28 rfl) rfl (by first | exact Or.inl rfl | exact Or.inr rfl) (by
        have S : same [11, 12, 13, 14] σ τ2 := (hs1.wide (by decide)).tr (hs2.wide (by decide))
        refine ⟨congrArg (fun z => some (vI z)) ?_, S⟩
        first
        | (have q := alk_i (show σ 32 a = σ 32 b by omega) hl1 hl2
           rw [e11] at h45
           first | exact bT (q.mpr h45) | exact bF (fun z => h45 (q.mp z)))
        | exact bF (fun z => h36 (by have := z.1; omega)))
  refine r_iconst (dc dkX10_areAlike 25 rfl) (np 49 rfl ?_)
  refine r_goto (tgt := 53) (dc dkX10_areAlike 26 rfl) rfl ?_
  exact r_zret (dc dkX10_areAlike 28 rfl) rfl (by first | exact Or.inl rfl | exact Or.inr rfl) (by
      have S : same [11, 12, 13, 14] σ τ2 := (hs1.wide (by decide)).tr (hs2.wide (by decide))
      refine ⟨congrArg (fun z => some (vI z)) ?_, S⟩
      first
      | (have q := alk_i (show σ 32 a = σ 32 b by omega) hl1 hl2
         rw [e11] at h45
         first | exact bT (q.mpr h45) | exact bF (fun z => h45 (q.mp z)))
      | exact bF (fun z => h36 (by have := z.1; omega)))
def evF (w : Int) : Int := if w = 0 then 2 else if w = 1 then 1 else 4
def evL (w : Int) : Int := if w = 0 then 2 else if w = 1 then 1 else 7
theorem evFL {w : Int} (h : w = 0 ∨ w = 1) : evF w = evL w := by rcases h with rfl | rfl <;> rfl
def evB (n : Int) (P : Int → Int) (w : Int) : Prop := ∃ p, (evF w ≤ p ∧ p ≤ evL w) ∧ evn n P p
set_option maxRecDepth 100000 in
set_option maxHeartbeats 4000000 in
theorem c_X10_isEven {σ : jS} (hB : okB σ 30) {b : Int} (h0 : 0 ≤ b) (h1 : b < 8) (hn : 3 ≤ σ 32 b) {w : Int} (hw : 0 ≤ w ∧ w ≤ 2) : Jm 5 miX10_isEven [.ref 9, .ref 30, vI b, vI w] σ (fun r τ => r = some (vI (bI (evB (σ 32 b) (bAt σ 30 b) w))) ∧ same [11, 12, 13, 14] σ τ) := by
  have sb : σ 32 b ≤ 8 := (hB.2.1 b h0 h1).2
  have fb : 1 ≤ evF w ∧ evF w ≤ evL w ∧ evL w ≤ 7 := by unfold evF evL; split <;> (try split) <;> omega
  refine jm_ofF (Po := (fun r τ => r = some (vI (bI (evB (σ 32 b) (bAt σ 30 b) w))) ∧ same [11, 12, 13, 14] σ τ)) (plainFor_of_name (by decide)) (Nat.le_of_ble_eq_true rfl) (lv := [(0, _), (1, _), (2, _), (3, _)]) rfl ?_
  have jj18 : ∀ x : Int, x = evF w → jR 5 miX10_isEven (fun r τ => r = some (vI (bI (evB (σ 32 b) (bAt σ 30 b) w))) ∧ same [11, 12, 13, 14] σ τ) 18 [(0, .ref 9), (1, .ref 30), (2, vI b), (3, vI w)] [vI x] σ := by
    intro x hx
    refine r_istore (lv' := [(4, _), (0, _), (1, _), (2, _), (3, _)]) (dc dkX10_isEven 10 rfl) (Nat.le_of_ble_eq_true rfl) rfl (np 20 rfl ?_)
    have jj32 : ∀ y : Int, y = evL w → jR 5 miX10_isEven (fun r τ => r = some (vI (bI (evB (σ 32 b) (bAt σ 30 b) w))) ∧ same [11, 12, 13, 14] σ τ) 32 [(0, .ref 9), (1, .ref 30), (2, vI b), (3, vI w), (4, vI x)] [vI y] σ := by
      intro y hy
      refine r_istore (lv' := [(5, _), (0, _), (1, _), (2, _), (3, _), (4, _)]) (dc dkX10_isEven 17 rfl) (Nat.le_of_ble_eq_true rfl) rfl (np 34 rfl ?_)
      refine r_aload_n (dc dkX10_isEven 18 rfl) rfl (np 35 rfl ?_)
      refine r_aload_n (dc dkX10_isEven 19 rfl) rfl (np 36 rfl ?_)
      refine r_iload_n (dc dkX10_isEven 20 rfl) rfl (np 37 rfl ?_)
      refine r_iconst (dc dkX10_isEven 21 rfl) (np 38 rfl ?_)
      refine r_iconst (dc dkX10_isEven 22 rfl) (np 39 rfl ?_)
      refine r_aload_n (dc dkX10_isEven 23 rfl) rfl (np 40 rfl ?_)
      refine r_getR (dc dkX10_isEven 24 rfl) flX10_19 fd_9_2 (np 43 rfl ?_)
      refine r_cV5 (y' := miX10_least) (dc dkX10_isEven 25 rfl) mlX10_35 ceX10_least ob_9 (Nat.le_of_ble_eq_true rfl) (Nat.le_of_ble_eq_true rfl) (c_X10_least hB h0 h1 hn (by decide) (Or.inr (Or.inl rfl))) (fun r τ1 hp1 => (np 46 rfl ?_))
      obtain ⟨rfl, hs1, hc1, hl1⟩ := hp1
      refine r_istore (lv' := [(6, _), (5, _), (0, _), (1, _), (2, _), (3, _), (4, _)]) (dc dkX10_isEven 26 rfl) (Nat.le_of_ble_eq_true rfl) rfl (np 48 rfl ?_)
      refine r_iload (dc dkX10_isEven 27 rfl) rfl (np 50 rfl ?_)
      refine r_istore (lv' := [(7, _), (6, _), (5, _), (0, _), (1, _), (2, _), (3, _), (4, _)]) (dc dkX10_isEven 28 rfl) (Nat.le_of_ble_eq_true rfl) rfl (np 52 rfl ?_)
      refine r_pick [3, 4, 5, 6, 7, 2, 1, 0] (lv' := [(0, _), (1, _), (2, _), (3, _), (4, _), (5, _), (6, _), (7, _)]) rfl ?_
      refine jlp2 (P := fun (p : Int) (τ : jS) => jR _ _ _ 52 [(0, .ref 9), (1, .ref 30), (2, _), (3, _), (4, _), (5, _), (6, vI (2 * σ 32 b)), (7, vI p)] [] τ) (I := fun (p : Int) (τ : jS) => (x ≤ p ∧ p ≤ y + 1) ∧ same [11, 12, 13, 14] σ τ ∧ (∀ j, 0 ≤ j → j < 2 * σ 32 b → cB 18 (τ 11 j)) ∧ lsO (2 * σ 32 b) (VV (σ 32 b) 0 0) (rwV (σ 32 b) (bAt σ 30 b)) (τ 11) ∧ ∀ q, x ≤ q → q < p → ¬ evn (σ 32 b) (bAt σ 30 b) q) (fun (p : Int) (τ : jS) => (y + 1 - p).toNat) ?_ _ _ ⟨by omega, hs1.wide (by decide), hc1, hl1, fun q _ _ => by omega⟩
      intro p τ hI52 ih52
      have e32 : τ 32 = σ 32 := hI52.2.1 32 (by decide)
      have hB1 : okB τ 30 := okB_t hB (hI52.2.1 30 (by decide)) (hI52.2.1 31 (by decide)) e32 (hI52.2.1 33 (by decide))
      have eP : bAt τ 30 b = bAt σ 30 b := funext (fun i => bAt_t e32 (hI52.2.1 33 (by decide)) b i)
      refine r_iload (dc dkX10_isEven 29 rfl) rfl (np 54 rfl ?_)
      refine r_iload (dc dkX10_isEven 30 rfl) rfl (np 56 rfl ?_)
      refine r_icmp_gt (tgt := 91) (dc dkX10_isEven 31 rfl) rfl (by first | assumption | decide | omega) (by first | assumption | decide | omega) (fun h56 => ?_) (fun h56 => (np 59 rfl ?_))
      · skip
        refine r_iconst (dc dkX10_isEven 49 rfl) (np 92 rfl ?_)
        exact r_zret (dc dkX10_isEven 50 rfl) rfl (by first | exact Or.inl rfl | exact Or.inr rfl) ⟨congrArg (fun z => some (vI z)) (bF (fun ⟨q, q0, q1⟩ => hI52.2.2.2.2 q (by omega) (by omega) q1)), hI52.2.1⟩
      refine r_aload_n (dc dkX10_isEven 32 rfl) rfl (np 60 rfl ?_)
      refine r_aload_n (dc dkX10_isEven 33 rfl) rfl (np 61 rfl ?_)
      refine r_iload_n (dc dkX10_isEven 34 rfl) rfl (np 62 rfl ?_)
      refine r_iload (dc dkX10_isEven 35 rfl) rfl (np 64 rfl ?_)
      refine r_iload (dc dkX10_isEven 36 rfl) rfl (np 66 rfl ?_)
      refine r_aload_n (dc dkX10_isEven 37 rfl) rfl (np 67 rfl ?_)
      refine r_getR (dc dkX10_isEven 38 rfl) flX10_22 fd_9_3 (np 70 rfl ?_)
      refine r_cV5 (y' := miX10_least) (dc dkX10_isEven 39 rfl) mlX10_35 ceX10_least ob_9 (Nat.le_of_ble_eq_true rfl) (Nat.le_of_ble_eq_true rfl) (c_X10_least hB1 h0 h1 (by rw [e32]; exact hn) (by omega) (Or.inr (Or.inr rfl))) (fun r τ2 hp2 => (np 73 rfl ?_))
      obtain ⟨rfl, hs2, hc2, hl2⟩ := hp2
      rw [eP, e32] at hl2
      rw [e32] at hc2
      have e11 : τ2 11 = τ 11 := hs2 11 (by decide)
      refine r_pop (dc dkX10_isEven 40 rfl) rfl (np 74 rfl ?_)
      refine r_aload_n (dc dkX10_isEven 41 rfl) rfl (np 75 rfl ?_)
      refine r_iload (dc dkX10_isEven 42 rfl) rfl (np 77 rfl ?_)
      refine r_pV1 (y' := miX10_areSame) (dc dkX10_isEven 43 rfl) mlX10_39 ceX10_areSame ob_9 (Nat.le_of_ble_eq_true rfl) (Nat.le_of_ble_eq_true rfl) (c_X10_areSame (by omega) (fun j j0 j1 => ⟨by rw [e11]; exact hI52.2.2.1 j j0 j1, hc2 j j0 j1⟩)) (np 80 rfl ?_)
      refine r_bz (tgt := 85) (dc dkX10_isEven 44 rfl) rfl (fun h80 => ?_) (fun h80 => (np 83 rfl ?_))
      · skip
        refine r_iinc (lv' := [(7, _), (0, _), (1, _), (2, _), (3, _), (4, _), (5, _), (6, _)]) (dc dkX10_isEven 47 rfl) (Nat.le_of_ble_eq_true rfl) rfl rfl (np 88 rfl ?_)
        refine r_goto (tgt := 52) (dc dkX10_isEven 48 rfl) rfl ?_
        refine r_pick [1, 2, 3, 4, 5, 6, 7, 0] rfl ?_
        exact ih52 _ _ ⟨by omega, hI52.2.1.tr (hs2.wide (by decide)), fun j j0 j1 => by rw [e11]; exact hI52.2.2.1 j j0 j1, by rw [e11]; exact hI52.2.2.2.1, fun q q0 q1 => by rcases (show q < p ∨ q = p by omega) with z | z; exact hI52.2.2.2.2 q q0 z; rw [z]; exact fun y => h80 (by rw [e11]; exact (evn_i hI52.2.2.2.1 hl2).mp y)⟩ (by omega)
      refine r_iconst (dc dkX10_isEven 45 rfl) (np 84 rfl ?_)
      exact r_zret (dc dkX10_isEven 46 rfl) rfl (by first | exact Or.inl rfl | exact Or.inr rfl) ⟨congrArg (fun z => some (vI z)) (bT ⟨p, by omega, (evn_i hI52.2.2.2.1 hl2).mpr (by rw [e11] at h80; exact h80)⟩), hI52.2.1.tr (hs2.wide (by decide))⟩
    refine r_iload_n (dc dkX10_isEven 11 rfl) rfl (np 21 rfl ?_)
    refine r_iconst (dc dkX10_isEven 12 rfl) (np 22 rfl ?_)
    refine r_icmp_ne (tgt := 30) (dc dkX10_isEven 13 rfl) rfl (by first | assumption | decide | omega) (by first | assumption | decide | omega) (fun h22 => ?_) (fun h22 => (np 25 rfl ?_))
    · skip
      refine r_iload (dc dkX10_isEven 16 rfl) rfl (np 32 rfl ?_)
      refine r_pick [1, 2, 3, 4, 0] rfl ?_
      exact jj32 _ (by first | exact hx.trans (evFL (by omega)) | (rw [show w = 2 by omega]; rfl))
    refine r_bipush (dc dkX10_isEven 14 rfl) bp_7 (np 27 rfl ?_)
    refine r_goto (tgt := 32) (dc dkX10_isEven 15 rfl) rfl ?_
    refine r_pick [1, 2, 3, 4, 0] rfl ?_
    exact jj32 _ (by first | exact hx.trans (evFL (by omega)) | (rw [show w = 2 by omega]; rfl))
  refine r_iload_n (dc dkX10_isEven 0 rfl) rfl (np 1 rfl ?_)
  refine r_if_ne (tgt := 8) (dc dkX10_isEven 1 rfl) rfl (by first | assumption | decide | omega) (fun h1 => ?_) (fun h1 => (np 4 rfl ?_))
  · skip
    refine r_iload_n (dc dkX10_isEven 4 rfl) rfl (np 9 rfl ?_)
    refine r_iconst (dc dkX10_isEven 5 rfl) (np 10 rfl ?_)
    refine r_icmp_ne (tgt := 17) (dc dkX10_isEven 6 rfl) rfl (by first | assumption | decide | omega) (by first | assumption | decide | omega) (fun h10 => ?_) (fun h10 => (np 13 rfl ?_))
    · skip
      refine r_iconst (dc dkX10_isEven 9 rfl) (np 18 rfl ?_)
      refine r_pick [0, 1, 2, 3] rfl ?_
      exact jj18 _ (by unfold evF; first | (rw [if_pos (by omega)]; done) | (rw [if_neg (by omega), if_pos (by omega)]; done) | (rw [if_neg (by omega), if_neg (by omega)]; done))
    refine r_iconst (dc dkX10_isEven 7 rfl) (np 14 rfl ?_)
    refine r_goto (tgt := 18) (dc dkX10_isEven 8 rfl) rfl ?_
    refine r_pick [0, 1, 2, 3] rfl ?_
    exact jj18 _ (by unfold evF; first | (rw [if_pos (by omega)]; done) | (rw [if_neg (by omega), if_pos (by omega)]; done) | (rw [if_neg (by omega), if_neg (by omega)]; done))
  refine r_iconst (dc dkX10_isEven 2 rfl) (np 5 rfl ?_)
  refine r_goto (tgt := 18) (dc dkX10_isEven 3 rfl) rfl ?_
  refine r_pick [0, 1, 2, 3] rfl ?_
  exact jj18 _ (by unfold evF; first | (rw [if_pos (by omega)]; done) | (rw [if_neg (by omega), if_pos (by omega)]; done) | (rw [if_neg (by omega), if_neg (by omega)]; done))
