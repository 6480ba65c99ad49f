/-- the calls of a row of the reference -/
def okC (D : Int → Int) : Prop := cB 8 (D 242) ∧ cB 9 (D 243) ∧ cB 9 (D 244) ∧ ∀ i, 0 ≤ i → i < D 242 → (-9 ≤ D (245 + 2 * i) ∧ D (245 + 2 * i) ≤ 9) ∧ (-9 ≤ D (246 + 2 * i) ∧ D (246 + 2 * i) ≤ 9)
/-- partial sums with one call put otherwise -/
def wkS (f : Int → Int) (i z : Int) (c : Int) : Int := smI (fun q => if q = i then z else f q) c
theorem wkS_0 {f : Int → Int} {i z : Int} : wkS f i z 0 = 0 := rfl
theorem wkS_s {f : Int → Int} {i z c : Int} (h : 0 ≤ c) : wkS f i z (c + 1) = wkS f i z c + (if c = i then z else f c) := smI_s _ h
theorem wkS_b {f : Int → Int} {i z c A : Int} (hc : cB 8 c) (hA : 0 ≤ A) (hz : -A ≤ z ∧ z ≤ A) (h : ∀ j, 0 ≤ j → j < c → -A ≤ f j ∧ f j ≤ A) : -(8 * A) ≤ wkS f i z c ∧ wkS f i z c ≤ 8 * A := by
  have g : ∀ c : Nat, c ≤ 8 → (∀ j, 0 ≤ j → j < (c : Int) → -A ≤ f j ∧ f j ≤ A) → -(c * A) ≤ wkS f i z c ∧ wkS f i z c ≤ c * A := by
    intro c
    induction c with
    | zero => intro _ _; have h0 : wkS f i z ((0 : Nat) : Int) = 0 := rfl
              rw [h0]; exact ⟨by simp, by simp⟩
    | succ c ih =>
      intro h8 hf
      have ih2 := ih (by omega) (fun j j0 j1 => hf j j0 (by omega))
      have hf2 := hf c (by omega) (by omega)
      rw [show ((c + 1 : Nat) : Int) = (c : Int) + 1 by omega, wkS_s (by omega), Int.add_mul, Int.one_mul]
      split <;> omega
  have h2 := g c.toNat (by omega) (fun j j0 j1 => h j j0 (by omega))
  rw [show ((c.toNat : Nat) : Int) = c by omega] at h2
  have h3 : c * A ≤ 8 * A := Int.mul_le_mul_of_nonneg_right hc.2 hA
  omega
set_option maxRecDepth 100000 in
set_option maxHeartbeats 4000000 in
theorem c_X13_sum {σ : jS} (hC : okC (σ 113)) {w : Int} (hw : cB 1 w) : Jp 1 miX13_sum [.ref 111, vI w] σ (vI (smI (fun i => σ 113 (245 + 2 * i + w)) (σ 113 242))) := by
  have n8 := hC.1
  have a0 := hC.2.1
  have a1 := hC.2.2.1
  have a2 := hC.2.2.2
  refine jm_ofF (Po := (jP (vI (smI (fun i => σ 113 (245 + 2 * i + w)) (σ 113 242))) σ)) (plainFor_of_name (by decide)) (Nat.le_of_ble_eq_true rfl) (lv := [(0, _), (1, _)]) rfl ?_
  refine r_iconst (dc dkX13_sum 0 rfl) (np 1 rfl ?_)
  refine r_istore_n (lv' := [(2, _), (0, _), (1, _)]) (dc dkX13_sum 1 rfl) (Nat.le_of_ble_eq_true rfl) rfl (np 2 rfl ?_)
  refine r_iconst (dc dkX13_sum 2 rfl) (np 3 rfl ?_)
  refine r_istore_n (lv' := [(3, _), (2, _), (0, _), (1, _)]) (dc dkX13_sum 3 rfl) (Nat.le_of_ble_eq_true rfl) rfl (np 4 rfl ?_)
  refine r_pick [2, 3, 1, 0] (lv' := [(0, _), (1, _), (2, _), (3, _)]) rfl ?_
  refine jlp2 (P := fun (s : Int) (i : Int) => jR _ _ _ 4 [(0, .ref 111), (1, vI w), (2, vI s), (3, vI i)] [] σ) (I := fun (s : Int) (i : Int) => (0 ≤ i ∧ i ≤ σ 113 242) ∧ s = smI (fun i => σ 113 (245 + 2 * i + w)) i) (fun (s : Int) (i : Int) => (σ 113 242 - i).toNat) ?_ _ _ ⟨by omega, rfl⟩
  intro s i hI4 ih4
  refine r_iload_n (dc dkX13_sum 4 rfl) rfl (np 5 rfl ?_)
  refine r_aload_n (dc dkX13_sum 5 rfl) rfl (np 6 rfl ?_)
  refine r_getR (dc dkX13_sum 6 rfl) flX13_13 fd_111_15 (np 9 rfl ?_)
  refine r_sipush (dc dkX13_sum 7 rfl) sp_242 (np 12 rfl ?_)
  refine r_iald (dc dkX13_sum 8 rfl) ar_113 (by omega) (np 13 rfl ?_)
  refine r_icmp_ge (tgt := 39) (dc dkX13_sum 9 rfl) rfl (by first | assumption | decide | omega) (by first | assumption | decide | omega) (fun h13 => ?_) (fun h13 => (np 16 rfl ?_))
  · skip
    refine r_iload_n (dc dkX13_sum 25 rfl) rfl (np 40 rfl ?_)
    exact r_iret (dc dkX13_sum 26 rfl) rfl ⟨congrArg (fun z => some (vI z)) (by rw [hI4.2, show i = σ 113 242 by omega]), rfl⟩
  refine r_iload_n (dc dkX13_sum 10 rfl) rfl (np 17 rfl ?_)
  refine r_aload_n (dc dkX13_sum 11 rfl) rfl (np 18 rfl ?_)
  refine r_getR (dc dkX13_sum 12 rfl) flX13_13 fd_111_15 (np 21 rfl ?_)
  refine r_sipush (dc dkX13_sum 13 rfl) sp_245 (np 24 rfl ?_)
  refine r_iconst (dc dkX13_sum 14 rfl) (np 25 rfl ?_)
  refine r_iload_n (dc dkX13_sum 15 rfl) rfl (np 26 rfl ?_)
  refine r_imul (dc dkX13_sum 16 rfl) (np 27 rfl ?_)
  refine r_iadd (dc dkX13_sum 17 rfl) (np 28 rfl ?_)
  refine r_iload_n (dc dkX13_sum 18 rfl) rfl (np 29 rfl ?_)
  refine r_iadd (dc dkX13_sum 19 rfl) (np 30 rfl ?_)
  refine r_iald (dc dkX13_sum 20 rfl) ar_113 (by omega) (np 31 rfl ?_)
  refine r_iadd (dc dkX13_sum 21 rfl) (np 32 rfl ?_)
  refine r_istore_n (lv' := [(2, _), (0, _), (1, _), (3, _)]) (dc dkX13_sum 22 rfl) (Nat.le_of_ble_eq_true rfl) rfl (np 33 rfl ?_)
  refine r_iinc (lv' := [(3, _), (2, _), (0, _), (1, _)]) (dc dkX13_sum 23 rfl) (Nat.le_of_ble_eq_true rfl) rfl rfl (np 36 rfl ?_)
  refine r_goto (tgt := 4) (dc dkX13_sum 24 rfl) rfl ?_
  refine r_pick [2, 3, 1, 0] rfl ?_
  exact ih4 _ _ ⟨by omega, by rw [smI_s _ (by omega), ← hI4.2]⟩ (by omega)
theorem okC_s {σ : jS} (hC : okC (σ 113)) {w : Int} (hw : cB 1 w) : -72 ≤ smI (fun i => σ 113 (245 + 2 * i + w)) (σ 113 242) ∧ smI (fun i => σ 113 (245 + 2 * i + w)) (σ 113 242) ≤ 72 := by
  refine smI_9 hC.1 (fun i i0 i1 => ?_)
  have g := hC.2.2.2 i i0 i1
  rcases (show w = 0 ∨ w = 1 by omega) with h | h
  · rw [h, show 245 + 2 * i + 0 = 245 + 2 * i by omega]; exact g.1
  · rw [h, show 245 + 2 * i + 1 = 246 + 2 * i by omega]; exact g.2
set_option maxRecDepth 100000 in
set_option maxHeartbeats 4000000 in
theorem c_X13_doClose {σ : jS} (hC : okC (σ 113)) : Jp 2 miX13_doClose [.ref 111] σ (vI (bI (smI (fun i => σ 113 (245 + 2 * i + 0)) (σ 113 242) = 0 ∧ smI (fun i => σ 113 (245 + 2 * i + 1)) (σ 113 242) = 0))) := by
  have b1 := okC_s (w := 0) hC (by decide)
  have b2 := okC_s (w := 1) hC (by decide)
  refine jm_ofF (Po := (jP (vI (bI (smI (fun i => σ 113 (245 + 2 * i + 0)) (σ 113 242) = 0 ∧ smI (fun i => σ 113 (245 + 2 * i + 1)) (σ 113 242) = 0))) σ)) (plainFor_of_name (by decide)) (Nat.le_of_ble_eq_true rfl) (lv := [(0, _)]) rfl ?_
  refine r_aload_n (dc dkX13_doClose 0 rfl) rfl (np 1 rfl ?_)
  refine r_iconst (dc dkX13_doClose 1 rfl) (np 2 rfl ?_)
  refine r_pV1 (y' := miX13_sum) (dc dkX13_doClose 2 rfl) mlX13_389 ceX13_sum ob_111 (Nat.le_of_ble_eq_true rfl) (Nat.le_of_ble_eq_true rfl) (c_X13_sum hC (by decide)) (np 5 rfl ?_)
  refine r_if_ne (tgt := 20) (dc dkX13_doClose 3 rfl) rfl (by first | assumption | decide | omega) (fun h5 => ?_) (fun h5 => (np 8 rfl ?_))
  · skip
    refine r_iconst (dc dkX13_doClose 10 rfl) (np 21 rfl ?_)
    exact r_zret (dc dkX13_doClose 11 rfl) rfl (by first | exact Or.inl rfl | exact Or.inr rfl) ⟨congrArg (fun z => some (vI z)) (by first | exact bT ⟨h5, h13⟩ | exact bF (fun z => h5 z.1) | exact bF (fun z => h13 z.2)), rfl⟩
  refine r_aload_n (dc dkX13_doClose 4 rfl) rfl (np 9 rfl ?_)
  refine r_iconst (dc dkX13_doClose 5 rfl) (np 10 rfl ?_)
  refine r_pV1 (y' := miX13_sum) (dc dkX13_doClose 6 rfl) mlX13_389 ceX13_sum ob_111 (Nat.le_of_ble_eq_true rfl) (Nat.le_of_ble_eq_true rfl) (c_X13_sum hC (by decide)) (np 13 rfl ?_)
  refine r_if_ne (tgt := 20) (dc dkX13_doClose 7 rfl) rfl (by first | assumption | decide | omega) (fun h13 => ?_) (fun h13 => (np 16 rfl ?_))
  · skip
    refine r_iconst (dc dkX13_doClose 10 rfl) (np 21 rfl ?_)
    exact r_zret (dc dkX13_doClose 11 rfl) rfl (by first | exact Or.inl rfl | exact Or.inr rfl) ⟨congrArg (fun z => some (vI z)) (by first | exact bT ⟨h5, h13⟩ | exact bF (fun z => h5 z.1) | exact bF (fun z => h13 z.2)), rfl⟩
  refine r_iconst (dc dkX13_doClose 8 rfl) (np 17 rfl ?_)
  refine r_goto (tgt := 21) (dc dkX13_doClose 9 rfl) rfl ?_
  exact r_zret (dc dkX13_doClose 11 rfl) rfl (by first | exact Or.inl rfl | exact Or.inr rfl) ⟨congrArg (fun z => some (vI z)) (by first | exact bT ⟨h5, h13⟩ | exact bF (fun z => h5 z.1) | exact bF (fun z => h13 z.2)), rfl⟩
set_option maxRecDepth 100000 in
set_option maxHeartbeats 4000000 in
theorem c_X13_closes {σ : jS} (hC : okC (σ 113)) (hF : cB 1 (σ 113 241)) : Jm 3 miX13_closes [.ref 111] σ (fun r τ => τ = ju σ 111 0 0 ∧ r = some (vI (gte (σ 113 241 = 0) (-1) (bI (smI (fun i => σ 113 (245 + 2 * i + 0)) (σ 113 242) = 0 ∧ smI (fun i => σ 113 (245 + 2 * i + 1)) (σ 113 242) = 0))))) := by
  refine jm_ofF (Po := (fun r τ => τ = ju σ 111 0 0 ∧ r = some (vI (gte (σ 113 241 = 0) (-1) (bI (smI (fun i => σ 113 (245 + 2 * i + 0)) (σ 113 242) = 0 ∧ smI (fun i => σ 113 (245 + 2 * i + 1)) (σ 113 242) = 0)))))) (plainFor_of_name (by decide)) (Nat.le_of_ble_eq_true rfl) (lv := [(0, _)]) rfl ?_
  refine r_aload_n (dc dkX13_closes 0 rfl) rfl (np 1 rfl ?_)
  refine r_iconst (dc dkX13_closes 1 rfl) (np 2 rfl ?_)
  refine r_pI 0 (dc dkX13_closes 2 rfl) fpX13_94 fd_111_0 rfl (np 5 rfl ?_)
  refine r_abs (fun ρ => ρ = ju σ 111 0 0 ∧ ρ 113 = σ 113) ⟨rfl, ju_off _ _ _ _ _ (by decide)⟩ ?_
  intro σ0 hq
  obtain ⟨hσ0, e0⟩ := hq
  have hC0 : okC (σ0 113) := by rw [e0]; exact hC
  have e241 : σ0 113 241 = σ 113 241 := by rw [e0]
  refine r_aload_n (dc dkX13_closes 3 rfl) rfl (np 6 rfl ?_)
  refine r_getR (dc dkX13_closes 4 rfl) flX13_13 fd_111_15 (np 9 rfl ?_)
  refine r_sipush (dc dkX13_closes 5 rfl) sp_241 (np 12 rfl ?_)
  refine r_iald (dc dkX13_closes 6 rfl) ar_113 (by omega) (np 13 rfl ?_)
  refine r_if_ne (tgt := 20) (dc dkX13_closes 7 rfl) rfl (by first | assumption | decide | omega) (fun h13 => ?_) (fun h13 => (np 16 rfl ?_))
  · skip
    refine r_aload_n (dc dkX13_closes 10 rfl) rfl (np 21 rfl ?_)
    refine r_pV0 (y' := miX13_doClose) (dc dkX13_closes 11 rfl) mlX13_392 ceX13_doClose ob_111 (Nat.le_of_ble_eq_true rfl) (Nat.le_of_ble_eq_true rfl) (c_X13_doClose hC0) (np 24 rfl ?_)
    refine r_bz (tgt := 31) (dc dkX13_closes 12 rfl) rfl (fun h24 => ?_) (fun h24 => (np 27 rfl ?_))
    · skip
      refine r_iconst (dc dkX13_closes 15 rfl) (np 32 rfl ?_)
      exact r_iret (dc dkX13_closes 16 rfl) rfl ⟨hσ0, congrArg (fun z => some (vI z)) (by first | (rw [gte_t (by omega)]; done) | (rw [e0] at h24; rw [gte_f (by omega)]; first | (rw [bI_t h24]; done) | (rw [bI_f h24]; done)))⟩
    refine r_iconst (dc dkX13_closes 13 rfl) (np 28 rfl ?_)
    refine r_goto (tgt := 32) (dc dkX13_closes 14 rfl) rfl ?_
    exact r_iret (dc dkX13_closes 16 rfl) rfl ⟨hσ0, congrArg (fun z => some (vI z)) (by first | (rw [gte_t (by omega)]; done) | (rw [e0] at h24; rw [gte_f (by omega)]; first | (rw [bI_t h24]; done) | (rw [bI_f h24]; done)))⟩
  refine r_iconst (dc dkX13_closes 8 rfl) (np 17 rfl ?_)
  refine r_goto (tgt := 32) (dc dkX13_closes 9 rfl) rfl ?_
  exact r_iret (dc dkX13_closes 16 rfl) rfl ⟨hσ0, congrArg (fun z => some (vI z)) (by first | (rw [gte_t (by omega)]; done) | (rw [e0] at h24; rw [gte_f (by omega)]; first | (rw [bI_t h24]; done) | (rw [bI_f h24]; done)))⟩
set_option maxRecDepth 100000 in
set_option maxHeartbeats 4000000 in
theorem c_X13_layCalls {σ : jS} (hC : okC (σ 113)) {b i x y : Int} (hb : cB 8 b) (hi : -1 ≤ i ∧ i ≤ 8) (hx : -9 ≤ x ∧ x ≤ 9) (hy : -9 ≤ y ∧ y ≤ 9) : Jm 1 miX13_layCalls [.ref 111, vI b, vI i, vI x, vI y] σ (fun r τ => r = none ∧ same [114] σ τ ∧ (∀ j, (j < 105 + 17 * b ∨ 105 + 17 * b + 17 ≤ j) → τ 114 j = σ 114 j) ∧ τ 114 (105 + 17 * b) = σ 113 242 ∧ ∀ c, 0 ≤ c → c < σ 113 242 → τ 114 (105 + 17 * b + 1 + 2 * c) = (σ 113 243 + wkS (fun q => σ 113 (245 + 2 * q)) i x c) ∧ τ 114 (105 + 17 * b + 2 + 2 * c) = (σ 113 244 + wkS (fun q => σ 113 (246 + 2 * q)) i y c)) := by
  have n8 := hC.1
  have a0 := hC.2.1
  have a1 := hC.2.2.1
  have a2 := hC.2.2.2
  refine jm_ofF (Po := (fun r τ => r = none ∧ same [114] σ τ ∧ (∀ j, (j < 105 + 17 * b ∨ 105 + 17 * b + 17 ≤ j) → τ 114 j = σ 114 j) ∧ τ 114 (105 + 17 * b) = σ 113 242 ∧ ∀ c, 0 ≤ c → c < σ 113 242 → τ 114 (105 + 17 * b + 1 + 2 * c) = (σ 113 243 + wkS (fun q => σ 113 (245 + 2 * q)) i x c) ∧ τ 114 (105 + 17 * b + 2 + 2 * c) = (σ 113 244 + wkS (fun q => σ 113 (246 + 2 * q)) i y c))) (plainFor_of_name (by decide)) (Nat.le_of_ble_eq_true rfl) (lv := [(0, _), (1, _), (2, _), (3, _), (4, _)]) rfl ?_
  refine r_bipush (dc dkX13_layCalls 0 rfl) bp_105 (np 2 rfl ?_)
  refine r_bipush (dc dkX13_layCalls 1 rfl) bp_17 (np 4 rfl ?_)
  refine r_iload_n (dc dkX13_layCalls 2 rfl) rfl (np 5 rfl ?_)
  refine r_imul (dc dkX13_layCalls 3 rfl) (np 6 rfl ?_)
  refine r_iadd (dc dkX13_layCalls 4 rfl) (np 7 rfl ?_)
  refine r_istore (lv' := [(5, _), (0, _), (1, _), (2, _), (3, _), (4, _)]) (dc dkX13_layCalls 5 rfl) (Nat.le_of_ble_eq_true rfl) rfl (np 9 rfl ?_)
  refine r_aload_n (dc dkX13_layCalls 6 rfl) rfl (np 10 rfl ?_)
  refine r_getR (dc dkX13_layCalls 7 rfl) flX13_16 fd_111_16 (np 13 rfl ?_)
  refine r_iload (dc dkX13_layCalls 8 rfl) rfl (np 15 rfl ?_)
  refine r_aload_n (dc dkX13_layCalls 9 rfl) rfl (np 16 rfl ?_)
  refine r_getR (dc dkX13_layCalls 10 rfl) flX13_13 fd_111_15 (np 19 rfl ?_)
  refine r_sipush (dc dkX13_layCalls 11 rfl) sp_242 (np 22 rfl ?_)
  refine r_iald (dc dkX13_layCalls 12 rfl) ar_113 (by omega) (np 23 rfl ?_)
  refine r_iast (dc dkX13_layCalls 13 rfl) ar_114 (by omega) (np 24 rfl ?_)
  refine r_aload_n (dc dkX13_layCalls 14 rfl) rfl (np 25 rfl ?_)
  refine r_getR (dc dkX13_layCalls 15 rfl) flX13_13 fd_111_15 (np 28 rfl ?_)
  refine r_sipush (dc dkX13_layCalls 16 rfl) sp_243 (np 31 rfl ?_)
  refine r_iald (dc dkX13_layCalls 17 rfl) ar_113 (by omega) (np 32 rfl ?_)
  refine r_istore (lv' := [(6, _), (5, _), (0, _), (1, _), (2, _), (3, _), (4, _)]) (dc dkX13_layCalls 18 rfl) (Nat.le_of_ble_eq_true rfl) rfl (np 34 rfl ?_)
  refine r_aload_n (dc dkX13_layCalls 19 rfl) rfl (np 35 rfl ?_)
  refine r_getR (dc dkX13_layCalls 20 rfl) flX13_13 fd_111_15 (np 38 rfl ?_)
  refine r_sipush (dc dkX13_layCalls 21 rfl) sp_244 (np 41 rfl ?_)
  refine r_iald (dc dkX13_layCalls 22 rfl) ar_113 (by omega) (np 42 rfl ?_)
  refine r_istore (lv' := [(7, _), (6, _), (5, _), (0, _), (1, _), (2, _), (3, _), (4, _)]) (dc dkX13_layCalls 23 rfl) (Nat.le_of_ble_eq_true rfl) rfl (np 44 rfl ?_)
  refine r_iconst (dc dkX13_layCalls 24 rfl) (np 45 rfl ?_)
  refine r_istore (lv' := [(8, _), (7, _), (6, _), (5, _), (0, _), (1, _), (2, _), (3, _), (4, _)]) (dc dkX13_layCalls 25 rfl) (Nat.le_of_ble_eq_true rfl) rfl (np 47 rfl ?_)
  refine r_pick [4, 5, 6, 7, 8, 3, 2, 1, 0] (lv' := [(0, _), (1, _), (2, _), (3, _), (4, _), (5, _), (6, _), (7, _), (8, _)]) rfl ?_
  refine jlp4 (P := fun (X : Int) (Y : Int) (c : Int) (τ : jS) => jR _ _ _ 47 [(0, .ref 111), (1, vI b), (2, vI i), (3, vI x), (4, vI y), (5, vI (105 + 17 * b)), (6, vI X), (7, vI Y), (8, vI c)] [] τ) (I := fun (X : Int) (Y : Int) (c : Int) (τ : jS) => (0 ≤ c ∧ c ≤ σ 113 242) ∧ same [114] σ τ ∧ X = (σ 113 243 + wkS (fun q => σ 113 (245 + 2 * q)) i x c) ∧ Y = (σ 113 244 + wkS (fun q => σ 113 (246 + 2 * q)) i y c) ∧ (∀ j, (j < 105 + 17 * b ∨ 105 + 17 * b + 17 ≤ j) → τ 114 j = σ 114 j) ∧ τ 114 (105 + 17 * b) = σ 113 242 ∧ ∀ k, 0 ≤ k → k < c → τ 114 (105 + 17 * b + 1 + 2 * k) = (σ 113 243 + wkS (fun q => σ 113 (245 + 2 * q)) i x k) ∧ τ 114 (105 + 17 * b + 2 + 2 * k) = (σ 113 244 + wkS (fun q => σ 113 (246 + 2 * q)) i y k)) (fun (X : Int) (Y : Int) (c : Int) (τ : jS) => (σ 113 242 - c).toNat) ?_ _ _ _ _ ⟨by omega, (same.refl _ _).put (by decide), by rw [wkS_0, ju_off _ _ _ _ _ (by decide), Int.add_zero], by rw [wkS_0, ju_off _ _ _ _ _ (by decide), Int.add_zero], fun j hj => ju_ne (by omega), ju_at _ _ _ _, fun _ _ _ => by omega⟩
  intro X Y c τ hI47 ih47
  have e113 : τ 113 = σ 113 := hI47.2.1 113 (by decide)
  have e242 : τ 113 242 = σ 113 242 := by rw [e113]
  refine r_iload (dc dkX13_layCalls 26 rfl) rfl (np 49 rfl ?_)
  refine r_aload_n (dc dkX13_layCalls 27 rfl) rfl (np 50 rfl ?_)
  refine r_getR (dc dkX13_layCalls 28 rfl) flX13_13 fd_111_15 (np 53 rfl ?_)
  refine r_sipush (dc dkX13_layCalls 29 rfl) sp_242 (np 56 rfl ?_)
  refine r_iald (dc dkX13_layCalls 30 rfl) ar_113 (by omega) (np 57 rfl ?_)
  refine r_icmp_ge (tgt := 155) (dc dkX13_layCalls 31 rfl) rfl (by first | assumption | decide | omega) (by first | assumption | decide | omega) (fun h57 => ?_) (fun h57 => (np 60 rfl ?_))
  · skip
    exact r_vret (dc dkX13_layCalls 88 rfl) rfl ⟨rfl, hI47.2.1, hI47.2.2.2.2.1, hI47.2.2.2.2.2.1, fun k k0 k1 => hI47.2.2.2.2.2.2 k k0 (by omega)⟩
  refine r_aload_n (dc dkX13_layCalls 32 rfl) rfl (np 61 rfl ?_)
  refine r_getR (dc dkX13_layCalls 33 rfl) flX13_16 fd_111_16 (np 64 rfl ?_)
  refine r_iload (dc dkX13_layCalls 34 rfl) rfl (np 66 rfl ?_)
  refine r_iconst (dc dkX13_layCalls 35 rfl) (np 67 rfl ?_)
  refine r_iadd (dc dkX13_layCalls 36 rfl) (np 68 rfl ?_)
  refine r_iconst (dc dkX13_layCalls 37 rfl) (np 69 rfl ?_)
  refine r_iload (dc dkX13_layCalls 38 rfl) rfl (np 71 rfl ?_)
  refine r_imul (dc dkX13_layCalls 39 rfl) (np 72 rfl ?_)
  refine r_iadd (dc dkX13_layCalls 40 rfl) (np 73 rfl ?_)
  refine r_iload (dc dkX13_layCalls 41 rfl) rfl (np 75 rfl ?_)
  refine r_iast (dc dkX13_layCalls 42 rfl) ar_114 (by omega) (np 76 rfl ?_)
  refine r_aload_n (dc dkX13_layCalls 43 rfl) rfl (np 77 rfl ?_)
  refine r_getR (dc dkX13_layCalls 44 rfl) flX13_16 fd_111_16 (np 80 rfl ?_)
  refine r_iload (dc dkX13_layCalls 45 rfl) rfl (np 82 rfl ?_)
  refine r_iconst (dc dkX13_layCalls 46 rfl) (np 83 rfl ?_)
  refine r_iadd (dc dkX13_layCalls 47 rfl) (np 84 rfl ?_)
  refine r_iconst (dc dkX13_layCalls 48 rfl) (np 85 rfl ?_)
  refine r_iload (dc dkX13_layCalls 49 rfl) rfl (np 87 rfl ?_)
  refine r_imul (dc dkX13_layCalls 50 rfl) (np 88 rfl ?_)
  refine r_iadd (dc dkX13_layCalls 51 rfl) (np 89 rfl ?_)
  refine r_iload (dc dkX13_layCalls 52 rfl) rfl (np 91 rfl ?_)
  refine r_iast (dc dkX13_layCalls 53 rfl) ar_114 (by omega) (np 92 rfl ?_)
  have jj117 : ∀ g : Int, (g = if c = i then x else σ 113 (245 + 2 * c)) → jR 1 miX13_layCalls (fun r τ => r = none ∧ same [114] σ τ ∧ (∀ j, (j < 105 + 17 * b ∨ 105 + 17 * b + 17 ≤ j) → τ 114 j = σ 114 j) ∧ τ 114 (105 + 17 * b) = σ 113 242 ∧ ∀ c, 0 ≤ c → c < σ 113 242 → τ 114 (105 + 17 * b + 1 + 2 * c) = (σ 113 243 + wkS (fun q => σ 113 (245 + 2 * q)) i x c) ∧ τ 114 (105 + 17 * b + 2 + 2 * c) = (σ 113 244 + wkS (fun q => σ 113 (246 + 2 * q)) i y c)) 117 [(0, .ref 111), (1, vI b), (2, vI i), (3, vI x), (4, vI y), (5, vI (105 + 17 * b)), (7, vI Y), (8, vI c)] [vI g, vI X] (ju (ju τ 114 (105 + 17 * b + 1 + 2 * c) X) 114 (105 + 17 * b + 2 + 2 * c) Y) := by
    intro g hg
    refine r_iadd (dc dkX13_layCalls 68 rfl) (np 118 rfl ?_)
    refine r_istore (lv' := [(6, _), (0, _), (1, _), (2, _), (3, _), (4, _), (5, _), (7, _), (8, _)]) (dc dkX13_layCalls 69 rfl) (Nat.le_of_ble_eq_true rfl) rfl (np 120 rfl ?_)
    have jj146 : ∀ g2 : Int, (g2 = if c = i then y else σ 113 (246 + 2 * c)) → jR 1 miX13_layCalls (fun r τ => r = none ∧ same [114] σ τ ∧ (∀ j, (j < 105 + 17 * b ∨ 105 + 17 * b + 17 ≤ j) → τ 114 j = σ 114 j) ∧ τ 114 (105 + 17 * b) = σ 113 242 ∧ ∀ c, 0 ≤ c → c < σ 113 242 → τ 114 (105 + 17 * b + 1 + 2 * c) = (σ 113 243 + wkS (fun q => σ 113 (245 + 2 * q)) i x c) ∧ τ 114 (105 + 17 * b + 2 + 2 * c) = (σ 113 244 + wkS (fun q => σ 113 (246 + 2 * q)) i y c)) 146 [(0, .ref 111), (1, vI b), (2, vI i), (3, vI x), (4, vI y), (5, vI (105 + 17 * b)), (6, vI (X + g)), (8, vI c)] [vI g2, vI Y] (ju (ju τ 114 (105 + 17 * b + 1 + 2 * c) X) 114 (105 + 17 * b + 2 + 2 * c) Y) := by
      intro g2 hg2
      refine r_iadd (dc dkX13_layCalls 84 rfl) (np 147 rfl ?_)
      refine r_istore (lv' := [(7, _), (0, _), (1, _), (2, _), (3, _), (4, _), (5, _), (6, _), (8, _)]) (dc dkX13_layCalls 85 rfl) (Nat.le_of_ble_eq_true rfl) rfl (np 149 rfl ?_)
      refine r_iinc (lv' := [(8, _), (7, _), (0, _), (1, _), (2, _), (3, _), (4, _), (5, _), (6, _)]) (dc dkX13_layCalls 86 rfl) (Nat.le_of_ble_eq_true rfl) rfl rfl (np 152 rfl ?_)
      refine r_goto (tgt := 47) (dc dkX13_layCalls 87 rfl) rfl ?_
      refine r_pick [2, 3, 4, 5, 6, 7, 8, 1, 0] rfl ?_
      exact ih47 _ _ _ _ (by
            obtain ⟨_, J1, J2, J3, J4, J5, J6⟩ := hI47
            refine ⟨by omega, (J1.put (by decide)).put (by decide), by rw [wkS_s (by omega), hg, J2]; omega, by rw [wkS_s (by omega), hg2, J3]; omega, fun j hj => by rw [ju_ne (by omega), ju_ne (by omega)]; exact J4 j hj, by rw [ju_ne (by omega), ju_ne (by omega)]; exact J5, fun k k0 k1 => ?_⟩
            by_cases hk : k = c
            · rw [hk, ju_ne (by omega), ju_at, ju_at, J2, J3]; exact ⟨rfl, rfl⟩
            · rw [ju_ne (by omega), ju_ne (by omega), ju_ne (by omega), ju_ne (by omega)]; exact J6 k k0 (by omega)) (by omega)
    refine r_iload (dc dkX13_layCalls 70 rfl) rfl (np 122 rfl ?_)
    refine r_iload (dc dkX13_layCalls 71 rfl) rfl (np 124 rfl ?_)
    refine r_iload_n (dc dkX13_layCalls 72 rfl) rfl (np 125 rfl ?_)
    refine r_icmp_ne (tgt := 133) (dc dkX13_layCalls 73 rfl) rfl (by first | assumption | decide | omega) (by first | assumption | decide | omega) (fun h125 => ?_) (fun h125 => (np 128 rfl ?_))
    · skip
      refine r_aload_n (dc dkX13_layCalls 76 rfl) rfl (np 134 rfl ?_)
      refine r_getR (dc dkX13_layCalls 77 rfl) flX13_13 fd_111_15 (np 137 rfl ?_)
      refine r_sipush (dc dkX13_layCalls 78 rfl) sp_246 (np 140 rfl ?_)
      refine r_iconst (dc dkX13_layCalls 79 rfl) (np 141 rfl ?_)
      refine r_iload (dc dkX13_layCalls 80 rfl) rfl (np 143 rfl ?_)
      refine r_imul (dc dkX13_layCalls 81 rfl) (np 144 rfl ?_)
      refine r_iadd (dc dkX13_layCalls 82 rfl) (np 145 rfl ?_)
      refine r_iald (dc dkX13_layCalls 83 rfl) ar_113 (by omega) (np 146 rfl ?_)
      refine r_pick [1, 2, 3, 4, 5, 6, 0, 8] rfl ?_
      exact jj146 _ (by first | (rw [if_pos (by omega)]; done) | (rw [if_neg (by omega), ju_off _ _ _ _ _ (by decide), ju_off _ _ _ _ _ (by decide), e113]; done))
    refine r_iload (dc dkX13_layCalls 74 rfl) rfl (np 130 rfl ?_)
    refine r_goto (tgt := 146) (dc dkX13_layCalls 75 rfl) rfl ?_
    refine r_pick [1, 2, 3, 4, 5, 6, 0, 8] rfl ?_
    exact jj146 _ (by first | (rw [if_pos (by omega)]; done) | (rw [if_neg (by omega), ju_off _ _ _ _ _ (by decide), ju_off _ _ _ _ _ (by decide), e113]; done))
  refine r_iload (dc dkX13_layCalls 54 rfl) rfl (np 94 rfl ?_)
  refine r_iload (dc dkX13_layCalls 55 rfl) rfl (np 96 rfl ?_)
  refine r_iload_n (dc dkX13_layCalls 56 rfl) rfl (np 97 rfl ?_)
  refine r_icmp_ne (tgt := 104) (dc dkX13_layCalls 57 rfl) rfl (by first | assumption | decide | omega) (by first | assumption | decide | omega) (fun h97 => ?_) (fun h97 => (np 100 rfl ?_))
  · skip
    refine r_aload_n (dc dkX13_layCalls 60 rfl) rfl (np 105 rfl ?_)
    refine r_getR (dc dkX13_layCalls 61 rfl) flX13_13 fd_111_15 (np 108 rfl ?_)
    refine r_sipush (dc dkX13_layCalls 62 rfl) sp_245 (np 111 rfl ?_)
    refine r_iconst (dc dkX13_layCalls 63 rfl) (np 112 rfl ?_)
    refine r_iload (dc dkX13_layCalls 64 rfl) rfl (np 114 rfl ?_)
    refine r_imul (dc dkX13_layCalls 65 rfl) (np 115 rfl ?_)
    refine r_iadd (dc dkX13_layCalls 66 rfl) (np 116 rfl ?_)
    refine r_iald (dc dkX13_layCalls 67 rfl) ar_113 (by omega) (np 117 rfl ?_)
    refine r_pick [0, 1, 2, 3, 4, 5, 7, 8] rfl ?_
    exact jj117 _ (by first | (rw [if_pos (by omega)]; done) | (rw [if_neg (by omega), ju_off _ _ _ _ _ (by decide), ju_off _ _ _ _ _ (by decide), e113]; done))
  refine r_iload_n (dc dkX13_layCalls 58 rfl) rfl (np 101 rfl ?_)
  refine r_goto (tgt := 117) (dc dkX13_layCalls 59 rfl) rfl ?_
  refine r_pick [0, 1, 2, 3, 4, 5, 7, 8] rfl ?_
  exact jj117 _ (by first | (rw [if_pos (by omega)]; done) | (rw [if_neg (by omega), ju_off _ _ _ _ _ (by decide), ju_off _ _ _ _ _ (by decide), e113]; done))
