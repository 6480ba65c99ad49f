/-! ===== texts ===== -/
def TX (f : Int → Int) (n : Int) (L : List Int) : Prop := n = L.length ∧ ∀ i : Nat, i < L.length → f i = L.getD i 0
theorem TX_0 (f : Int → Int) : TX f 0 [] := ⟨rfl, fun i h => absurd h (by simp)⟩
theorem TX_1 {f g : Int → Int} {n : Int} {L : List Int} {c : Int} (h : TX f n L) (hn : g n = c) (hg : ∀ j, ¬ j = n → g j = f j) : TX g (n + 1) (L ++ [c]) := by
  refine ⟨by rw [h.1, List.length_append]; simp, fun i hi => ?_⟩
  rw [List.length_append] at hi
  simp only [List.length_cons, List.length_nil] at hi
  by_cases q : i < L.length
  · rw [hg i (by rw [h.1]; omega), h.2 i q]
    simp only [List.getD_eq_getElem?_getD]
    rw [List.getElem?_append_left q]
  · have e : i = L.length := by omega
    rw [show (i : Int) = n by rw [h.1, e], hn, e]
    simp [List.getD_eq_getElem?_getD]
/-- a number's text -/
def nuT (v : Int) : List Int := ([32] : List Int) ++ (if v < 0 then [45] else []) ++ [48 + (v.natAbs : Int)]
theorem nuT_l (v : Int) : 2 ≤ (nuT v).length ∧ (nuT v).length ≤ 3 := by
  unfold nuT
  split <;> simp
theorem nuT_p {v : Int} (h : 0 ≤ v) : (nuT v).length = 2 := by
  unfold nuT
  rw [if_neg (by omega)]; simp
def byT (f g : Int → Int) : Nat → List Int
  | 0 => []
  | k + 1 => byT f g k ++ ([98, 121] ++ nuT (f k) ++ nuT (g k) ++ [59])
theorem byT_l (f g : Int → Int) : ∀ k : Nat, (byT f g k).length ≤ 9 * k
  | 0 => by simp [byT]
  | k + 1 => by
    have := byT_l f g k
    have := nuT_l (f k)
    have := nuT_l (g k)
    rw [byT]
    simp only [List.length_append, List.length_cons, List.length_nil]
    omega
theorem byT_s {f g : Int → Int} {i : Int} (h : 0 ≤ i) : byT f g (i + 1).toNat = byT f g i.toNat ++ ([98, 121] ++ nuT (f i) ++ nuT (g i) ++ [59]) := by
  rw [show (i + 1).toNat = i.toNat + 1 by omega, byT, Int.toNat_of_nonneg h]
def atT (x y : Int) : List Int := [97, 116] ++ nuT x ++ nuT y ++ [59]
theorem atT_l {x y : Int} (hx : 0 ≤ x) (hy : 0 ≤ y) : (atT x y).length = 7 := by
  unfold atT
  have := nuT_p hx
  have := nuT_p hy
  simp only [List.length_append, List.length_cons, List.length_nil]
  omega
/-- a byte is put into the class' text -/
theorem TXp {σ τ : jS} {L : List Int} {c : Int} (h : TX (σ 5) (σ 4 1) L) (e : τ = ju (ju σ (4 + 1) (σ 4 1) ((c.bmod 256).bmod 256)) 4 1 (σ 4 1 + 1)) (hc : 0 ≤ c ∧ c < 128) : same [4, 5] σ τ ∧ TX (τ 5) (τ 4 1) (L ++ [c]) := by
  have eb : (c.bmod 256).bmod 256 = c := by
    have e1 : c.bmod 256 = c := by rw [Int.bmod_def]; omega
    rw [e1, e1]
  rw [eb] at e
  refine ⟨fun q hq => ?_, ?_⟩
  · simp at hq
    rw [e, ju_off _ _ _ _ _ hq.1, ju_off _ _ _ _ _ hq.2]
  · have e4 : τ 4 1 = σ 4 1 + 1 := by rw [e, ju_at]
    rw [e4]
    refine TX_1 h ?_ (fun j hj => ?_)
    · rw [e, ju_off _ _ _ _ _ (by decide)]; exact ju_at _ _ _ _
    · rw [e, ju_off _ _ _ _ _ (by decide), ju_ne (by omega)]
theorem TXy {σ : jS} {L : List Int} (h : TX (σ 5) (σ 4 1) L) (hl : L.length < 79) : okY σ 4 ∧ σ 4 1 < nBytes 4 := by
  have e : nBytes 4 = 79 := by decide
  unfold okY
  rw [e]
  have := h.1
  omega
theorem same.tr2 {X : List Nat} {σ τ ρ : jS} (h : same X σ τ) (g : same X τ ρ) : same X σ ρ := fun c hc => (g c hc).trans (h c hc)
set_option maxRecDepth 100000 in
set_option maxHeartbeats 4000000 in
theorem c_X2_putNumber {σ : jS} {L : List Int} (hT : TX (σ 5) (σ 4 1) L) (hl : L.length < 77) {v : Int} (hv : -9 ≤ v ∧ v ≤ 9) : Jm 2 miX2_putNumber [.ref 4, vI v] σ (fun r τ => r = none ∧ same [4, 5] σ τ ∧ TX (τ 5) (τ 4 1) (L ++ nuT v)) := by
  refine jm_ofF (Po := (fun r τ => r = none ∧ same [4, 5] σ τ ∧ TX (τ 5) (τ 4 1) (L ++ nuT v))) (plainFor_of_name (by decide)) (Nat.le_of_ble_eq_true rfl) (lv := [(0, _), (1, _)]) rfl ?_
  refine r_aload_n (dc dkX2_putNumber 0 rfl) rfl (np 1 rfl ?_)
  refine r_bipush (dc dkX2_putNumber 1 rfl) bp_32 (np 3 rfl ?_)
  refine r_cV1 (y' := miX2_put) (dc dkX2_putNumber 2 rfl) mlX2_25 ceX2_put ob_4 (Nat.le_of_ble_eq_true rfl) (Nat.le_of_ble_eq_true rfl) (c_X2_put isBytes_at4 (TXy hT (by omega)).1 (TXy hT (by omega)).2) (fun r τ2 hp2 => (np 6 rfl ?_))
  obtain ⟨rfl, e2⟩ := hp2
  obtain ⟨S2, T2⟩ := TXp (c := 32) hT e2 (by omega)
  have jj16 : ∀ τ4 : jS, (same [4, 5] σ τ4 ∧ TX (τ4 5) (τ4 4 1) (L ++ [32] ++ (if v < 0 then [45] else []))) → jR 2 miX2_putNumber (fun r τ => r = none ∧ same [4, 5] σ τ ∧ TX (τ 5) (τ 4 1) (L ++ nuT v)) 16 [(0, .ref 4), (1, vI v)] [] τ4 := by
    intro τ4 hq
    obtain ⟨S4, T4⟩ := hq
    have hl4 : (L ++ [32] ++ (if v < 0 then [45] else [])).length < 79 := by
      split <;> (simp only [List.length_append, List.length_cons, List.length_nil]; omega)
    refine r_aload_n (dc dkX2_putNumber 8 rfl) rfl (np 17 rfl ?_)
    refine r_bipush (dc dkX2_putNumber 9 rfl) bp_48 (np 19 rfl ?_)
    refine r_iload_n (dc dkX2_putNumber 10 rfl) rfl (np 20 rfl ?_)
    refine r_pS1 (y' := miJ9_abs_0f7a4) (dc dkX2_putNumber 11 rfl) mlX2_29 seJ9_abs_0f7a4 (Nat.le_of_ble_eq_true rfl) (Nat.le_of_ble_eq_true rfl) (c_J9_abs_0f7a4 (by omega)) (np 23 rfl ?_)
    refine r_iadd (dc dkX2_putNumber 12 rfl) (np 24 rfl ?_)
    refine r_cV1 (y' := miX2_put) (dc dkX2_putNumber 13 rfl) mlX2_25 ceX2_put ob_4 (Nat.le_of_ble_eq_true rfl) (Nat.le_of_ble_eq_true rfl) (c_X2_put isBytes_at4 (TXy T4 hl4).1 (TXy T4 hl4).2) (fun r τ5 hp5 => (np 27 rfl ?_))
    obtain ⟨rfl, e5⟩ := hp5
    obtain ⟨S5, T5⟩ := TXp (c := (48 + (v.natAbs : Int))) T4 e5 (by omega)
    exact r_vret (dc dkX2_putNumber 14 rfl) rfl ⟨rfl, S4.tr2 S5, by unfold nuT; rw [← List.append_assoc, ← List.append_assoc]; exact T5⟩
  refine r_iload_n (dc dkX2_putNumber 3 rfl) rfl (np 7 rfl ?_)
  refine r_if_ge (tgt := 16) (dc dkX2_putNumber 4 rfl) rfl (by first | assumption | decide | omega) (fun h7 => ?_) (fun h7 => (np 10 rfl ?_))
  · skip
    refine r_pick [0, 1] rfl ?_
    exact jj16 _ (by first | exact ⟨S2.tr2 S3, by rw [if_pos (by omega)]; exact T3⟩ | exact ⟨S2, by rw [if_neg (by omega), List.append_nil]; exact T2⟩)
  refine r_aload_n (dc dkX2_putNumber 5 rfl) rfl (np 11 rfl ?_)
  refine r_bipush (dc dkX2_putNumber 6 rfl) bp_45 (np 13 rfl ?_)
  refine r_cV1 (y' := miX2_put) (dc dkX2_putNumber 7 rfl) mlX2_25 ceX2_put ob_4 (Nat.le_of_ble_eq_true rfl) (Nat.le_of_ble_eq_true rfl) (c_X2_put isBytes_at4 (TXy T2 (by simp only [List.length_append, List.length_cons, List.length_nil]; omega)).1 (TXy T2 (by simp only [List.length_append, List.length_cons, List.length_nil]; omega)).2) (fun r τ3 hp3 => (np 16 rfl ?_))
  obtain ⟨rfl, e3⟩ := hp3
  obtain ⟨S3, T3⟩ := TXp (c := 45) T2 e3 (by omega)
  refine r_pick [0, 1] rfl ?_
  exact jj16 _ (by first | exact ⟨S2.tr2 S3, by rw [if_pos (by omega)]; exact T3⟩ | exact ⟨S2, by rw [if_neg (by omega), List.append_nil]; exact T2⟩)
set_option maxRecDepth 100000 in
set_option maxHeartbeats 4000000 in
theorem c_X3_tell {σ : jS} (h8 : cB 8 (σ 47 0)) (hat : cB 9 (σ 47 1) ∧ cB 9 (σ 47 2)) (hb9 : ∀ i, 0 ≤ i → i < σ 47 0 → (-9 ≤ σ 48 i ∧ σ 48 i ≤ 9) ∧ (-9 ≤ σ 49 i ∧ σ 49 i ≤ 9)) : Jm 3 miX3_tell [.ref 47, .ref 4] σ (fun r τ => r = none ∧ same [4, 5] σ τ ∧ TX (τ 5) (τ 4 1) (atT (σ 47 1) (σ 47 2) ++ byT (σ 48) (σ 49)  (σ 47 0).toNat)) := by
  refine jm_ofF (Po := (fun r τ => r = none ∧ same [4, 5] σ τ ∧ TX (τ 5) (τ 4 1) (atT (σ 47 1) (σ 47 2) ++ byT (σ 48) (σ 49)  (σ 47 0).toNat))) (plainFor_of_name (by decide)) (Nat.le_of_ble_eq_true rfl) (lv := [(0, _), (1, _)]) rfl ?_
  refine r_aload_n (dc dkX3_tell 0 rfl) rfl (np 1 rfl ?_)
  refine r_iconst (dc dkX3_tell 1 rfl) (np 2 rfl ?_)
  refine r_pI 1 (dc dkX3_tell 2 rfl) fpX3_104 fd_4_1 rfl (np 5 rfl ?_)
  refine r_abs (fun ρ => same [4, 5] σ ρ ∧ TX (ρ 5) (ρ 4 1) []) ⟨(same.refl [4, 5] σ).put (by decide), by rw [ju_at]; exact TX_0 _⟩ ?_
  intro τ1 hq
  obtain ⟨S1, T1⟩ := hq
  refine r_aload_n (dc dkX3_tell 3 rfl) rfl (np 6 rfl ?_)
  refine r_bipush (dc dkX3_tell 4 rfl) bp_97 (np 8 rfl ?_)
  refine r_cV1 (y' := miX2_put) (dc dkX3_tell 5 rfl) mlX3_109 ceX2_put ob_4 (Nat.le_of_ble_eq_true rfl) (Nat.le_of_ble_eq_true rfl) (c_X2_put isBytes_at4 (TXy T1 (by simp)).1 (TXy T1 (by simp)).2) (fun r τ2 hp2 => (np 11 rfl ?_))
  obtain ⟨rfl, e2⟩ := hp2
  obtain ⟨S2, T2⟩ := TXp (c := 97) T1 e2 (by omega)
  refine r_aload_n (dc dkX3_tell 6 rfl) rfl (np 12 rfl ?_)
  refine r_bipush (dc dkX3_tell 7 rfl) bp_116 (np 14 rfl ?_)
  refine r_cV1 (y' := miX2_put) (dc dkX3_tell 8 rfl) mlX3_109 ceX2_put ob_4 (Nat.le_of_ble_eq_true rfl) (Nat.le_of_ble_eq_true rfl) (c_X2_put isBytes_at4 (TXy T2 (by simp only [List.length_append, List.length_cons, List.length_nil]; omega)).1 (TXy T2 (by simp only [List.length_append, List.length_cons, List.length_nil]; omega)).2) (fun r τ3 hp3 => (np 17 rfl ?_))
  obtain ⟨rfl, e3⟩ := hp3
  obtain ⟨S3, T3⟩ := TXp (c := 116) T2 e3 (by omega)
  refine r_aload_n (dc dkX3_tell 9 rfl) rfl (np 18 rfl ?_)
  refine r_aload_n (dc dkX3_tell 10 rfl) rfl (np 19 rfl ?_)
  refine r_gI 1 (dc dkX3_tell 11 rfl) flX3_15 fd_47_1 rfl (np 22 rfl ?_)
  refine r_eqI _ (show τ3 47 1 = σ 47 1 by rw [S3 47 (by decide), S2 47 (by decide), S1 47 (by decide)]) ?_
  refine r_cV1 (y' := miX2_putNumber) (dc dkX3_tell 12 rfl) mlX3_112 ceX2_putNumber ob_4 (Nat.le_of_ble_eq_true rfl) (Nat.le_of_ble_eq_true rfl) (c_X2_putNumber T3 (by simp only [List.length_append, List.length_cons, List.length_nil]; omega) (by omega)) (fun r τ4 hp4 => (np 25 rfl ?_))
  obtain ⟨rfl, S4, T4⟩ := hp4
  refine r_aload_n (dc dkX3_tell 13 rfl) rfl (np 26 rfl ?_)
  refine r_aload_n (dc dkX3_tell 14 rfl) rfl (np 27 rfl ?_)
  refine r_gI 2 (dc dkX3_tell 15 rfl) flX3_18 fd_47_2 rfl (np 30 rfl ?_)
  refine r_eqI _ (show τ4 47 2 = σ 47 2 by rw [S4 47 (by decide), S3 47 (by decide), S2 47 (by decide), S1 47 (by decide)]) ?_
  refine r_cV1 (y' := miX2_putNumber) (dc dkX3_tell 16 rfl) mlX3_112 ceX2_putNumber ob_4 (Nat.le_of_ble_eq_true rfl) (Nat.le_of_ble_eq_true rfl) (c_X2_putNumber T4 (by simp only [List.length_append, List.length_cons, List.length_nil]; have := nuT_p hat.1.1; have := nuT_p hat.2.1; omega) (by omega)) (fun r τ5 hp5 => (np 33 rfl ?_))
  obtain ⟨rfl, S5, T5⟩ := hp5
  refine r_aload_n (dc dkX3_tell 17 rfl) rfl (np 34 rfl ?_)
  refine r_bipush (dc dkX3_tell 18 rfl) bp_59 (np 36 rfl ?_)
  refine r_cV1 (y' := miX2_put) (dc dkX3_tell 19 rfl) mlX3_109 ceX2_put ob_4 (Nat.le_of_ble_eq_true rfl) (Nat.le_of_ble_eq_true rfl) (c_X2_put isBytes_at4 (TXy T5 (by simp only [List.length_append, List.length_cons, List.length_nil]; have := nuT_p hat.1.1; have := nuT_p hat.2.1; omega)).1 (TXy T5 (by simp only [List.length_append, List.length_cons, List.length_nil]; have := nuT_p hat.1.1; have := nuT_p hat.2.1; omega)).2) (fun r τ6 hp6 => (np 39 rfl ?_))
  obtain ⟨rfl, e6⟩ := hp6
  obtain ⟨S6, T6⟩ := TXp (c := 59) T5 e6 (by omega)
  refine r_iconst (dc dkX3_tell 20 rfl) (np 40 rfl ?_)
  refine r_istore_n (lv' := [(2, _), (0, _), (1, _)]) (dc dkX3_tell 21 rfl) (Nat.le_of_ble_eq_true rfl) rfl (np 41 rfl ?_)
  refine r_pick [1, 2, 0] (lv' := [(0, _), (1, _), (2, _)]) rfl ?_
  refine jlp2 (P := fun (i : Int) (τ : jS) => jR _ _ _ 41 [(0, .ref 47), (1, .ref 4), (2, vI i)] [] τ) (I := fun (i : Int) (τ : jS) => (0 ≤ i ∧ i ≤ σ 47 0) ∧ same [4, 5] σ τ ∧ TX (τ 5) (τ 4 1) (atT (σ 47 1) (σ 47 2) ++ byT (σ 48) (σ 49)  i.toNat)) (fun (i : Int) (τ : jS) => (σ 47 0 - i).toNat) ?_ _ _ ⟨by omega, ((((S1.tr2 S2).tr2 S3).tr2 S4).tr2 S5).tr2 S6, by show TX _ _ (atT (σ 47 1) (σ 47 2) ++ []); rw [List.append_nil]; unfold atT; exact T6⟩
  intro i τ hI41 ih41
  have q47 : τ 47 = σ 47 := hI41.2.1 47 (by decide)
  have q470 : τ 47 0 = σ 47 0 := by rw [q47]
  refine r_iload_n (dc dkX3_tell 22 rfl) rfl (np 42 rfl ?_)
  refine r_aload_n (dc dkX3_tell 23 rfl) rfl (np 43 rfl ?_)
  refine r_gI 0 (dc dkX3_tell 24 rfl) flX3_9 fd_47_0 rfl (np 46 rfl ?_)
  refine r_icmp_ge (tgt := 99) (dc dkX3_tell 25 rfl) rfl (by first | assumption | decide | omega) (by first | assumption | decide | omega) (fun h46 => ?_) (fun h46 => (np 49 rfl ?_))
  · skip
    exact r_vret (dc dkX3_tell 52 rfl) rfl ⟨rfl, hI41.2.1, by rw [show σ 47 0 = i by omega]; exact hI41.2.2⟩
  refine r_iload_n (dc dkX3_tell 26 rfl) rfl (np 50 rfl ?_)
  refine r_bipush (dc dkX3_tell 27 rfl) bp_8 (np 52 rfl ?_)
  refine r_icmp_ge (tgt := 99) (dc dkX3_tell 28 rfl) rfl (by first | assumption | decide | omega) (by first | assumption | decide | omega) (fun h52 => ?_) (fun h52 => (np 55 rfl ?_))
  · skip
    exact r_vret (dc dkX3_tell 52 rfl) rfl ⟨rfl, hI41.2.1, by rw [show σ 47 0 = i by omega]; exact hI41.2.2⟩
  have bb := hb9 i (by omega) (by omega)
  refine r_aload_n (dc dkX3_tell 29 rfl) rfl (np 56 rfl ?_)
  refine r_bipush (dc dkX3_tell 30 rfl) bp_98 (np 58 rfl ?_)
  refine r_cV1 (y' := miX2_put) (dc dkX3_tell 31 rfl) mlX3_109 ceX2_put ob_4 (Nat.le_of_ble_eq_true rfl) (Nat.le_of_ble_eq_true rfl) (c_X2_put isBytes_at4 (TXy hI41.2.2 (by simp only [List.length_append, List.length_cons, List.length_nil]; have := nuT_l (σ 48 i); have := nuT_l (σ 49 i); have := byT_l (σ 48) (σ 49) i.toNat; have := atT_l hat.1.1 hat.2.1; omega)).1 (TXy hI41.2.2 (by simp only [List.length_append, List.length_cons, List.length_nil]; have := nuT_l (σ 48 i); have := nuT_l (σ 49 i); have := byT_l (σ 48) (σ 49) i.toNat; have := atT_l hat.1.1 hat.2.1; omega)).2) (fun r τ7 hp7 => (np 61 rfl ?_))
  obtain ⟨rfl, e7⟩ := hp7
  obtain ⟨S7, T7⟩ := TXp (c := 98) hI41.2.2 e7 (by omega)
  refine r_aload_n (dc dkX3_tell 32 rfl) rfl (np 62 rfl ?_)
  refine r_bipush (dc dkX3_tell 33 rfl) bp_121 (np 64 rfl ?_)
  refine r_cV1 (y' := miX2_put) (dc dkX3_tell 34 rfl) mlX3_109 ceX2_put ob_4 (Nat.le_of_ble_eq_true rfl) (Nat.le_of_ble_eq_true rfl) (c_X2_put isBytes_at4 (TXy T7 (by simp only [List.length_append, List.length_cons, List.length_nil]; have := nuT_l (σ 48 i); have := nuT_l (σ 49 i); have := byT_l (σ 48) (σ 49) i.toNat; have := atT_l hat.1.1 hat.2.1; omega)).1 (TXy T7 (by simp only [List.length_append, List.length_cons, List.length_nil]; have := nuT_l (σ 48 i); have := nuT_l (σ 49 i); have := byT_l (σ 48) (σ 49) i.toNat; have := atT_l hat.1.1 hat.2.1; omega)).2) (fun r τ8 hp8 => (np 67 rfl ?_))
  obtain ⟨rfl, e8⟩ := hp8
  obtain ⟨S8, T8⟩ := TXp (c := 121) T7 e8 (by omega)
  refine r_aload_n (dc dkX3_tell 35 rfl) rfl (np 68 rfl ?_)
  refine r_aload_n (dc dkX3_tell 36 rfl) rfl (np 69 rfl ?_)
  refine r_getR (dc dkX3_tell 37 rfl) flX3_21 fd_47_3 (np 72 rfl ?_)
  refine r_iload_n (dc dkX3_tell 38 rfl) rfl (np 73 rfl ?_)
  refine r_iald (dc dkX3_tell 39 rfl) ar_48 (by omega) (np 74 rfl ?_)
  refine r_eqI _ (show τ8 48 i = σ 48 i by rw [S8 48 (by decide), S7 48 (by decide), hI41.2.1 48 (by decide)]) ?_
  refine r_cV1 (y' := miX2_putNumber) (dc dkX3_tell 40 rfl) mlX3_112 ceX2_putNumber ob_4 (Nat.le_of_ble_eq_true rfl) (Nat.le_of_ble_eq_true rfl) (c_X2_putNumber T8 (by simp only [List.length_append, List.length_cons, List.length_nil]; have := nuT_l (σ 48 i); have := nuT_l (σ 49 i); have := byT_l (σ 48) (σ 49) i.toNat; have := atT_l hat.1.1 hat.2.1; omega) (by omega)) (fun r τ9 hp9 => (np 77 rfl ?_))
  obtain ⟨rfl, S9, T9⟩ := hp9
  refine r_aload_n (dc dkX3_tell 41 rfl) rfl (np 78 rfl ?_)
  refine r_aload_n (dc dkX3_tell 42 rfl) rfl (np 79 rfl ?_)
  refine r_getR (dc dkX3_tell 43 rfl) flX3_25 fd_47_4 (np 82 rfl ?_)
  refine r_iload_n (dc dkX3_tell 44 rfl) rfl (np 83 rfl ?_)
  refine r_iald (dc dkX3_tell 45 rfl) ar_49 (by omega) (np 84 rfl ?_)
  refine r_eqI _ (show τ9 49 i = σ 49 i by rw [S9 49 (by decide), S8 49 (by decide), S7 49 (by decide), hI41.2.1 49 (by decide)]) ?_
  refine r_cV1 (y' := miX2_putNumber) (dc dkX3_tell 46 rfl) mlX3_112 ceX2_putNumber ob_4 (Nat.le_of_ble_eq_true rfl) (Nat.le_of_ble_eq_true rfl) (c_X2_putNumber T9 (by simp only [List.length_append, List.length_cons, List.length_nil]; have := nuT_l (σ 48 i); have := nuT_l (σ 49 i); have := byT_l (σ 48) (σ 49) i.toNat; have := atT_l hat.1.1 hat.2.1; omega) (by omega)) (fun r τ10 hp10 => (np 87 rfl ?_))
  obtain ⟨rfl, S10, T10⟩ := hp10
  refine r_aload_n (dc dkX3_tell 47 rfl) rfl (np 88 rfl ?_)
  refine r_bipush (dc dkX3_tell 48 rfl) bp_59 (np 90 rfl ?_)
  refine r_cV1 (y' := miX2_put) (dc dkX3_tell 49 rfl) mlX3_109 ceX2_put ob_4 (Nat.le_of_ble_eq_true rfl) (Nat.le_of_ble_eq_true rfl) (c_X2_put isBytes_at4 (TXy T10 (by simp only [List.length_append, List.length_cons, List.length_nil]; have := nuT_l (σ 48 i); have := nuT_l (σ 49 i); have := byT_l (σ 48) (σ 49) i.toNat; have := atT_l hat.1.1 hat.2.1; omega)).1 (TXy T10 (by simp only [List.length_append, List.length_cons, List.length_nil]; have := nuT_l (σ 48 i); have := nuT_l (σ 49 i); have := byT_l (σ 48) (σ 49) i.toNat; have := atT_l hat.1.1 hat.2.1; omega)).2) (fun r τ11 hp11 => (np 93 rfl ?_))
  obtain ⟨rfl, e11⟩ := hp11
  obtain ⟨S11, T11⟩ := TXp (c := 59) T10 e11 (by omega)
  refine r_iinc (lv' := [(2, _), (0, _), (1, _)]) (dc dkX3_tell 50 rfl) (Nat.le_of_ble_eq_true rfl) rfl rfl (np 96 rfl ?_)
  refine r_goto (tgt := 41) (dc dkX3_tell 51 rfl) rfl ?_
  refine r_pick [1, 2, 0] rfl ?_
  exact ih41 _ _ ⟨by omega, ((((hI41.2.1.tr2 S7).tr2 S8).tr2 S9).tr2 S10).tr2 S11, by rw [byT_s (by omega)]; have t := T11; simp only [List.append_assoc, List.cons_append, List.nil_append] at t ⊢; exact t⟩ (by omega)
