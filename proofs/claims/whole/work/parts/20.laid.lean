/-! ===== bands laid, copied, taken away ===== -/
theorem isB_lo {k : Nat} (h : isBands k) : 30 ≤ k ∧ k ≤ 107 := by
  unfold isBands at h
  revert h
  revert k
  decide +kernel
theorem isB_apart {k o : Nat} (h : isBands k) (g : isBands o) (n : ¬ k = o) : k + 4 ≤ o ∨ o + 4 ≤ k := by
  unfold isBands at h g
  have key : ∀ k ∈ [30, 43, 56, 69, 79, 83, 87, 91, 95, 99, 103, 107], ∀ o ∈ [30, 43, 56, 69, 79, 83, 87, 91, 95, 99, 103, 107], ¬ k = o → k + 4 ≤ o ∨ o + 4 ≤ k := by decide +kernel
  exact key k h o g n
/-- all but some cells are as they were -/
def same (X : List Nat) (σ τ : jS) : Prop := ∀ c, c ∉ X → τ c = σ c
theorem same.refl (X : List Nat) (σ : jS) : same X σ σ := fun _ _ => rfl
theorem same.at {X : List Nat} {σ τ : jS} (h : same X σ τ) {c : Nat} (hc : c ∉ X) (i : Int) : τ c i = σ c i := by rw [h c hc]
theorem same.trans {X Y Z : List Nat} {σ τ ρ : jS} (h : same X σ τ) (g : same Y τ ρ) (hX : ∀ c ∈ X, c ∈ Z) (hY : ∀ c ∈ Y, c ∈ Z) : same Z σ ρ := fun c hc => (g c (fun q => hc (hY c q))).trans (h c (fun q => hc (hX c q)))
theorem okB_t {σ τ : jS} {k : Nat} (h : okB σ k) (e0 : τ k = σ k) (e1 : τ (k + 1) = σ (k + 1)) (e2 : τ (k + 2) = σ (k + 2)) (e3 : τ (k + 3) = σ (k + 3)) : okB τ k := by
  unfold okB
  rw [e0, e1, e2, e3]
  exact h
theorem bAt_t {σ τ : jS} {k : Nat} (e2 : τ (k + 2) = σ (k + 2)) (e3 : τ (k + 3) = σ (k + 3)) (b i : Int) : bAt τ k b i = bAt σ k b i := by
  unfold bAt
  rw [e2, e3]
theorem ju_at (σ : jS) (k : Nat) (i z : Int) : ju σ k i z k i = z := by simp [ju]
theorem ju_ne {σ : jS} {k k' : Nat} {i j z : Int} (h : ¬ (k' = k ∧ j = i)) : ju σ k i z k' j = σ k' j := by unfold ju; rw [if_neg h]
/-- the bands at k are those at o -/
def cpB (σ τ : jS) (k o : Nat) : Prop := τ k 0 = σ o 0 ∧ (∀ j, 0 ≤ j → j < 8 → τ (k + 1) j = σ (o + 1) j) ∧ (∀ j, 0 ≤ j → j < 8 → τ (k + 2) j = σ (o + 2) j) ∧ (∀ j, 0 ≤ j → j < 64 → τ (k + 3) j = σ (o + 3) j)
theorem cpB_ok {σ τ : jS} {k o : Nat} (h : cpB σ τ k o) (g : okB σ o) : okB τ k := by
  obtain ⟨h0, h1, h2, h3⟩ := h
  refine ⟨by rw [h0]; exact g.1, fun b b0 b1 => by rw [h2 b b0 b1]; exact g.2.1 b b0 b1, fun j j0 j1 => by rw [h3 j j0 j1]; exact g.2.2.1 j j0 j1, fun j j0 j1 => by rw [h1 j j0 j1]; exact g.2.2.2 j j0 j1⟩
set_option maxRecDepth 100000 in
set_option maxHeartbeats 4000000 in
theorem c_X6_areaWith {σ : jS} {n i : Int} : Jp 1 miX6_areaWith [vI n, vI i] σ (vI (2 * i + n - 2)) := by
  refine jm_ofF (Po := (jP (vI (2 * i + n - 2)) σ)) (plainFor_of_name (by decide)) (Nat.le_of_ble_eq_true rfl) (lv := [(0, _), (1, _)]) rfl ?_
  refine r_iconst (dc dkX6_areaWith 0 rfl) (np 1 rfl ?_)
  refine r_iload_n (dc dkX6_areaWith 1 rfl) rfl (np 2 rfl ?_)
  refine r_imul (dc dkX6_areaWith 2 rfl) (np 3 rfl ?_)
  refine r_iload_n (dc dkX6_areaWith 3 rfl) rfl (np 4 rfl ?_)
  refine r_iadd (dc dkX6_areaWith 4 rfl) (np 5 rfl ?_)
  refine r_iconst (dc dkX6_areaWith 5 rfl) (np 6 rfl ?_)
  refine r_isub (dc dkX6_areaWith 6 rfl) (np 7 rfl ?_)
  exact r_iret (dc dkX6_areaWith 7 rfl) rfl ⟨rfl, rfl⟩
set_option maxRecDepth 100000 in
set_option maxHeartbeats 4000000 in
theorem c_X6_placesOn {σ : jS} {a b c : Int} (ha : isPg a) (hb : isPg b) (hc : isPg c) : Jp 3 miX6_placesOn [vI a, vI b, vI c] σ (vI (pts a b + pts b c + pts c a)) := by
  refine jm_ofF (Po := (jP (vI (pts a b + pts b c + pts c a)) σ)) (plainFor_of_name (by decide)) (Nat.le_of_ble_eq_true rfl) (lv := [(0, _), (1, _), (2, _)]) rfl ?_
  refine r_iload_n (dc dkX6_placesOn 0 rfl) rfl (np 1 rfl ?_)
  refine r_iload_n (dc dkX6_placesOn 1 rfl) rfl (np 2 rfl ?_)
  refine r_pS2 (y' := miX7_parts) (dc dkX6_placesOn 2 rfl) mlX6_39 seX7_parts (Nat.le_of_ble_eq_true rfl) (Nat.le_of_ble_eq_true rfl) (c_X7_parts (by assumption) (by assumption)) (np 5 rfl ?_)
  refine r_iload_n (dc dkX6_placesOn 3 rfl) rfl (np 6 rfl ?_)
  refine r_iload_n (dc dkX6_placesOn 4 rfl) rfl (np 7 rfl ?_)
  refine r_pS2 (y' := miX7_parts) (dc dkX6_placesOn 5 rfl) mlX6_39 seX7_parts (Nat.le_of_ble_eq_true rfl) (Nat.le_of_ble_eq_true rfl) (c_X7_parts (by assumption) (by assumption)) (np 10 rfl ?_)
  refine r_iadd (dc dkX6_placesOn 6 rfl) (np 11 rfl ?_)
  refine r_iload_n (dc dkX6_placesOn 7 rfl) rfl (np 12 rfl ?_)
  refine r_iload_n (dc dkX6_placesOn 8 rfl) rfl (np 13 rfl ?_)
  refine r_pS2 (y' := miX7_parts) (dc dkX6_placesOn 9 rfl) mlX6_39 seX7_parts (Nat.le_of_ble_eq_true rfl) (Nat.le_of_ble_eq_true rfl) (c_X7_parts (by assumption) (by assumption)) (np 16 rfl ?_)
  refine r_iadd (dc dkX6_placesOn 10 rfl) (np 17 rfl ?_)
  exact r_iret (dc dkX6_placesOn 11 rfl) rfl ⟨rfl, rfl⟩
def ldA (p q a b : Int) : Prop := tn a b q = 0 ∧ (0 < al p q a ∨ 0 < al p q b)
def stpd (p q a b : Int) : Prop := (onS p a b ∧ onS q a b) ∨ (onS p a b ∧ ¬ onS q a b ∧ ldA p q a b) ∨ (¬ onS p a b ∧ onS q a b ∧ ldA q p a b) ∨ (¬ onS p a b ∧ ¬ onS q a b ∧ ¬ mt p q a b = 0)
def rnsI (n : Int) (P : Int → Int) (p q : Int) : Prop := (∀ i, 0 ≤ i → i < n → ¬ stpd p q (P i) (P (i + 1))) ∧ encB n P (p % 10 + q % 10) (p / 10 + q / 10)
set_option maxRecDepth 100000 in
set_option maxHeartbeats 4000000 in
theorem c_X6_leadsAlong {σ : jS} {p q a b : Int} (hp : isPg p) (hq : isPg q) (ha : isPg a) (hb : isPg b) : Jp 2 miX6_leadsAlong [vI p, vI q, vI a, vI b] σ (vI (bI (ldA p q a b))) := by
  have t1 := tn_R ha hb hq
  have t2 := al_R hp hq ha
  have t3 := al_R hp hq hb
  refine jm_ofF (Po := (jP (vI (bI (ldA p q a b))) σ)) (plainFor_of_name (by decide)) (Nat.le_of_ble_eq_true rfl) (lv := [(0, _), (1, _), (2, _), (3, _)]) rfl ?_
  refine r_iload_n (dc dkX6_leadsAlong 0 rfl) rfl (np 1 rfl ?_)
  refine r_iload_n (dc dkX6_leadsAlong 1 rfl) rfl (np 2 rfl ?_)
  refine r_iload_n (dc dkX6_leadsAlong 2 rfl) rfl (np 3 rfl ?_)
  refine r_pS3 (y' := miX7_turn) (dc dkX6_leadsAlong 3 rfl) mlX6_88 seX7_turn (Nat.le_of_ble_eq_true rfl) (Nat.le_of_ble_eq_true rfl) (c_X7_turn (by assumption) (by assumption) (by assumption)) (np 6 rfl ?_)
  refine r_if_ne (tgt := 31) (dc dkX6_leadsAlong 4 rfl) rfl (by first | assumption | decide | omega) (fun h6 => ?_) (fun h6 => (np 9 rfl ?_))
  · skip
    refine r_iconst (dc dkX6_leadsAlong 17 rfl) (np 32 rfl ?_)
    exact r_zret (dc dkX6_leadsAlong 18 rfl) rfl (by first | exact Or.inl rfl | exact Or.inr rfl) ⟨congrArg (fun z => some (vI z)) (by first | exact bT ⟨h6, Or.inl h15⟩ | exact bT ⟨h6, Or.inr h24⟩ | exact bF (fun z => h6 z.1) | exact bF (fun z => by have := z.2; omega)), rfl⟩
  refine r_iload_n (dc dkX6_leadsAlong 5 rfl) rfl (np 10 rfl ?_)
  refine r_iload_n (dc dkX6_leadsAlong 6 rfl) rfl (np 11 rfl ?_)
  refine r_iload_n (dc dkX6_leadsAlong 7 rfl) rfl (np 12 rfl ?_)
  refine r_pS3 (y' := miX7_along) (dc dkX6_leadsAlong 8 rfl) mlX6_91 seX7_along (Nat.le_of_ble_eq_true rfl) (Nat.le_of_ble_eq_true rfl) (c_X7_along (by assumption) (by assumption) (by assumption)) (np 15 rfl ?_)
  refine r_if_gt (tgt := 27) (dc dkX6_leadsAlong 9 rfl) rfl (by first | assumption | decide | omega) (fun h15 => ?_) (fun h15 => (np 18 rfl ?_))
  · skip
    refine r_iconst (dc dkX6_leadsAlong 15 rfl) (np 28 rfl ?_)
    refine r_goto (tgt := 32) (dc dkX6_leadsAlong 16 rfl) rfl ?_
    exact r_zret (dc dkX6_leadsAlong 18 rfl) rfl (by first | exact Or.inl rfl | exact Or.inr rfl) ⟨congrArg (fun z => some (vI z)) (by first | exact bT ⟨h6, Or.inl h15⟩ | exact bT ⟨h6, Or.inr h24⟩ | exact bF (fun z => h6 z.1) | exact bF (fun z => by have := z.2; omega)), rfl⟩
  refine r_iload_n (dc dkX6_leadsAlong 10 rfl) rfl (np 19 rfl ?_)
  refine r_iload_n (dc dkX6_leadsAlong 11 rfl) rfl (np 20 rfl ?_)
  refine r_iload_n (dc dkX6_leadsAlong 12 rfl) rfl (np 21 rfl ?_)
  refine r_pS3 (y' := miX7_along) (dc dkX6_leadsAlong 13 rfl) mlX6_91 seX7_along (Nat.le_of_ble_eq_true rfl) (Nat.le_of_ble_eq_true rfl) (c_X7_along (by assumption) (by assumption) (by assumption)) (np 24 rfl ?_)
  refine r_if_le (tgt := 31) (dc dkX6_leadsAlong 14 rfl) rfl (by first | assumption | decide | omega) (fun h24 => ?_) (fun h24 => (np 27 rfl ?_))
  · skip
    refine r_iconst (dc dkX6_leadsAlong 17 rfl) (np 32 rfl ?_)
    exact r_zret (dc dkX6_leadsAlong 18 rfl) rfl (by first | exact Or.inl rfl | exact Or.inr rfl) ⟨congrArg (fun z => some (vI z)) (by first | exact bT ⟨h6, Or.inl h15⟩ | exact bT ⟨h6, Or.inr h24⟩ | exact bF (fun z => h6 z.1) | exact bF (fun z => by have := z.2; omega)), rfl⟩
  refine r_iconst (dc dkX6_leadsAlong 15 rfl) (np 28 rfl ?_)
  refine r_goto (tgt := 32) (dc dkX6_leadsAlong 16 rfl) rfl ?_
  exact r_zret (dc dkX6_leadsAlong 18 rfl) rfl (by first | exact Or.inl rfl | exact Or.inr rfl) ⟨congrArg (fun z => some (vI z)) (by first | exact bT ⟨h6, Or.inl h15⟩ | exact bT ⟨h6, Or.inr h24⟩ | exact bF (fun z => h6 z.1) | exact bF (fun z => by have := z.2; omega)), rfl⟩
set_option maxRecDepth 100000 in
set_option maxHeartbeats 4000000 in
theorem c_X6_isStopped {σ : jS} {p q a b : Int} (hp : isPg p) (hq : isPg q) (ha : isPg a) (hb : isPg b) : Jp 3 miX6_isStopped [vI p, vI q, vI a, vI b] σ (vI (bI (stpd p q a b))) := by
  have t1 := mt_b p q a b
  refine jm_ofF (Po := (jP (vI (bI (stpd p q a b))) σ)) (plainFor_of_name (by decide)) (Nat.le_of_ble_eq_true rfl) (lv := [(0, _), (1, _), (2, _), (3, _)]) rfl ?_
  refine r_iload_n (dc dkX6_isStopped 0 rfl) rfl (np 1 rfl ?_)
  refine r_iload_n (dc dkX6_isStopped 1 rfl) rfl (np 2 rfl ?_)
  refine r_iload_n (dc dkX6_isStopped 2 rfl) rfl (np 3 rfl ?_)
  refine r_pS3 (y' := miX7_isOn) (dc dkX6_isStopped 3 rfl) mlX6_78 seX7_isOn (Nat.le_of_ble_eq_true rfl) (Nat.le_of_ble_eq_true rfl) (c_X7_isOn (by assumption) (by assumption) (by assumption)) (np 6 rfl ?_)
  refine r_istore (lv' := [(4, _), (0, _), (1, _), (2, _), (3, _)]) (dc dkX6_isStopped 4 rfl) (Nat.le_of_ble_eq_true rfl) rfl (np 8 rfl ?_)
  refine r_iload_n (dc dkX6_isStopped 5 rfl) rfl (np 9 rfl ?_)
  refine r_iload_n (dc dkX6_isStopped 6 rfl) rfl (np 10 rfl ?_)
  refine r_iload_n (dc dkX6_isStopped 7 rfl) rfl (np 11 rfl ?_)
  refine r_pS3 (y' := miX7_isOn) (dc dkX6_isStopped 8 rfl) mlX6_78 seX7_isOn (Nat.le_of_ble_eq_true rfl) (Nat.le_of_ble_eq_true rfl) (c_X7_isOn (by assumption) (by assumption) (by assumption)) (np 14 rfl ?_)
  refine r_istore (lv' := [(5, _), (4, _), (0, _), (1, _), (2, _), (3, _)]) (dc dkX6_isStopped 9 rfl) (Nat.le_of_ble_eq_true rfl) rfl (np 16 rfl ?_)
  refine r_iload (dc dkX6_isStopped 10 rfl) rfl (np 18 rfl ?_)
  refine r_bz (tgt := 28) (dc dkX6_isStopped 11 rfl) rfl (fun h18 => ?_) (fun h18 => (np 21 rfl ?_))
  · skip
    refine r_iload (dc dkX6_isStopped 16 rfl) rfl (np 30 rfl ?_)
    refine r_bz (tgt := 41) (dc dkX6_isStopped 17 rfl) rfl (fun h30 => ?_) (fun h30 => (np 33 rfl ?_))
    · skip
      refine r_iload (dc dkX6_isStopped 24 rfl) rfl (np 43 rfl ?_)
      refine r_bz (tgt := 54) (dc dkX6_isStopped 25 rfl) rfl (fun h43 => ?_) (fun h43 => (np 46 rfl ?_))
      · skip
        refine r_iload_n (dc dkX6_isStopped 32 rfl) rfl (np 55 rfl ?_)
        refine r_iload_n (dc dkX6_isStopped 33 rfl) rfl (np 56 rfl ?_)
        refine r_iload_n (dc dkX6_isStopped 34 rfl) rfl (np 57 rfl ?_)
        refine r_iload_n (dc dkX6_isStopped 35 rfl) rfl (np 58 rfl ?_)
        refine r_pS4 (y' := miX7_meet) (dc dkX6_isStopped 36 rfl) mlX6_84 seX7_meet (Nat.le_of_ble_eq_true rfl) (Nat.le_of_ble_eq_true rfl) (c_X7_meet (by assumption) (by assumption) (by assumption) (by assumption)) (np 61 rfl ?_)
        refine r_if_eq (tgt := 68) (dc dkX6_isStopped 37 rfl) rfl (by omega) (fun h61 => ?_) (fun h61 => (np 64 rfl ?_))
        · skip
          refine r_iconst (dc dkX6_isStopped 40 rfl) (np 69 rfl ?_)
          exact r_zret (dc dkX6_isStopped 41 rfl) rfl (by first | exact Or.inl rfl | exact Or.inr rfl) ⟨congrArg (fun z => some (vI z)) (by first | exact bT (Or.inr (Or.inr (Or.inr ⟨h30, h43, h61⟩))) | exact bF (fun z => by rcases z with z | z | z | z; exact h30 z.1; exact h30 z.1; exact h43 z.2.1; exact z.2.2 h61)), rfl⟩
        refine r_iconst (dc dkX6_isStopped 38 rfl) (np 65 rfl ?_)
        refine r_goto (tgt := 69) (dc dkX6_isStopped 39 rfl) rfl ?_
        exact r_zret (dc dkX6_isStopped 41 rfl) rfl (by first | exact Or.inl rfl | exact Or.inr rfl) ⟨congrArg (fun z => some (vI z)) (by first | exact bT (Or.inr (Or.inr (Or.inr ⟨h30, h43, h61⟩))) | exact bF (fun z => by rcases z with z | z | z | z; exact h30 z.1; exact h30 z.1; exact h43 z.2.1; exact z.2.2 h61)), rfl⟩
      refine r_iload_n (dc dkX6_isStopped 26 rfl) rfl (np 47 rfl ?_)
      refine r_iload_n (dc dkX6_isStopped 27 rfl) rfl (np 48 rfl ?_)
      refine r_iload_n (dc dkX6_isStopped 28 rfl) rfl (np 49 rfl ?_)
      refine r_iload_n (dc dkX6_isStopped 29 rfl) rfl (np 50 rfl ?_)
      refine r_pS4 (y' := miX6_leadsAlong) (dc dkX6_isStopped 30 rfl) mlX6_81 seX6_leadsAlong (Nat.le_of_ble_eq_true rfl) (Nat.le_of_ble_eq_true rfl) (c_X6_leadsAlong (by first | assumption | omega) (by first | assumption | omega) (by first | assumption | omega) (by first | assumption | omega)) (np 53 rfl ?_)
      exact r_zret (dc dkX6_isStopped 31 rfl) rfl (bI_01 _) ⟨congrArg (fun z => some (vI z)) (bI_iff ⟨fun z => Or.inr (Or.inr (Or.inl ⟨h30, h43, z⟩)), fun z => by rcases z with z | z | z | z; exact absurd z.1 h30; exact absurd z.1 h30; exact z.2.2; exact absurd h43 z.2.1⟩), rfl⟩
    refine r_iload_n (dc dkX6_isStopped 18 rfl) rfl (np 34 rfl ?_)
    refine r_iload_n (dc dkX6_isStopped 19 rfl) rfl (np 35 rfl ?_)
    refine r_iload_n (dc dkX6_isStopped 20 rfl) rfl (np 36 rfl ?_)
    refine r_iload_n (dc dkX6_isStopped 21 rfl) rfl (np 37 rfl ?_)
    refine r_pS4 (y' := miX6_leadsAlong) (dc dkX6_isStopped 22 rfl) mlX6_81 seX6_leadsAlong (Nat.le_of_ble_eq_true rfl) (Nat.le_of_ble_eq_true rfl) (c_X6_leadsAlong (by first | assumption | omega) (by first | assumption | omega) (by first | assumption | omega) (by first | assumption | omega)) (np 40 rfl ?_)
    exact r_zret (dc dkX6_isStopped 23 rfl) rfl (bI_01 _) ⟨congrArg (fun z => some (vI z)) (bI_iff ⟨fun z => Or.inr (Or.inl ⟨h30, by first | exact h23 | exact absurd h30 h18, z⟩), fun z => by rcases z with z | z | z | z; exact absurd z.2 (by first | exact h23 | exact absurd h30 h18); exact z.2.2; exact absurd h30 z.1; exact absurd h30 z.1⟩), rfl⟩
  refine r_iload (dc dkX6_isStopped 12 rfl) rfl (np 23 rfl ?_)
  refine r_bz (tgt := 28) (dc dkX6_isStopped 13 rfl) rfl (fun h23 => ?_) (fun h23 => (np 26 rfl ?_))
  · skip
    refine r_iload (dc dkX6_isStopped 16 rfl) rfl (np 30 rfl ?_)
    refine r_bz (tgt := 41) (dc dkX6_isStopped 17 rfl) rfl (fun h30 => ?_) (fun h30 => (np 33 rfl ?_))
    · skip
      refine r_iload (dc dkX6_isStopped 24 rfl) rfl (np 43 rfl ?_)
      refine r_bz (tgt := 54) (dc dkX6_isStopped 25 rfl) rfl (fun h43 => ?_) (fun h43 => (np 46 rfl ?_))
      · skip
        refine r_iload_n (dc dkX6_isStopped 32 rfl) rfl (np 55 rfl ?_)
        refine r_iload_n (dc dkX6_isStopped 33 rfl) rfl (np 56 rfl ?_)
        refine r_iload_n (dc dkX6_isStopped 34 rfl) rfl (np 57 rfl ?_)
        refine r_iload_n (dc dkX6_isStopped 35 rfl) rfl (np 58 rfl ?_)
        refine r_pS4 (y' := miX7_meet) (dc dkX6_isStopped 36 rfl) mlX6_84 seX7_meet (Nat.le_of_ble_eq_true rfl) (Nat.le_of_ble_eq_true rfl) (c_X7_meet (by assumption) (by assumption) (by assumption) (by assumption)) (np 61 rfl ?_)
        refine r_if_eq (tgt := 68) (dc dkX6_isStopped 37 rfl) rfl (by omega) (fun h61 => ?_) (fun h61 => (np 64 rfl ?_))
        · skip
          refine r_iconst (dc dkX6_isStopped 40 rfl) (np 69 rfl ?_)
          exact r_zret (dc dkX6_isStopped 41 rfl) rfl (by first | exact Or.inl rfl | exact Or.inr rfl) ⟨congrArg (fun z => some (vI z)) (by first | exact bT (Or.inr (Or.inr (Or.inr ⟨h30, h43, h61⟩))) | exact bF (fun z => by rcases z with z | z | z | z; exact h30 z.1; exact h30 z.1; exact h43 z.2.1; exact z.2.2 h61)), rfl⟩
        refine r_iconst (dc dkX6_isStopped 38 rfl) (np 65 rfl ?_)
        refine r_goto (tgt := 69) (dc dkX6_isStopped 39 rfl) rfl ?_
        exact r_zret (dc dkX6_isStopped 41 rfl) rfl (by first | exact Or.inl rfl | exact Or.inr rfl) ⟨congrArg (fun z => some (vI z)) (by first | exact bT (Or.inr (Or.inr (Or.inr ⟨h30, h43, h61⟩))) | exact bF (fun z => by rcases z with z | z | z | z; exact h30 z.1; exact h30 z.1; exact h43 z.2.1; exact z.2.2 h61)), rfl⟩
      refine r_iload_n (dc dkX6_isStopped 26 rfl) rfl (np 47 rfl ?_)
      refine r_iload_n (dc dkX6_isStopped 27 rfl) rfl (np 48 rfl ?_)
      refine r_iload_n (dc dkX6_isStopped 28 rfl) rfl (np 49 rfl ?_)
      refine r_iload_n (dc dkX6_isStopped 29 rfl) rfl (np 50 rfl ?_)
      refine r_pS4 (y' := miX6_leadsAlong) (dc dkX6_isStopped 30 rfl) mlX6_81 seX6_leadsAlong (Nat.le_of_ble_eq_true rfl) (Nat.le_of_ble_eq_true rfl) (c_X6_leadsAlong (by first | assumption | omega) (by first | assumption | omega) (by first | assumption | omega) (by first | assumption | omega)) (np 53 rfl ?_)
      exact r_zret (dc dkX6_isStopped 31 rfl) rfl (bI_01 _) ⟨congrArg (fun z => some (vI z)) (bI_iff ⟨fun z => Or.inr (Or.inr (Or.inl ⟨h30, h43, z⟩)), fun z => by rcases z with z | z | z | z; exact absurd z.1 h30; exact absurd z.1 h30; exact z.2.2; exact absurd h43 z.2.1⟩), rfl⟩
    refine r_iload_n (dc dkX6_isStopped 18 rfl) rfl (np 34 rfl ?_)
    refine r_iload_n (dc dkX6_isStopped 19 rfl) rfl (np 35 rfl ?_)
    refine r_iload_n (dc dkX6_isStopped 20 rfl) rfl (np 36 rfl ?_)
    refine r_iload_n (dc dkX6_isStopped 21 rfl) rfl (np 37 rfl ?_)
    refine r_pS4 (y' := miX6_leadsAlong) (dc dkX6_isStopped 22 rfl) mlX6_81 seX6_leadsAlong (Nat.le_of_ble_eq_true rfl) (Nat.le_of_ble_eq_true rfl) (c_X6_leadsAlong (by first | assumption | omega) (by first | assumption | omega) (by first | assumption | omega) (by first | assumption | omega)) (np 40 rfl ?_)
    exact r_zret (dc dkX6_isStopped 23 rfl) rfl (bI_01 _) ⟨congrArg (fun z => some (vI z)) (bI_iff ⟨fun z => Or.inr (Or.inl ⟨h30, by first | exact h23 | exact absurd h30 h18, z⟩), fun z => by rcases z with z | z | z | z; exact absurd z.2 (by first | exact h23 | exact absurd h30 h18); exact z.2.2; exact absurd h30 z.1; exact absurd h30 z.1⟩), rfl⟩
  refine r_iconst (dc dkX6_isStopped 14 rfl) (np 27 rfl ?_)
  exact r_zret (dc dkX6_isStopped 15 rfl) rfl (by first | exact Or.inl rfl | exact Or.inr rfl) ⟨congrArg (fun z => some (vI z)) (bT (Or.inl ⟨h18, h23⟩)), rfl⟩
set_option maxRecDepth 100000 in
set_option maxHeartbeats 4000000 in
theorem c_X6_runsInside {σ : jS} {k : Nat} (hk : isBands k) (hB : okB σ k) {b : Int} (h0 : 0 ≤ b) (h1 : b < 8) {p q : Int} (hp : isPg p) (hq : isPg q) : Jp 4 miX6_runsInside [.ref k, vI b, vI p, vI q] σ (vI (bI (rnsI (σ (k + 2) b) (bAt σ k b) p q))) := by
  have hs := hB.2.1 b h0 h1
  have hP := bAt_P hB h0 h1
  refine jm_ofF (Po := (jP (vI (bI (rnsI (σ (k + 2) b) (bAt σ k b) p q))) σ)) (plainFor_of_name (by decide)) (Nat.le_of_ble_eq_true rfl) (lv := [(0, _), (1, _), (2, _), (3, _)]) rfl ?_
  refine r_iconst (dc dkX6_runsInside 0 rfl) (np 1 rfl ?_)
  refine r_istore (lv' := [(4, _), (0, _), (1, _), (2, _), (3, _)]) (dc dkX6_runsInside 1 rfl) (Nat.le_of_ble_eq_true rfl) rfl (np 3 rfl ?_)
  refine r_pick [1, 2, 3, 4, 0] (lv' := [(0, _), (1, _), (2, _), (3, _), (4, _)]) rfl ?_
  refine jlp1 (P := fun (i : Int) => jR _ _ _ 3 [(0, .ref k), (1, vI b), (2, vI p), (3, vI q), (4, vI i)] [] σ) (I := fun (i : Int) => 0 ≤ i ∧ i ≤ σ (k + 2) b ∧ ∀ j, 0 ≤ j → j < i → ¬ stpd p q (bAt σ k b j) (bAt σ k b (j + 1))) (fun (i : Int) => (σ (k + 2) b - i).toNat) ?_ _ ⟨by omega, by omega, fun j _ _ => by omega⟩
  intro i hI3 ih3
  refine r_iload (dc dkX6_runsInside 2 rfl) rfl (np 5 rfl ?_)
  refine r_aload_n (dc dkX6_runsInside 3 rfl) rfl (np 6 rfl ?_)
  refine r_iload_n (dc dkX6_runsInside 4 rfl) rfl (np 7 rfl ?_)
  refine r_pV1 (y' := miX0_sizeOf) (dc dkX6_runsInside 5 rfl) mlX6_64 ceX0_sizeOf (obBands hk) (Nat.le_of_ble_eq_true rfl) (Nat.le_of_ble_eq_true rfl) (c_X0_sizeOf hk (by omega) (by omega)) (np 10 rfl ?_)
  refine r_icmp_ge (tgt := 45) (dc dkX6_runsInside 6 rfl) rfl (by first | assumption | decide | omega) (by first | assumption | decide | omega) (fun h10 => ?_) (fun h10 => (np 13 rfl ?_))
  · skip
    refine r_aload_n (dc dkX6_runsInside 25 rfl) rfl (np 46 rfl ?_)
    refine r_iload_n (dc dkX6_runsInside 26 rfl) rfl (np 47 rfl ?_)
    refine r_iload_n (dc dkX6_runsInside 27 rfl) rfl (np 48 rfl ?_)
    refine r_bipush (dc dkX6_runsInside 28 rfl) bp_10 (np 50 rfl ?_)
    refine r_iremn (dc dkX6_runsInside 29 rfl) (by first | assumption | decide | omega) (by first | assumption | decide | omega) (np 51 rfl ?_)
    refine r_iload_n (dc dkX6_runsInside 30 rfl) rfl (np 52 rfl ?_)
    refine r_bipush (dc dkX6_runsInside 31 rfl) bp_10 (np 54 rfl ?_)
    refine r_iremn (dc dkX6_runsInside 32 rfl) (by first | assumption | decide | omega) (by first | assumption | decide | omega) (np 55 rfl ?_)
    refine r_iadd (dc dkX6_runsInside 33 rfl) (np 56 rfl ?_)
    refine r_iload_n (dc dkX6_runsInside 34 rfl) rfl (np 57 rfl ?_)
    refine r_bipush (dc dkX6_runsInside 35 rfl) bp_10 (np 59 rfl ?_)
    refine r_idivn (dc dkX6_runsInside 36 rfl) (by first | assumption | decide | omega) (by first | assumption | decide | omega) (np 60 rfl ?_)
    refine r_iload_n (dc dkX6_runsInside 37 rfl) rfl (np 61 rfl ?_)
    refine r_bipush (dc dkX6_runsInside 38 rfl) bp_10 (np 63 rfl ?_)
    refine r_idivn (dc dkX6_runsInside 39 rfl) (by first | assumption | decide | omega) (by first | assumption | decide | omega) (np 64 rfl ?_)
    refine r_iadd (dc dkX6_runsInside 40 rfl) (np 65 rfl ?_)
    refine r_pV3 (y' := miX0_encloses) (dc dkX6_runsInside 41 rfl) mlX6_74 ceX0_encloses (obBands hk) (Nat.le_of_ble_eq_true rfl) (Nat.le_of_ble_eq_true rfl) (c_X0_encloses hk (by assumption) (by omega) (by omega) (by omega) (by omega)) (np 68 rfl ?_)
    exact r_zret (dc dkX6_runsInside 42 rfl) rfl (bI_01 _) ⟨congrArg (fun z => some (vI z)) (bI_iff ⟨fun z => ⟨fun j q0 q1 => hI3.2.2 j q0 (by omega), z⟩, fun z => z.2⟩), rfl⟩
  refine r_iload_n (dc dkX6_runsInside 7 rfl) rfl (np 14 rfl ?_)
  refine r_iload_n (dc dkX6_runsInside 8 rfl) rfl (np 15 rfl ?_)
  refine r_aload_n (dc dkX6_runsInside 9 rfl) rfl (np 16 rfl ?_)
  refine r_iload_n (dc dkX6_runsInside 10 rfl) rfl (np 17 rfl ?_)
  refine r_iload (dc dkX6_runsInside 11 rfl) rfl (np 19 rfl ?_)
  refine r_pV2 (y' := miX0_at) (dc dkX6_runsInside 12 rfl) mlX6_67 ceX0_at (obBands hk) (Nat.le_of_ble_eq_true rfl) (Nat.le_of_ble_eq_true rfl) (c_X0_at hk (by assumption) (by omega) (by omega) (by omega) (by omega)) (np 22 rfl ?_)
  refine r_aload_n (dc dkX6_runsInside 13 rfl) rfl (np 23 rfl ?_)
  refine r_iload_n (dc dkX6_runsInside 14 rfl) rfl (np 24 rfl ?_)
  refine r_iload (dc dkX6_runsInside 15 rfl) rfl (np 26 rfl ?_)
  refine r_iconst (dc dkX6_runsInside 16 rfl) (np 27 rfl ?_)
  refine r_iadd (dc dkX6_runsInside 17 rfl) (np 28 rfl ?_)
  refine r_pV2 (y' := miX0_at) (dc dkX6_runsInside 18 rfl) mlX6_67 ceX0_at (obBands hk) (Nat.le_of_ble_eq_true rfl) (Nat.le_of_ble_eq_true rfl) (c_X0_at hk (by assumption) (by omega) (by omega) (by omega) (by omega)) (np 31 rfl ?_)
  refine r_pS4 (y' := miX6_isStopped) (dc dkX6_runsInside 19 rfl) mlX6_70 seX6_isStopped (Nat.le_of_ble_eq_true rfl) (Nat.le_of_ble_eq_true rfl) (c_X6_isStopped (by assumption) (by assumption) (hP _ (by omega) (by omega)) (hP _ (by omega) (by omega))) (np 34 rfl ?_)
  refine r_bz (tgt := 39) (dc dkX6_runsInside 20 rfl) rfl (fun h34 => ?_) (fun h34 => (np 37 rfl ?_))
  · skip
    refine r_iinc (lv' := [(4, _), (0, _), (1, _), (2, _), (3, _)]) (dc dkX6_runsInside 23 rfl) (Nat.le_of_ble_eq_true rfl) rfl rfl (np 42 rfl ?_)
    refine r_goto (tgt := 3) (dc dkX6_runsInside 24 rfl) rfl ?_
    refine r_pick [1, 2, 3, 4, 0] rfl ?_
    exact ih3 _ ⟨by omega, by omega, fun j q0 q1 => by rcases (show j < i ∨ j = i by omega) with z | z; exact hI3.2.2 j q0 z; subst z; exact h34⟩ (by omega)
  refine r_iconst (dc dkX6_runsInside 21 rfl) (np 38 rfl ?_)
  exact r_zret (dc dkX6_runsInside 22 rfl) rfl (by first | exact Or.inl rfl | exact Or.inr rfl) ⟨congrArg (fun z => some (vI z)) (bF (fun z => z.1 i (by omega) (by omega) h34)), rfl⟩
set_option maxRecDepth 100000 in
set_option maxHeartbeats 4000000 in
theorem c_X0_fill {σ : jS} {k : Nat} (hk : isBands k) (hB : okB σ k) {b : Int} (h0 : 0 ≤ b) (h1 : b < 8) (hp : 0 < σ (k + 2) b) : Jm 2 miX0_fill [.ref k, vI b, .ref 6] σ (fun r τ => r = some (vI (σ (k + 2) b)) ∧ same [6] σ τ ∧ ∀ i, 0 ≤ i → i < σ (k + 2) b → τ 6 i = bAt σ k b i) := by
  have hs := hB.2.1 b h0 h1
  have hP := bAt_P hB h0 h1
  have lo := isB_lo hk
  refine jm_ofF (Po := (fun r τ => r = some (vI (σ (k + 2) b)) ∧ same [6] σ τ ∧ ∀ i, 0 ≤ i → i < σ (k + 2) b → τ 6 i = bAt σ k b i)) (plainFor_of_name (by decide)) (Nat.le_of_ble_eq_true rfl) (lv := [(0, _), (1, _), (2, _)]) rfl ?_
  refine r_aload_n (dc dkX0_fill 0 rfl) rfl (np 1 rfl ?_)
  refine r_iload_n (dc dkX0_fill 1 rfl) rfl (np 2 rfl ?_)
  refine r_pV1 (y' := miX0_sizeOf) (dc dkX0_fill 2 rfl) mlX0_35 ceX0_sizeOf (obBands hk) (Nat.le_of_ble_eq_true rfl) (Nat.le_of_ble_eq_true rfl) (c_X0_sizeOf hk (by omega) (by omega)) (np 5 rfl ?_)
  refine r_istore_n (lv' := [(3, _), (0, _), (1, _), (2, _)]) (dc dkX0_fill 3 rfl) (Nat.le_of_ble_eq_true rfl) rfl (np 6 rfl ?_)
  refine r_iconst (dc dkX0_fill 4 rfl) (np 7 rfl ?_)
  refine r_istore (lv' := [(4, _), (3, _), (0, _), (1, _), (2, _)]) (dc dkX0_fill 5 rfl) (Nat.le_of_ble_eq_true rfl) rfl (np 9 rfl ?_)
  refine r_pick [2, 3, 4, 1, 0] (lv' := [(0, _), (1, _), (2, _), (3, _), (4, _)]) rfl ?_
  refine jlp2 (P := fun (i : Int) (τ : jS) => jR _ _ _ 9 [(0, .ref k), (1, vI b), (2, .ref 6), (3, vI (σ (k + 2) b)), (4, vI i)] [] τ) (I := fun (i : Int) (τ : jS) => 0 ≤ i ∧ i ≤ σ (k + 2) b ∧ same [6] σ τ ∧ ∀ j, 0 ≤ j → j < i → τ 6 j = bAt σ k b j) (fun (i : Int) (τ : jS) => (σ (k + 2) b - i).toNat) ?_ _ _ ⟨by omega, by omega, same.refl _ _, fun j _ _ => by omega⟩
  intro i τ hI9 ih9
  have e2 := hI9.2.2.1 (k + 2) (by simp; omega)
  have e3 := hI9.2.2.1 (k + 3) (by simp; omega)
  have hB2 : okB τ k := okB_t hB (hI9.2.2.1 k (by simp; omega)) (hI9.2.2.1 (k + 1) (by simp; omega)) e2 e3
  refine r_iload (dc dkX0_fill 6 rfl) rfl (np 11 rfl ?_)
  refine r_iload_n (dc dkX0_fill 7 rfl) rfl (np 12 rfl ?_)
  refine r_icmp_ge (tgt := 39) (dc dkX0_fill 8 rfl) rfl (by first | assumption | decide | omega) (by first | assumption | decide | omega) (fun h12 => ?_) (fun h12 => (np 15 rfl ?_))
  · skip
    refine r_iload_n (dc dkX0_fill 22 rfl) rfl (np 40 rfl ?_)
    exact r_iret (dc dkX0_fill 23 rfl) rfl ⟨rfl, hI9.2.2.1, fun j q0 q1 => hI9.2.2.2 j q0 (by omega)⟩
  refine r_iload (dc dkX0_fill 9 rfl) rfl (np 17 rfl ?_)
  refine r_aload_n (dc dkX0_fill 10 rfl) rfl (np 18 rfl ?_)
  refine r_alen (dc dkX0_fill 11 rfl) ar_6 (Nat.le_of_ble_eq_true rfl) (np 19 rfl ?_)
  refine r_icmp_ge (tgt := 39) (dc dkX0_fill 12 rfl) rfl (by first | assumption | decide | omega) (by first | assumption | decide | omega) (fun h19 => ?_) (fun h19 => (np 22 rfl ?_))
  · skip
    refine r_iload_n (dc dkX0_fill 22 rfl) rfl (np 40 rfl ?_)
    exact r_iret (dc dkX0_fill 23 rfl) rfl ⟨rfl, hI9.2.2.1, fun j q0 q1 => hI9.2.2.2 j q0 (by omega)⟩
  refine r_aload_n (dc dkX0_fill 13 rfl) rfl (np 23 rfl ?_)
  refine r_iload (dc dkX0_fill 14 rfl) rfl (np 25 rfl ?_)
  refine r_aload_n (dc dkX0_fill 15 rfl) rfl (np 26 rfl ?_)
  refine r_iload_n (dc dkX0_fill 16 rfl) rfl (np 27 rfl ?_)
  refine r_iload (dc dkX0_fill 17 rfl) rfl (np 29 rfl ?_)
  refine r_pV2 (y' := miX0_at) (dc dkX0_fill 18 rfl) mlX0_39 ceX0_at (obBands hk) (Nat.le_of_ble_eq_true rfl) (Nat.le_of_ble_eq_true rfl) (c_X0_at hk hB2 h0 h1 (by omega) (by rw [e2]; exact hp)) (np 32 rfl ?_)
  refine r_iast (dc dkX0_fill 19 rfl) ar_6 (by omega) (np 33 rfl ?_)
  refine r_iinc (lv' := [(4, _), (0, _), (1, _), (2, _), (3, _)]) (dc dkX0_fill 20 rfl) (Nat.le_of_ble_eq_true rfl) rfl rfl (np 36 rfl ?_)
  refine r_goto (tgt := 9) (dc dkX0_fill 21 rfl) rfl ?_
  refine r_pick [1, 2, 3, 4, 0] rfl ?_
  exact ih9 _ _ ⟨by omega, by omega, fun c hc => by rw [ju_off _ _ _ _ _ (by simpa using hc)]; exact hI9.2.2.1 c hc, fun j q0 q1 => by rcases (show j < i ∨ j = i by omega) with z | z; rw [ju_ne (by omega)]; exact hI9.2.2.2 j q0 z; subst z; rw [ju_at, bAt_t e2 e3]⟩ (by omega)
set_option maxRecDepth 100000 in
set_option maxHeartbeats 4000000 in
theorem c_X0_put {σ : jS} {k : Nat} (hk : isBands k) {b n : Int} (h0 : 0 ≤ b) (h1 : b < 8) (hn : 0 ≤ n ∧ n ≤ 8) : Jm 1 miX0_put [.ref k, vI b, .ref 6, vI n] σ (fun r τ => r = none ∧ (∀ c, ¬ c = k + 2 → ¬ c = k + 3 → τ c = σ c) ∧ (∀ j, ¬ j = b → τ (k + 2) j = σ (k + 2) j) ∧ τ (k + 2) b = n ∧ (∀ j, 0 ≤ j → j < n → τ (k + 3) (b * 8 + j) = σ 6 j) ∧ ∀ j, (j < b * 8 ∨ b * 8 + n ≤ j) → τ (k + 3) j = σ (k + 3) j) := by
  have lo := isB_lo hk
  refine jm_ofF (Po := (fun r τ => r = none ∧ (∀ c, ¬ c = k + 2 → ¬ c = k + 3 → τ c = σ c) ∧ (∀ j, ¬ j = b → τ (k + 2) j = σ (k + 2) j) ∧ τ (k + 2) b = n ∧ (∀ j, 0 ≤ j → j < n → τ (k + 3) (b * 8 + j) = σ 6 j) ∧ ∀ j, (j < b * 8 ∨ b * 8 + n ≤ j) → τ (k + 3) j = σ (k + 3) j)) (plainFor_of_name (by decide)) (Nat.le_of_ble_eq_true rfl) (lv := [(0, _), (1, _), (2, _), (3, _)]) rfl ?_
  refine r_iload_n (dc dkX0_put 0 rfl) rfl (np 1 rfl ?_)
  refine r_if_lt (tgt := 20) (dc dkX0_put 1 rfl) rfl (by first | assumption | decide | omega) (fun h1 => ?_) (fun h1 => (np 4 rfl ?_))
  · skip
    omega
  refine r_iload_n (dc dkX0_put 2 rfl) rfl (np 5 rfl ?_)
  refine r_bipush (dc dkX0_put 3 rfl) bp_8 (np 7 rfl ?_)
  refine r_icmp_ge (tgt := 20) (dc dkX0_put 4 rfl) rfl (by first | assumption | decide | omega) (by first | assumption | decide | omega) (fun h7 => ?_) (fun h7 => (np 10 rfl ?_))
  · skip
    omega
  refine r_iload_n (dc dkX0_put 5 rfl) rfl (np 11 rfl ?_)
  refine r_if_lt (tgt := 20) (dc dkX0_put 6 rfl) rfl (by first | assumption | decide | omega) (fun h11 => ?_) (fun h11 => (np 14 rfl ?_))
  · skip
    omega
  refine r_iload_n (dc dkX0_put 7 rfl) rfl (np 15 rfl ?_)
  refine r_bipush (dc dkX0_put 8 rfl) bp_8 (np 17 rfl ?_)
  refine r_icmp_le (tgt := 21) (dc dkX0_put 9 rfl) rfl (by first | assumption | decide | omega) (by first | assumption | decide | omega) (fun h17 => ?_) (fun h17 => (np 20 rfl ?_))
  · skip
    refine r_aload_n (dc dkX0_put 11 rfl) rfl (np 22 rfl ?_)
    refine r_getR (dc dkX0_put 12 rfl) flX0_19 (fdBands_2 hk) (np 25 rfl ?_)
    refine r_iload_n (dc dkX0_put 13 rfl) rfl (np 26 rfl ?_)
    refine r_iload_n (dc dkX0_put 14 rfl) rfl (np 27 rfl ?_)
    refine r_iast (dc dkX0_put 15 rfl) (arBands_2 hk) (by omega) (np 28 rfl ?_)
    refine r_iconst (dc dkX0_put 16 rfl) (np 29 rfl ?_)
    refine r_istore (lv' := [(4, _), (0, _), (1, _), (2, _), (3, _)]) (dc dkX0_put 17 rfl) (Nat.le_of_ble_eq_true rfl) rfl (np 31 rfl ?_)
    refine r_pick [1, 2, 3, 4, 0] (lv' := [(0, _), (1, _), (2, _), (3, _), (4, _)]) rfl ?_
    refine jlp2 (P := fun (i : Int) (τ : jS) => jR _ _ _ 31 [(0, .ref k), (1, vI b), (2, .ref 6), (3, vI n), (4, vI i)] [] τ) (I := fun (i : Int) (τ : jS) => 0 ≤ i ∧ i ≤ n ∧ (∀ c, ¬ c = k + 2 → ¬ c = k + 3 → τ c = σ c) ∧ (∀ j, ¬ j = b → τ (k + 2) j = σ (k + 2) j) ∧ τ (k + 2) b = n ∧ (∀ j, 0 ≤ j → j < i → τ (k + 3) (b * 8 + j) = σ 6 j) ∧ ∀ j, (j < b * 8 ∨ b * 8 + n ≤ j) → τ (k + 3) j = σ (k + 3) j) (fun (i : Int) (τ : jS) => (n - i).toNat) ?_ _ _ ⟨by omega, by omega, fun c q0 q1 => ju_off _ _ _ _ _ q0, fun j q0 => ju_ne (by omega), ju_at _ _ _ _, fun j _ _ => by omega, fun j _ => ju_ne (by omega)⟩
    intro i τ hI31 ih31
    refine r_iload (dc dkX0_put 18 rfl) rfl (np 33 rfl ?_)
    refine r_iload_n (dc dkX0_put 19 rfl) rfl (np 34 rfl ?_)
    refine r_icmp_ge (tgt := 66) (dc dkX0_put 20 rfl) rfl (by first | assumption | decide | omega) (by first | assumption | decide | omega) (fun h34 => ?_) (fun h34 => (np 37 rfl ?_))
    · skip
      exact r_vret (dc dkX0_put 38 rfl) rfl ⟨rfl, hI31.2.2.1, hI31.2.2.2.1, hI31.2.2.2.2.1, fun j q0 q1 => hI31.2.2.2.2.2.1 j q0 (by omega), hI31.2.2.2.2.2.2⟩
    refine r_iload (dc dkX0_put 21 rfl) rfl (np 39 rfl ?_)
    refine r_aload_n (dc dkX0_put 22 rfl) rfl (np 40 rfl ?_)
    refine r_alen (dc dkX0_put 23 rfl) ar_6 (Nat.le_of_ble_eq_true rfl) (np 41 rfl ?_)
    refine r_icmp_ge (tgt := 66) (dc dkX0_put 24 rfl) rfl (by first | assumption | decide | omega) (by first | assumption | decide | omega) (fun h41 => ?_) (fun h41 => (np 44 rfl ?_))
    · skip
      exact r_vret (dc dkX0_put 38 rfl) rfl ⟨rfl, hI31.2.2.1, hI31.2.2.2.1, hI31.2.2.2.2.1, fun j q0 q1 => hI31.2.2.2.2.2.1 j q0 (by omega), hI31.2.2.2.2.2.2⟩
    refine r_aload_n (dc dkX0_put 25 rfl) rfl (np 45 rfl ?_)
    refine r_getR (dc dkX0_put 26 rfl) flX0_22 (fdBands_3 hk) (np 48 rfl ?_)
    refine r_iload_n (dc dkX0_put 27 rfl) rfl (np 49 rfl ?_)
    refine r_bipush (dc dkX0_put 28 rfl) bp_8 (np 51 rfl ?_)
    refine r_imul (dc dkX0_put 29 rfl) (np 52 rfl ?_)
    refine r_iload (dc dkX0_put 30 rfl) rfl (np 54 rfl ?_)
    refine r_iadd (dc dkX0_put 31 rfl) (np 55 rfl ?_)
    refine r_aload_n (dc dkX0_put 32 rfl) rfl (np 56 rfl ?_)
    refine r_iload (dc dkX0_put 33 rfl) rfl (np 58 rfl ?_)
    refine r_iald (dc dkX0_put 34 rfl) ar_6 (by omega) (np 59 rfl ?_)
    refine r_iast (dc dkX0_put 35 rfl) (arBands_3 hk) (by omega) (np 60 rfl ?_)
    refine r_iinc (lv' := [(4, _), (0, _), (1, _), (2, _), (3, _)]) (dc dkX0_put 36 rfl) (Nat.le_of_ble_eq_true rfl) rfl rfl (np 63 rfl ?_)
    refine r_goto (tgt := 31) (dc dkX0_put 37 rfl) rfl ?_
    refine r_pick [1, 2, 3, 4, 0] rfl ?_
    exact ih31 _ _ ⟨by omega, by omega, fun c q0 q1 => by rw [ju_off _ _ _ _ _ q1]; exact hI31.2.2.1 c q0 q1, fun j q0 => by rw [ju_ne (by omega)]; exact hI31.2.2.2.1 j q0, by rw [ju_ne (by omega)]; exact hI31.2.2.2.2.1, fun j q0 q1 => by rcases (show j < i ∨ j = i by omega) with z | z; rw [ju_ne (by omega)]; exact hI31.2.2.2.2.2.1 j q0 z; subst z; rw [ju_at, hI31.2.2.1 6 (by omega) (by omega)], fun j q0 => by rw [ju_ne (by omega)]; exact hI31.2.2.2.2.2.2 j q0⟩ (by omega)
  omega
set_option maxRecDepth 100000 in
set_option maxHeartbeats 4000000 in
theorem c_X0_add {σ : jS} {k : Nat} (hk : isBands k) {d n : Int} (hm : 0 ≤ σ k 0 ∧ σ k 0 < 8) (hn : 0 ≤ n ∧ n ≤ 8) : Jm 2 miX0_add [.ref k, vI d, .ref 6, vI n] σ (fun r τ => r = none ∧ (∀ c, ¬ c = k → ¬ c = k + 1 → ¬ c = k + 2 → ¬ c = k + 3 → τ c = σ c) ∧ τ k 0 = σ k 0 + 1 ∧ (∀ j, ¬ j = 0 → τ k j = σ k j) ∧ τ (k + 1) (σ k 0) = d ∧ (∀ j, ¬ j = σ k 0 → τ (k + 1) j = σ (k + 1) j) ∧ τ (k + 2) (σ k 0) = n ∧ (∀ j, ¬ j = σ k 0 → τ (k + 2) j = σ (k + 2) j) ∧ (∀ j, 0 ≤ j → j < n → τ (k + 3) (σ k 0 * 8 + j) = σ 6 j) ∧ ∀ j, (j < σ k 0 * 8 ∨ σ k 0 * 8 + n ≤ j) → τ (k + 3) j = σ (k + 3) j) := by
  have lo := isB_lo hk
  have ek : ju σ (k + 1) (σ k 0) d k 0 = σ k 0 := ju_ne (by omega)
  refine jm_ofF (Po := (fun r τ => r = none ∧ (∀ c, ¬ c = k → ¬ c = k + 1 → ¬ c = k + 2 → ¬ c = k + 3 → τ c = σ c) ∧ τ k 0 = σ k 0 + 1 ∧ (∀ j, ¬ j = 0 → τ k j = σ k j) ∧ τ (k + 1) (σ k 0) = d ∧ (∀ j, ¬ j = σ k 0 → τ (k + 1) j = σ (k + 1) j) ∧ τ (k + 2) (σ k 0) = n ∧ (∀ j, ¬ j = σ k 0 → τ (k + 2) j = σ (k + 2) j) ∧ (∀ j, 0 ≤ j → j < n → τ (k + 3) (σ k 0 * 8 + j) = σ 6 j) ∧ ∀ j, (j < σ k 0 * 8 ∨ σ k 0 * 8 + n ≤ j) → τ (k + 3) j = σ (k + 3) j)) (plainFor_of_name (by decide)) (Nat.le_of_ble_eq_true rfl) (lv := [(0, _), (1, _), (2, _), (3, _)]) rfl ?_
  refine r_aload_n (dc dkX0_add 0 rfl) rfl (np 1 rfl ?_)
  refine r_gI 0 (dc dkX0_add 1 rfl) flX0_9 (fdBands_0 hk) rfl (np 4 rfl ?_)
  refine r_if_lt (tgt := 46) (dc dkX0_add 2 rfl) rfl (by first | assumption | decide | omega) (fun h4 => ?_) (fun h4 => (np 7 rfl ?_))
  · skip
    omega
  refine r_aload_n (dc dkX0_add 3 rfl) rfl (np 8 rfl ?_)
  refine r_gI 0 (dc dkX0_add 4 rfl) flX0_9 (fdBands_0 hk) rfl (np 11 rfl ?_)
  refine r_bipush (dc dkX0_add 5 rfl) bp_8 (np 13 rfl ?_)
  refine r_icmp_ge (tgt := 46) (dc dkX0_add 6 rfl) rfl (by first | assumption | decide | omega) (by first | assumption | decide | omega) (fun h13 => ?_) (fun h13 => (np 16 rfl ?_))
  · skip
    omega
  refine r_aload_n (dc dkX0_add 7 rfl) rfl (np 17 rfl ?_)
  refine r_getR (dc dkX0_add 8 rfl) flX0_15 (fdBands_1 hk) (np 20 rfl ?_)
  refine r_aload_n (dc dkX0_add 9 rfl) rfl (np 21 rfl ?_)
  refine r_gI 0 (dc dkX0_add 10 rfl) flX0_9 (fdBands_0 hk) rfl (np 24 rfl ?_)
  refine r_iload_n (dc dkX0_add 11 rfl) rfl (np 25 rfl ?_)
  refine r_iast (dc dkX0_add 12 rfl) (arBands_1 hk) (by omega) (np 26 rfl ?_)
  refine r_aload_n (dc dkX0_add 13 rfl) rfl (np 27 rfl ?_)
  refine r_aload_n (dc dkX0_add 14 rfl) rfl (np 28 rfl ?_)
  refine r_gI 0 (dc dkX0_add 15 rfl) flX0_9 (fdBands_0 hk) rfl (np 31 rfl ?_)
  refine r_aload_n (dc dkX0_add 16 rfl) rfl (np 32 rfl ?_)
  refine r_iload_n (dc dkX0_add 17 rfl) rfl (np 33 rfl ?_)
  refine r_cV3 (y' := miX0_put) (dc dkX0_add 18 rfl) mlX0_43 ceX0_put (obBands hk) (Nat.le_of_ble_eq_true rfl) (Nat.le_of_ble_eq_true rfl) (c_X0_put hk (by rw [ek]; exact hm.1) (by rw [ek]; exact hm.2) hn) (fun r τ hp => (np 36 rfl ?_))
  obtain ⟨rfl, p1, p2, p3, p4, p5⟩ := hp
  rw [ek] at p2 p3 p4 p5
  have et : τ k 0 = σ k 0 := by rw [p1 k (by omega) (by omega)]; exact ek
  refine r_aload_n (dc dkX0_add 19 rfl) rfl (np 37 rfl ?_)
  refine r_dup (dc dkX0_add 20 rfl) rfl (np 38 rfl ?_)
  refine r_gI 0 (dc dkX0_add 21 rfl) flX0_9 (fdBands_0 hk) rfl (np 41 rfl ?_)
  refine r_iconst (dc dkX0_add 22 rfl) (np 42 rfl ?_)
  refine r_iadd (dc dkX0_add 23 rfl) (np 43 rfl ?_)
  refine r_pI 0 (dc dkX0_add 24 rfl) fpX0_9 (fdBands_0 hk) rfl (np 46 rfl ?_)
  exact r_vret (dc dkX0_add 25 rfl) rfl ⟨rfl, fun c q0 q1 q2 q3 => by rw [ju_off _ _ _ _ _ q0, p1 c q2 q3, ju_off _ _ _ _ _ q1], by rw [ju_at, et], fun j q0 => by rw [ju_ne (by omega), p1 k (by omega) (by omega), ju_ne (by omega)], by rw [ju_ne (by omega), p1 (k + 1) (by omega) (by omega), ju_at], fun j q0 => by rw [ju_ne (by omega), p1 (k + 1) (by omega) (by omega), ju_ne (by omega)], by rw [ju_ne (by omega)]; exact p3, fun j q0 => by rw [ju_ne (by omega), p2 j q0, ju_ne (by omega)], fun j q0 q1 => by rw [ju_ne (by omega), p4 j q0 q1, ju_ne (by omega)], fun j q0 => by rw [ju_ne (by omega), p5 j q0, ju_ne (by omega)]⟩
set_option maxRecDepth 100000 in
set_option maxHeartbeats 4000000 in
theorem c_X0_copyFrom {σ : jS} {k o : Nat} (hk : isBands k) (ho : isBands o) (hne : ¬ k = o) : Jm 2 miX0_copyFrom [.ref k, .ref o] σ (fun r τ => r = none ∧ same [k, k + 1, k + 2, k + 3] σ τ ∧ cpB σ τ k o) := by
  have lo := isB_lo hk
  have ap := isB_apart hk ho hne
  refine jm_ofF (Po := (fun r τ => r = none ∧ same [k, k + 1, k + 2, k + 3] σ τ ∧ cpB σ τ k o)) (plainFor_of_name (by decide)) (Nat.le_of_ble_eq_true rfl) (lv := [(0, _), (1, _)]) rfl ?_
  refine r_aload_n (dc dkX0_copyFrom 0 rfl) rfl (np 1 rfl ?_)
  refine r_aload_n (dc dkX0_copyFrom 1 rfl) rfl (np 2 rfl ?_)
  refine r_gI 0 (dc dkX0_copyFrom 2 rfl) flX0_9 (fdBands_0 ho) rfl (np 5 rfl ?_)
  refine r_pI 0 (dc dkX0_copyFrom 3 rfl) fpX0_9 (fdBands_0 hk) rfl (np 8 rfl ?_)
  refine r_aload_n (dc dkX0_copyFrom 4 rfl) rfl (np 9 rfl ?_)
  refine r_getR (dc dkX0_copyFrom 5 rfl) flX0_15 (fdBands_1 ho) (np 12 rfl ?_)
  refine r_iconst (dc dkX0_copyFrom 6 rfl) (np 13 rfl ?_)
  refine r_aload_n (dc dkX0_copyFrom 7 rfl) rfl (np 14 rfl ?_)
  refine r_getR (dc dkX0_copyFrom 8 rfl) flX0_15 (fdBands_1 hk) (np 17 rfl ?_)
  refine r_iconst (dc dkX0_copyFrom 9 rfl) (np 18 rfl ?_)
  refine r_bipush (dc dkX0_copyFrom 10 rfl) bp_8 (np 20 rfl ?_)
  refine r_copyI (dc dkX0_copyFrom 11 rfl) cpX0_25 (arBands_1 ho) (arBands_1 hk) (by omega) (Nat.le_of_ble_eq_true rfl) (Nat.le_of_ble_eq_true rfl) (np 23 rfl ?_)
  refine r_aload_n (dc dkX0_copyFrom 12 rfl) rfl (np 24 rfl ?_)
  refine r_getR (dc dkX0_copyFrom 13 rfl) flX0_19 (fdBands_2 ho) (np 27 rfl ?_)
  refine r_iconst (dc dkX0_copyFrom 14 rfl) (np 28 rfl ?_)
  refine r_aload_n (dc dkX0_copyFrom 15 rfl) rfl (np 29 rfl ?_)
  refine r_getR (dc dkX0_copyFrom 16 rfl) flX0_19 (fdBands_2 hk) (np 32 rfl ?_)
  refine r_iconst (dc dkX0_copyFrom 17 rfl) (np 33 rfl ?_)
  refine r_bipush (dc dkX0_copyFrom 18 rfl) bp_8 (np 35 rfl ?_)
  refine r_copyI (dc dkX0_copyFrom 19 rfl) cpX0_25 (arBands_2 ho) (arBands_2 hk) (by omega) (Nat.le_of_ble_eq_true rfl) (Nat.le_of_ble_eq_true rfl) (np 38 rfl ?_)
  refine r_aload_n (dc dkX0_copyFrom 20 rfl) rfl (np 39 rfl ?_)
  refine r_getR (dc dkX0_copyFrom 21 rfl) flX0_22 (fdBands_3 ho) (np 42 rfl ?_)
  refine r_iconst (dc dkX0_copyFrom 22 rfl) (np 43 rfl ?_)
  refine r_aload_n (dc dkX0_copyFrom 23 rfl) rfl (np 44 rfl ?_)
  refine r_getR (dc dkX0_copyFrom 24 rfl) flX0_22 (fdBands_3 hk) (np 47 rfl ?_)
  refine r_iconst (dc dkX0_copyFrom 25 rfl) (np 48 rfl ?_)
  refine r_bipush (dc dkX0_copyFrom 26 rfl) bp_64 (np 50 rfl ?_)
  refine r_copyI (dc dkX0_copyFrom 27 rfl) cpX0_25 (arBands_3 ho) (arBands_3 hk) (by omega) (Nat.le_of_ble_eq_true rfl) (Nat.le_of_ble_eq_true rfl) (np 53 rfl ?_)
  exact r_vret (dc dkX0_copyFrom 28 rfl) rfl ⟨rfl, fun c hc => by
      simp only [List.mem_cons, List.not_mem_nil, or_false, not_or] at hc
      simp only [jrow, if_neg hc.2.1, if_neg hc.2.2.1, if_neg hc.2.2.2]
      exact ju_off _ _ _ _ _ hc.1, by simp [jrow, ju], fun j q0 q1 => by
      have x1 : ¬ o + 1 = k := by omega
      simp [jrow, jcp, ju, q0, q1, x1], fun j q0 q1 => by
      have x1 : ¬ o + 2 = k := by omega
      have x2 : ¬ o + 2 = k + 1 := by omega
      simp [jrow, jcp, ju, q0, q1, x1, x2], fun j q0 q1 => by
      have x1 : ¬ o + 3 = k := by omega
      have x2 : ¬ o + 3 = k + 1 := by omega
      have x3 : ¬ o + 3 = k + 2 := by omega
      simp [jrow, jcp, ju, q0, q1, x1, x2, x3]⟩
