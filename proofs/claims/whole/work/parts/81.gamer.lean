/-! ===== the game in the reference ===== -/
def pkD (D : Int → Int) (p : Int) : Int := if 0 ≤ p ∧ p % 10 < D 0 ∧ p / 10 < D 1 then (if D (5 + p) = 0 then 1 else 0) else -1
theorem pkD_R (σ : jS) : pkR σ 113 = pkD (σ 113) := rfl
def fre (D : Int → Int) (a : Int) : Prop := (∀ k, 0 ≤ k → k < 2 * D 261 → ¬ D (262 + k) = a) ∧ pkD D a = 1
def mayL (D : Int → Int) (a b : Int) : Prop := ¬ a = b ∧ fre D a ∧ fre D b ∧ pts a b = 1 ∧ ∀ k, 0 ≤ k → k < D 261 → mt a b (D (262 + 2 * k)) (D (262 + 2 * k + 1)) = 0
def layD (D : Int → Int) (a b : Int) : Int → Int := fun j => if j = 261 then D 261 + 1 else if j = 262 + 2 * D 261 then a else if j = 262 + 2 * D 261 + 1 then b else D j
noncomputable def wnR : Nat → (Int → Int) → Int
  | 0, _ => -1
  | f + 1, D => (PL2 (fun i => i) (fun a b => mayL D a b ∧ wnR f (layD D a b) = -1) 100).headD (-1)
def eqG (m : Int) (D E : Int → Int) : Prop := ∀ j, (j < 262 + 2 * m ∨ 270 ≤ j) → E j = D j
/-- lines that lie well -/
def okGm (D : Int → Int) : Prop := cB 4 (D 261) ∧ (∀ k, 0 ≤ k → k < 2 * D 261 → pkD D (D (262 + k)) = 1) ∧ ∀ k l, 0 ≤ k → k < l → l < 2 * D 261 → ¬ D (262 + k) = D (262 + l)
theorem pkD_p {D : Int → Int} (h : cB 10 (D 0) ∧ cB 10 (D 1)) {p : Int} (hp : pkD D p = 1) : isPg p := by
  unfold pkD at hp
  split at hp
  · omega
  · omega
theorem pkD_c {D E : Int → Int} (h : ∀ j, j < 262 → E j = D j) {p : Int} : cB 10 (D 0) → cB 10 (D 1) → pkD E p = pkD D p := by
  intro w0 w1
  unfold pkD
  rw [h 0 (by decide), h 1 (by decide)]
  split
  · rw [h (5 + p) (by omega)]
  · rfl
theorem fre_c {D E : Int → Int} (w0 : cB 10 (D 0)) (w1 : cB 10 (D 1)) (hm : cB 4 (D 261)) (h : eqG (D 261) D E) {a : Int} : fre E a ↔ fre D a := by
  unfold fre
  rw [h 261 (by omega), pkD_c (D := D) (E := E) (fun j hj => h j (by omega)) w0 w1]
  constructor
  · intro z; exact ⟨fun k k0 k1 => by rw [← h (262 + k) (by omega)]; exact z.1 k k0 k1, z.2⟩
  · intro z; exact ⟨fun k k0 k1 => by rw [h (262 + k) (by omega)]; exact z.1 k k0 k1, z.2⟩
theorem mayL_c {D E : Int → Int} (w0 : cB 10 (D 0)) (w1 : cB 10 (D 1)) (hm : cB 4 (D 261)) (h : eqG (D 261) D E) {a b : Int} : mayL E a b ↔ mayL D a b := by
  unfold mayL
  rw [fre_c w0 w1 hm h, fre_c w0 w1 hm h, h 261 (by omega)]
  constructor
  · intro z; exact ⟨z.1, z.2.1, z.2.2.1, z.2.2.2.1, fun k k0 k1 => by rw [← h (262 + 2 * k) (by omega), ← h (262 + 2 * k + 1) (by omega)]; exact z.2.2.2.2 k k0 k1⟩
  · intro z; exact ⟨z.1, z.2.1, z.2.2.1, z.2.2.2.1, fun k k0 k1 => by rw [h (262 + 2 * k) (by omega), h (262 + 2 * k + 1) (by omega)]; exact z.2.2.2.2 k k0 k1⟩
theorem nd_len {L : List Int} : ∀ {M : List Int}, L.Nodup → (∀ x ∈ L, x ∈ M) → L.length ≤ M.length := by
  induction L with
  | nil => intro M _ _; exact Nat.zero_le _
  | cons x L ih =>
    intro M h hs
    rw [List.nodup_cons] at h
    have hx := hs x (List.mem_cons_self ..)
    have := ih (M := M.erase x) h.2 (fun y hy => (List.mem_erase_of_ne (a := y) (b := x) (fun e => h.1 (e ▸ hy))).mpr (hs y (List.mem_cons_of_mem _ hy)))
    rw [List.length_erase_of_mem hx] at this
    have hp := List.length_pos_of_mem hx
    rw [List.length_cons]
    omega
theorem pgL_in {pk : Int → Int} {a : Int} (ha : 0 ≤ a ∧ a < 100) (h : pk a = 1) : a ∈ pgL pk := by
  obtain ⟨R, hR⟩ := fl_pre (f := fun a => lif (pk a = 1) [a]) ha.1 ha.2
  unfold pgL
  rw [← hR, lif_t h]
  simp
theorem gm_lt {D : Int → Int} (w0 : cB 10 (D 0)) (w1 : cB 10 (D 1)) (h : okGm D) (hp : pgN (pkD D) ≤ 9) {a b : Int} (hm : mayL D a b) : D 261 < 4 ∧ isPg a ∧ isPg b := by
  have pa := pkD_p ⟨w0, w1⟩ hm.2.1.2
  have pb := pkD_p ⟨w0, w1⟩ hm.2.2.1.2
  refine ⟨?_, pa, pb⟩
  have hd : (a :: b :: (List.range (2 * D 261).toNat).map (fun k : Nat => D (262 + (k : Int)))).Nodup := by
    rw [List.nodup_cons, List.nodup_cons]
    refine ⟨?_, ?_, ?_⟩
    · intro z
      rw [List.mem_cons, List.mem_map] at z
      rcases z with z | ⟨k, hk, e⟩
      · exact hm.1 z
      · rw [List.mem_range] at hk
        exact hm.2.1.1 k (by omega) (by omega) e
    · intro z
      rw [List.mem_map] at z
      obtain ⟨k, hk, e⟩ := z
      rw [List.mem_range] at hk
      exact hm.2.2.1.1 k (by omega) (by omega) e
    · show List.Pairwise _ _
      rw [List.pairwise_map]
      refine List.Pairwise.imp_of_mem ?_ List.pairwise_lt_range
      intro k l hk hl kl
      rw [List.mem_range] at hk hl
      exact h.2.2 k l (by omega) (by omega) (by omega)
  have := nd_len (M := pgL (pkD D)) hd (fun x hx => by
    rw [List.mem_cons, List.mem_cons, List.mem_map] at hx
    rcases hx with hx | hx | ⟨k, hk, e⟩
    · rw [hx]; exact pgL_in (by omega) hm.2.1.2
    · rw [hx]; exact pgL_in (by omega) hm.2.2.1.2
    · rw [List.mem_range] at hk
      have q := h.2.1 k (by omega) (by omega)
      rw [e] at q
      exact pgL_in (by have := pkD_p ⟨w0, w1⟩ q; omega) q)
  rw [List.length_cons, List.length_cons, List.length_map, List.length_range] at this
  unfold pgN at hp
  have := h.1
  omega
theorem layD_low {D : Int → Int} {a b : Int} (hm : cB 4 (D 261)) : ∀ j, j < 261 → layD D a b j = D j := fun j hj => by
  unfold layD
  rw [if_neg (by omega), if_neg (by omega), if_neg (by omega)]
theorem pkD_l {D : Int → Int} (w0 : cB 10 (D 0)) (w1 : cB 10 (D 1)) (hm : cB 4 (D 261)) (a b : Int) : pkD (layD D a b) = pkD D := by
  funext p
  unfold pkD
  rw [layD_low hm 0 (by decide), layD_low hm 1 (by decide)]
  split
  · rw [layD_low hm (5 + p) (by omega)]
  · rfl
theorem gm_lay {D : Int → Int} (w0 : cB 10 (D 0)) (w1 : cB 10 (D 1)) (h : okGm D) (hp : pgN (pkD D) ≤ 9) {a b : Int} (hm : mayL D a b) : okGm (layD D a b) := by
  have l4 := (gm_lt w0 w1 h hp hm).1
  have m4 := h.1
  have e1 : layD D a b 261 = D 261 + 1 := by unfold layD; rw [if_pos rfl]
  have e2 : layD D a b (262 + 2 * D 261) = a := by unfold layD; rw [if_neg (by omega), if_pos rfl]
  have e3 : layD D a b (262 + 2 * D 261 + 1) = b := by unfold layD; rw [if_neg (by omega), if_neg (by omega), if_pos rfl]
  have e4 : ∀ k, 0 ≤ k → k < 2 * D 261 → layD D a b (262 + k) = D (262 + k) := fun k k0 k1 => by unfold layD; rw [if_neg (by omega), if_neg (by omega), if_neg (by omega)]
  unfold okGm
  rw [e1, pkD_l w0 w1 m4]
  refine ⟨by omega, fun k k0 k1 => ?_, fun k l k0 kl l1 => ?_⟩
  · rcases (show k < 2 * D 261 ∨ k = 2 * D 261 ∨ k = 2 * D 261 + 1 by omega) with c | c | c
    · rw [e4 k k0 c]; exact h.2.1 k k0 c
    · rw [c, e2]; exact hm.2.1.2
    · rw [c, show 262 + (2 * D 261 + 1) = 262 + 2 * D 261 + 1 by omega, e3]; exact hm.2.2.1.2
  · rcases (show l < 2 * D 261 ∨ (l = 2 * D 261 ∧ k < 2 * D 261) ∨ (l = 2 * D 261 + 1 ∧ k < 2 * D 261) ∨ (l = 2 * D 261 + 1 ∧ k = 2 * D 261) by omega) with c | c | c | c
    · rw [e4 k k0 (by omega), e4 l (by omega) c]; exact h.2.2 k l k0 kl c
    · rw [e4 k k0 c.2, c.1, e2]; exact hm.2.1.1 k k0 c.2
    · rw [e4 k k0 c.2, c.1, show 262 + (2 * D 261 + 1) = 262 + 2 * D 261 + 1 by omega, e3]; exact hm.2.2.1.1 k k0 c.2
    · rw [c.2, e2, c.1, show 262 + (2 * D 261 + 1) = 262 + 2 * D 261 + 1 by omega, e3]; exact hm.1
theorem eqG_lay {D E : Int → Int} (hm : cB 4 (D 261)) (h : eqG (D 261) D E) (a b : Int) : eqG (layD D a b 261) (layD D a b) (layD E a b) := by
  have e1 : layD D a b 261 = D 261 + 1 := by unfold layD; rw [if_pos rfl]
  intro j hj
  rw [e1] at hj
  unfold layD
  rw [h 261 (by omega)]
  by_cases c1 : j = 261
  · rw [if_pos c1, if_pos c1]
  · rw [if_neg c1, if_neg c1]
    by_cases c2 : j = 262 + 2 * D 261
    · rw [if_pos c2, if_pos c2]
    · rw [if_neg c2, if_neg c2]
      by_cases c3 : j = 262 + 2 * D 261 + 1
      · rw [if_pos c3, if_pos c3]
      · rw [if_neg c3, if_neg c3]
        exact h j (by omega)
theorem wnR_c (f : Nat) : ∀ {D E : Int → Int}, cB 10 (D 0) → cB 10 (D 1) → okGm D → pgN (pkD D) ≤ 9 → eqG (D 261) D E → wnR f E = wnR f D := by
  induction f with
  | zero => intro D E _ _ _ _ _; rw [wnR, wnR]
  | succ f ih =>
    intro D E w0 w1 hg hp h
    have hm := hg.1
    rw [wnR, wnR]
    rw [PL2_c (pl := fun i => i) (pl' := fun i => i) (Q := fun a b => mayL E a b ∧ wnR f (layD E a b) = -1) (Q' := fun a b => mayL D a b ∧ wnR f (layD D a b) = -1) (fun _ _ _ => rfl) (fun a b _ _ _ => ?_)]
    rw [mayL_c w0 w1 hm h]
    constructor
    · intro z
      refine ⟨z.1, ?_⟩
      rw [← ih (D := layD D a b) (E := layD E a b) (by rw [layD_low hm 0 (by decide)]; exact w0) (by rw [layD_low hm 1 (by decide)]; exact w1) (gm_lay w0 w1 hg hp z.1) (by rw [pkD_l w0 w1 hm]; exact hp) (eqG_lay hm h a b)]
      exact z.2
    · intro z
      refine ⟨z.1, ?_⟩
      rw [ih (D := layD D a b) (E := layD E a b) (by rw [layD_low hm 0 (by decide)]; exact w0) (by rw [layD_low hm 1 (by decide)]; exact w1) (gm_lay w0 w1 hg hp z.1) (by rw [pkD_l w0 w1 hm]; exact hp) (eqG_lay hm h a b)]
      exact z.2
theorem okN_g {σ τ : jS} (h : okN σ) (e : ∀ j, j < 261 → τ 113 j = σ 113 j) : okN τ := by
  have m8 := h.1.2.2.2.2.1
  have e4 := e 4 (by decide)
  refine ⟨⟨?_, ?_, ?_, ?_, ?_, ?_⟩, fun b b0 b1 => ?_⟩
  · rw [e 0 (by decide)]; exact h.1.1
  · rw [e 1 (by decide)]; exact h.1.2.1
  · rw [e 2 (by decide)]; exact h.1.2.2.1
  · rw [e 3 (by decide)]; exact h.1.2.2.2.1
  · rw [e4]; exact m8
  · intro j j0 j1
    rw [e (5 + j) (by omega)]; exact h.1.2.2.2.2.2 j j0 j1
  · rw [e4] at b1
    have g := h.2 b b0 b1
    have g8 := g.1
    have ec : cn τ 113 b = cn σ 113 b := by unfold cn; exact e _ (by omega)
    refine ⟨by rw [ec]; exact g8, fun i i0 i1 => ?_⟩
    rw [ec] at i1
    have := g.2 i i0 i1
    unfold xa ya at *
    rw [e (105 + 17 * b + 1 + 2 * i) (by omega), e (105 + 17 * b + 2 + 2 * i) (by omega)]
    exact this
set_option maxRecDepth 100000 in
set_option maxHeartbeats 4000000 in
theorem c_X13_isSmall {σ : jS} (hN : okN σ) : Jp 1 miX13_isSmall [.ref 111] σ (vI (bI (0 < σ 113 0 ∧ σ 113 0 * σ 113 1 - σ 113 3 ≤ 9))) := by
  have w0 := hN.1.1
  have w1 := hN.1.2.1
  have o3 := hN.1.2.2.2.1
  have rm := mulb (a := σ 113 0) (b := σ 113 1) (A := 10) (B := 10) (by omega) (by omega) (by omega) (by omega)
  refine jm_ofF (Po := (jP (vI (bI (0 < σ 113 0 ∧ σ 113 0 * σ 113 1 - σ 113 3 ≤ 9))) σ)) (plainFor_of_name (by decide)) (Nat.le_of_ble_eq_true rfl) (lv := [(0, _)]) rfl ?_
  refine r_aload_n (dc dkX13_isSmall 0 rfl) rfl (np 1 rfl ?_)
  refine r_getR (dc dkX13_isSmall 1 rfl) flX13_13 fd_111_15 (np 4 rfl ?_)
  refine r_iconst (dc dkX13_isSmall 2 rfl) (np 5 rfl ?_)
  refine r_iald (dc dkX13_isSmall 3 rfl) ar_113 (by omega) (np 6 rfl ?_)
  refine r_if_le (tgt := 38) (dc dkX13_isSmall 4 rfl) rfl (by first | assumption | decide | omega) (fun h6 => ?_) (fun h6 => (np 9 rfl ?_))
  · skip
    refine r_iconst (dc dkX13_isSmall 23 rfl) (np 39 rfl ?_)
    exact r_zret (dc dkX13_isSmall 24 rfl) rfl (by first | exact Or.inl rfl | exact Or.inr rfl) ⟨congrArg (fun z => some (vI z)) (by first | exact bT (by omega) | exact bF (by omega)), rfl⟩
  refine r_aload_n (dc dkX13_isSmall 5 rfl) rfl (np 10 rfl ?_)
  refine r_getR (dc dkX13_isSmall 6 rfl) flX13_13 fd_111_15 (np 13 rfl ?_)
  refine r_iconst (dc dkX13_isSmall 7 rfl) (np 14 rfl ?_)
  refine r_iald (dc dkX13_isSmall 8 rfl) ar_113 (by omega) (np 15 rfl ?_)
  refine r_aload_n (dc dkX13_isSmall 9 rfl) rfl (np 16 rfl ?_)
  refine r_getR (dc dkX13_isSmall 10 rfl) flX13_13 fd_111_15 (np 19 rfl ?_)
  refine r_iconst (dc dkX13_isSmall 11 rfl) (np 20 rfl ?_)
  refine r_iald (dc dkX13_isSmall 12 rfl) ar_113 (by omega) (np 21 rfl ?_)
  refine r_imul (dc dkX13_isSmall 13 rfl) (np 22 rfl ?_)
  refine r_aload_n (dc dkX13_isSmall 14 rfl) rfl (np 23 rfl ?_)
  refine r_getR (dc dkX13_isSmall 15 rfl) flX13_13 fd_111_15 (np 26 rfl ?_)
  refine r_iconst (dc dkX13_isSmall 16 rfl) (np 27 rfl ?_)
  refine r_iald (dc dkX13_isSmall 17 rfl) ar_113 (by omega) (np 28 rfl ?_)
  refine r_isub (dc dkX13_isSmall 18 rfl) (np 29 rfl ?_)
  refine r_bipush (dc dkX13_isSmall 19 rfl) bp_9 (np 31 rfl ?_)
  refine r_icmp_gt (tgt := 38) (dc dkX13_isSmall 20 rfl) rfl (by first | assumption | decide | omega) (by first | assumption | decide | omega) (fun h31 => ?_) (fun h31 => (np 34 rfl ?_))
  · skip
    refine r_iconst (dc dkX13_isSmall 23 rfl) (np 39 rfl ?_)
    exact r_zret (dc dkX13_isSmall 24 rfl) rfl (by first | exact Or.inl rfl | exact Or.inr rfl) ⟨congrArg (fun z => some (vI z)) (by first | exact bT (by omega) | exact bF (by omega)), rfl⟩
  refine r_iconst (dc dkX13_isSmall 21 rfl) (np 35 rfl ?_)
  refine r_goto (tgt := 39) (dc dkX13_isSmall 22 rfl) rfl ?_
  exact r_zret (dc dkX13_isSmall 24 rfl) rfl (by first | exact Or.inl rfl | exact Or.inr rfl) ⟨congrArg (fun z => some (vI z)) (by first | exact bT (by omega) | exact bF (by omega)), rfl⟩
set_option maxRecDepth 100000 in
set_option maxHeartbeats 4000000 in
theorem c_X13_isFreeEnd {σ : jS} (hN : okN σ) (hg : okGm (σ 113)) {a : Int} (ha : iR a) : Jp 4 miX13_isFreeEnd [.ref 111, vI a] σ (vI (bI (fre (σ 113) a))) := by
  have w0 := hN.1.1
  have w1 := hN.1.2.1
  have g4 := hg.1
  refine jm_ofF (Po := (jP (vI (bI (fre (σ 113) a))) σ)) (plainFor_of_name (by decide)) (Nat.le_of_ble_eq_true rfl) (lv := [(0, _), (1, _)]) rfl ?_
  refine r_iconst (dc dkX13_isFreeEnd 0 rfl) (np 1 rfl ?_)
  refine r_istore_n (lv' := [(2, _), (0, _), (1, _)]) (dc dkX13_isFreeEnd 1 rfl) (Nat.le_of_ble_eq_true rfl) rfl (np 2 rfl ?_)
  refine r_pick [1, 2, 0] (lv' := [(0, _), (1, _), (2, _)]) rfl ?_
  refine jlp1 (P := fun (k : Int) => jR _ _ _ 2 [(0, .ref 111), (1, vI a), (2, vI k)] [] σ) (I := fun (k : Int) => (0 ≤ k ∧ k ≤ 2 * σ 113 261) ∧ ∀ j, 0 ≤ j → j < k → ¬ σ 113 (262 + j) = a) (fun (k : Int) => (2 * σ 113 261 - k).toNat) ?_ _ ⟨by omega, fun j j0 j1 => by omega⟩
  intro k hI2 ih2
  refine r_iload_n (dc dkX13_isFreeEnd 2 rfl) rfl (np 3 rfl ?_)
  refine r_iconst (dc dkX13_isFreeEnd 3 rfl) (np 4 rfl ?_)
  refine r_aload_n (dc dkX13_isFreeEnd 4 rfl) rfl (np 5 rfl ?_)
  refine r_getR (dc dkX13_isFreeEnd 5 rfl) flX13_13 fd_111_15 (np 8 rfl ?_)
  refine r_sipush (dc dkX13_isFreeEnd 6 rfl) sp_261 (np 11 rfl ?_)
  refine r_iald (dc dkX13_isFreeEnd 7 rfl) ar_113 (by omega) (np 12 rfl ?_)
  refine r_imul (dc dkX13_isFreeEnd 8 rfl) (np 13 rfl ?_)
  refine r_icmp_ge (tgt := 38) (dc dkX13_isFreeEnd 9 rfl) rfl (by first | assumption | decide | omega) (by first | assumption | decide | omega) (fun h13 => ?_) (fun h13 => (np 16 rfl ?_))
  · skip
    refine r_aload_n (dc dkX13_isFreeEnd 22 rfl) rfl (np 39 rfl ?_)
    refine r_iload_n (dc dkX13_isFreeEnd 23 rfl) rfl (np 40 rfl ?_)
    refine r_pV1 (y' := miX13_isAt) (dc dkX13_isFreeEnd 24 rfl) mlX13_282 ceX13_isAt ob_111 (Nat.le_of_ble_eq_true rfl) (Nat.le_of_ble_eq_true rfl) (c_X13_isAt hN ha) (np 43 rfl ?_)
    refine r_bz (tgt := 68) (dc dkX13_isFreeEnd 25 rfl) rfl (fun h43 => ?_) (fun h43 => (np 46 rfl ?_))
    · skip
      refine r_iconst (dc dkX13_isFreeEnd 38 rfl) (np 69 rfl ?_)
      exact r_zret (dc dkX13_isFreeEnd 39 rfl) rfl (by first | exact Or.inl rfl | exact Or.inr rfl) ⟨congrArg (fun z => some (vI z)) (by first | exact (bI_t ⟨fun j j0 j1 => hI2.2 j j0 (by omega), h61⟩).symm | exact (bI_f (fun z => h61 z.2)).symm | exact (bI_f (fun z => h43 (by have q := z.2; unfold pkD at q; split at q <;> omega))).symm), rfl⟩
    refine r_aload_n (dc dkX13_isFreeEnd 26 rfl) rfl (np 47 rfl ?_)
    refine r_getR (dc dkX13_isFreeEnd 27 rfl) flX13_13 fd_111_15 (np 50 rfl ?_)
    refine r_iload_n (dc dkX13_isFreeEnd 28 rfl) rfl (np 51 rfl ?_)
    refine r_bipush (dc dkX13_isFreeEnd 29 rfl) bp_10 (np 53 rfl ?_)
    refine r_iremn (dc dkX13_isFreeEnd 30 rfl) (by first | assumption | decide | omega) (by first | assumption | decide | omega) (np 54 rfl ?_)
    refine r_iload_n (dc dkX13_isFreeEnd 31 rfl) rfl (np 55 rfl ?_)
    refine r_bipush (dc dkX13_isFreeEnd 32 rfl) bp_10 (np 57 rfl ?_)
    refine r_idivn (dc dkX13_isFreeEnd 33 rfl) (by first | assumption | decide | omega) (by first | assumption | decide | omega) (np 58 rfl ?_)
    refine r_pS3 (y' := miX13_isPeg) (dc dkX13_isFreeEnd 34 rfl) mlX13_226 seX13_isPeg (Nat.le_of_ble_eq_true rfl) (Nat.le_of_ble_eq_true rfl) (c_X13_isPeg ar_113 (by decide) hN.1 (by omega) (by omega)) (np 61 rfl ?_)
    refine r_eqI _ (pkR_1 (σ := σ) rfl (by omega)) ?_
    refine r_bz (tgt := 68) (dc dkX13_isFreeEnd 35 rfl) rfl (fun h61 => ?_) (fun h61 => (np 64 rfl ?_))
    · skip
      refine r_iconst (dc dkX13_isFreeEnd 38 rfl) (np 69 rfl ?_)
      exact r_zret (dc dkX13_isFreeEnd 39 rfl) rfl (by first | exact Or.inl rfl | exact Or.inr rfl) ⟨congrArg (fun z => some (vI z)) (by first | exact (bI_t ⟨fun j j0 j1 => hI2.2 j j0 (by omega), h61⟩).symm | exact (bI_f (fun z => h61 z.2)).symm | exact (bI_f (fun z => h43 (by have q := z.2; unfold pkD at q; split at q <;> omega))).symm), rfl⟩
    refine r_iconst (dc dkX13_isFreeEnd 36 rfl) (np 65 rfl ?_)
    refine r_goto (tgt := 69) (dc dkX13_isFreeEnd 37 rfl) rfl ?_
    exact r_zret (dc dkX13_isFreeEnd 39 rfl) rfl (by first | exact Or.inl rfl | exact Or.inr rfl) ⟨congrArg (fun z => some (vI z)) (by first | exact (bI_t ⟨fun j j0 j1 => hI2.2 j j0 (by omega), h61⟩).symm | exact (bI_f (fun z => h61 z.2)).symm | exact (bI_f (fun z => h43 (by have q := z.2; unfold pkD at q; split at q <;> omega))).symm), rfl⟩
  have pk1 := pkD_p ⟨w0, w1⟩ (hg.2.1 k (by omega) (by omega))
  refine r_aload_n (dc dkX13_isFreeEnd 10 rfl) rfl (np 17 rfl ?_)
  refine r_getR (dc dkX13_isFreeEnd 11 rfl) flX13_13 fd_111_15 (np 20 rfl ?_)
  refine r_sipush (dc dkX13_isFreeEnd 12 rfl) sp_262 (np 23 rfl ?_)
  refine r_iload_n (dc dkX13_isFreeEnd 13 rfl) rfl (np 24 rfl ?_)
  refine r_iadd (dc dkX13_isFreeEnd 14 rfl) (np 25 rfl ?_)
  refine r_iald (dc dkX13_isFreeEnd 15 rfl) ar_113 (by omega) (np 26 rfl ?_)
  refine r_iload_n (dc dkX13_isFreeEnd 16 rfl) rfl (np 27 rfl ?_)
  refine r_icmp_ne (tgt := 32) (dc dkX13_isFreeEnd 17 rfl) rfl (by first | assumption | decide | omega) (by first | assumption | decide | omega) (fun h27 => ?_) (fun h27 => (np 30 rfl ?_))
  · skip
    refine r_iinc (lv' := [(2, _), (0, _), (1, _)]) (dc dkX13_isFreeEnd 20 rfl) (Nat.le_of_ble_eq_true rfl) rfl rfl (np 35 rfl ?_)
    refine r_goto (tgt := 2) (dc dkX13_isFreeEnd 21 rfl) rfl ?_
    refine r_pick [1, 2, 0] rfl ?_
    exact ih2 _ ⟨by omega, fun j j0 j1 => by rcases (show j < k ∨ j = k by omega) with z | z; exact hI2.2 j j0 z; subst z; exact h27⟩ (by omega)
  refine r_iconst (dc dkX13_isFreeEnd 18 rfl) (np 31 rfl ?_)
  exact r_zret (dc dkX13_isFreeEnd 19 rfl) rfl (by first | exact Or.inl rfl | exact Or.inr rfl) ⟨congrArg (fun z => some (vI z)) ((bI_f (fun z => z.1 k (by omega) (by omega) h27)).symm), rfl⟩
set_option maxRecDepth 100000 in
set_option maxHeartbeats 4000000 in
theorem c_X13_mayLay {σ : jS} (hN : okN σ) (hg : okGm (σ 113)) {a b : Int} (ha : iR a) (hb : iR b) : Jp 5 miX13_mayLay [.ref 111, vI a, vI b] σ (vI (bI (mayL (σ 113) a b))) := by
  have w0 := hN.1.1
  have w1 := hN.1.2.1
  have g4 := hg.1
  refine jm_ofF (Po := (jP (vI (bI (mayL (σ 113) a b))) σ)) (plainFor_of_name (by decide)) (Nat.le_of_ble_eq_true rfl) (lv := [(0, _), (1, _), (2, _)]) rfl ?_
  refine r_iload_n (dc dkX13_mayLay 0 rfl) rfl (np 1 rfl ?_)
  refine r_iload_n (dc dkX13_mayLay 1 rfl) rfl (np 2 rfl ?_)
  refine r_icmp_eq (tgt := 46) (dc dkX13_mayLay 2 rfl) rfl (by first | assumption | decide | omega) (by first | assumption | decide | omega) (fun h2 => ?_) (fun h2 => (np 5 rfl ?_))
  · skip
    refine r_iconst (dc dkX13_mayLay 28 rfl) (np 47 rfl ?_)
    exact r_zret (dc dkX13_mayLay 29 rfl) rfl (by first | exact Or.inl rfl | exact Or.inr rfl) ⟨congrArg (fun z => some (vI z)) (bF (fun z => by first | exact z.1 h2 | exact h10 z.2.1 | exact h18 z.2.2.1 | exact h43 z.2.2.2.1)), rfl⟩
  refine r_aload_n (dc dkX13_mayLay 3 rfl) rfl (np 6 rfl ?_)
  refine r_iload_n (dc dkX13_mayLay 4 rfl) rfl (np 7 rfl ?_)
  refine r_pV1 (y' := miX13_isFreeEnd) (dc dkX13_mayLay 5 rfl) mlX13_432 ceX13_isFreeEnd ob_111 (Nat.le_of_ble_eq_true rfl) (Nat.le_of_ble_eq_true rfl) (c_X13_isFreeEnd hN hg ha) (np 10 rfl ?_)
  refine r_bz (tgt := 46) (dc dkX13_mayLay 6 rfl) rfl (fun h10 => ?_) (fun h10 => (np 13 rfl ?_))
  · skip
    refine r_iconst (dc dkX13_mayLay 28 rfl) (np 47 rfl ?_)
    exact r_zret (dc dkX13_mayLay 29 rfl) rfl (by first | exact Or.inl rfl | exact Or.inr rfl) ⟨congrArg (fun z => some (vI z)) (bF (fun z => by first | exact z.1 h2 | exact h10 z.2.1 | exact h18 z.2.2.1 | exact h43 z.2.2.2.1)), rfl⟩
  refine r_aload_n (dc dkX13_mayLay 7 rfl) rfl (np 14 rfl ?_)
  refine r_iload_n (dc dkX13_mayLay 8 rfl) rfl (np 15 rfl ?_)
  refine r_pV1 (y' := miX13_isFreeEnd) (dc dkX13_mayLay 9 rfl) mlX13_432 ceX13_isFreeEnd ob_111 (Nat.le_of_ble_eq_true rfl) (Nat.le_of_ble_eq_true rfl) (c_X13_isFreeEnd hN hg hb) (np 18 rfl ?_)
  refine r_bz (tgt := 46) (dc dkX13_mayLay 10 rfl) rfl (fun h18 => ?_) (fun h18 => (np 21 rfl ?_))
  · skip
    refine r_iconst (dc dkX13_mayLay 28 rfl) (np 47 rfl ?_)
    exact r_zret (dc dkX13_mayLay 29 rfl) rfl (by first | exact Or.inl rfl | exact Or.inr rfl) ⟨congrArg (fun z => some (vI z)) (bF (fun z => by first | exact z.1 h2 | exact h10 z.2.1 | exact h18 z.2.2.1 | exact h43 z.2.2.2.1)), rfl⟩
  have pa := pkD_p ⟨w0, w1⟩ h10.2
  have pb := pkD_p ⟨w0, w1⟩ h18.2
  have tb := pts_b pa pb
  refine r_iload_n (dc dkX13_mayLay 11 rfl) rfl (np 22 rfl ?_)
  refine r_bipush (dc dkX13_mayLay 12 rfl) bp_10 (np 24 rfl ?_)
  refine r_iremn (dc dkX13_mayLay 13 rfl) (by first | assumption | decide | omega) (by first | assumption | decide | omega) (np 25 rfl ?_)
  refine r_iload_n (dc dkX13_mayLay 14 rfl) rfl (np 26 rfl ?_)
  refine r_bipush (dc dkX13_mayLay 15 rfl) bp_10 (np 28 rfl ?_)
  refine r_iremn (dc dkX13_mayLay 16 rfl) (by first | assumption | decide | omega) (by first | assumption | decide | omega) (np 29 rfl ?_)
  refine r_isub (dc dkX13_mayLay 17 rfl) (np 30 rfl ?_)
  refine r_iload_n (dc dkX13_mayLay 18 rfl) rfl (np 31 rfl ?_)
  refine r_bipush (dc dkX13_mayLay 19 rfl) bp_10 (np 33 rfl ?_)
  refine r_idivn (dc dkX13_mayLay 20 rfl) (by first | assumption | decide | omega) (by first | assumption | decide | omega) (np 34 rfl ?_)
  refine r_iload_n (dc dkX13_mayLay 21 rfl) rfl (np 35 rfl ?_)
  refine r_bipush (dc dkX13_mayLay 22 rfl) bp_10 (np 37 rfl ?_)
  refine r_idivn (dc dkX13_mayLay 23 rfl) (by first | assumption | decide | omega) (by first | assumption | decide | omega) (np 38 rfl ?_)
  refine r_isub (dc dkX13_mayLay 24 rfl) (np 39 rfl ?_)
  refine r_pS2 (y' := miX13_common) (dc dkX13_mayLay 25 rfl) mlX13_295 seX13_common (Nat.le_of_ble_eq_true rfl) (Nat.le_of_ble_eq_true rfl) (c_X13_common (by omega) (by omega)) (np 42 rfl ?_)
  refine r_eqI (pts a b) rfl ?_
  refine r_iconst (dc dkX13_mayLay 26 rfl) (np 43 rfl ?_)
  refine r_icmp_eq (tgt := 48) (dc dkX13_mayLay 27 rfl) rfl (by first | assumption | decide | omega) (by first | assumption | decide | omega) (fun h43 => ?_) (fun h43 => (np 46 rfl ?_))
  · skip
    refine r_iconst (dc dkX13_mayLay 30 rfl) (np 49 rfl ?_)
    refine r_istore_n (lv' := [(3, _), (0, _), (1, _), (2, _)]) (dc dkX13_mayLay 31 rfl) (Nat.le_of_ble_eq_true rfl) rfl (np 50 rfl ?_)
    refine r_pick [1, 2, 3, 0] (lv' := [(0, _), (1, _), (2, _), (3, _)]) rfl ?_
    refine jlp1 (P := fun (k : Int) => jR _ _ _ 50 [(0, .ref 111), (1, vI a), (2, vI b), (3, vI k)] [] σ) (I := fun (k : Int) => (0 ≤ k ∧ k ≤ σ 113 261) ∧ ∀ j, 0 ≤ j → j < k → mt a b (σ 113 (262 + 2 * j)) (σ 113 (262 + 2 * j + 1)) = 0) (fun (k : Int) => (σ 113 261 - k).toNat) ?_ _ ⟨by omega, fun j j0 j1 => by omega⟩
    intro k hI50 ih50
    refine r_iload_n (dc dkX13_mayLay 32 rfl) rfl (np 51 rfl ?_)
    refine r_aload_n (dc dkX13_mayLay 33 rfl) rfl (np 52 rfl ?_)
    refine r_getR (dc dkX13_mayLay 34 rfl) flX13_13 fd_111_15 (np 55 rfl ?_)
    refine r_sipush (dc dkX13_mayLay 35 rfl) sp_261 (np 58 rfl ?_)
    refine r_iald (dc dkX13_mayLay 36 rfl) ar_113 (by omega) (np 59 rfl ?_)
    refine r_icmp_ge (tgt := 142) (dc dkX13_mayLay 37 rfl) rfl (by first | assumption | decide | omega) (by first | assumption | decide | omega) (fun h59 => ?_) (fun h59 => (np 62 rfl ?_))
    · skip
      refine r_iconst (dc dkX13_mayLay 88 rfl) (np 143 rfl ?_)
      exact r_zret (dc dkX13_mayLay 89 rfl) rfl (by first | exact Or.inl rfl | exact Or.inr rfl) ⟨congrArg (fun z => some (vI z)) ((bI_t ⟨h2, h10, h18, h43, fun j j0 j1 => hI50.2 j j0 (by omega)⟩).symm), rfl⟩
    have p1 := pkD_p ⟨w0, w1⟩ (hg.2.1 (2 * k) (by omega) (by omega))
    have p2 := pkD_p ⟨w0, w1⟩ (hg.2.1 (2 * k + 1) (by omega) (by omega))
    have mb := mt_b a b (σ 113 (262 + 2 * k)) (σ 113 (262 + 2 * k + 1))
    rw [show 262 + (2 * k + 1) = 262 + 2 * k + 1 by omega] at p2
    refine r_aload_n (dc dkX13_mayLay 38 rfl) rfl (np 63 rfl ?_)
    refine r_getR (dc dkX13_mayLay 39 rfl) flX13_13 fd_111_15 (np 66 rfl ?_)
    refine r_sipush (dc dkX13_mayLay 40 rfl) sp_262 (np 69 rfl ?_)
    refine r_iconst (dc dkX13_mayLay 41 rfl) (np 70 rfl ?_)
    refine r_iload_n (dc dkX13_mayLay 42 rfl) rfl (np 71 rfl ?_)
    refine r_imul (dc dkX13_mayLay 43 rfl) (np 72 rfl ?_)
    refine r_iadd (dc dkX13_mayLay 44 rfl) (np 73 rfl ?_)
    refine r_iald (dc dkX13_mayLay 45 rfl) ar_113 (by omega) (np 74 rfl ?_)
    refine r_istore (lv' := [(4, _), (0, _), (1, _), (2, _), (3, _)]) (dc dkX13_mayLay 46 rfl) (Nat.le_of_ble_eq_true rfl) rfl (np 76 rfl ?_)
    refine r_aload_n (dc dkX13_mayLay 47 rfl) rfl (np 77 rfl ?_)
    refine r_getR (dc dkX13_mayLay 48 rfl) flX13_13 fd_111_15 (np 80 rfl ?_)
    refine r_sipush (dc dkX13_mayLay 49 rfl) sp_262 (np 83 rfl ?_)
    refine r_iconst (dc dkX13_mayLay 50 rfl) (np 84 rfl ?_)
    refine r_iload_n (dc dkX13_mayLay 51 rfl) rfl (np 85 rfl ?_)
    refine r_imul (dc dkX13_mayLay 52 rfl) (np 86 rfl ?_)
    refine r_iadd (dc dkX13_mayLay 53 rfl) (np 87 rfl ?_)
    refine r_iconst (dc dkX13_mayLay 54 rfl) (np 88 rfl ?_)
    refine r_iadd (dc dkX13_mayLay 55 rfl) (np 89 rfl ?_)
    refine r_iald (dc dkX13_mayLay 56 rfl) ar_113 (by omega) (np 90 rfl ?_)
    refine r_istore (lv' := [(5, _), (4, _), (0, _), (1, _), (2, _), (3, _)]) (dc dkX13_mayLay 57 rfl) (Nat.le_of_ble_eq_true rfl) rfl (np 92 rfl ?_)
    refine r_iload_n (dc dkX13_mayLay 58 rfl) rfl (np 93 rfl ?_)
    refine r_bipush (dc dkX13_mayLay 59 rfl) bp_10 (np 95 rfl ?_)
    refine r_iremn (dc dkX13_mayLay 60 rfl) (by first | assumption | decide | omega) (by first | assumption | decide | omega) (np 96 rfl ?_)
    refine r_iload_n (dc dkX13_mayLay 61 rfl) rfl (np 97 rfl ?_)
    refine r_bipush (dc dkX13_mayLay 62 rfl) bp_10 (np 99 rfl ?_)
    refine r_idivn (dc dkX13_mayLay 63 rfl) (by first | assumption | decide | omega) (by first | assumption | decide | omega) (np 100 rfl ?_)
    refine r_iload_n (dc dkX13_mayLay 64 rfl) rfl (np 101 rfl ?_)
    refine r_bipush (dc dkX13_mayLay 65 rfl) bp_10 (np 103 rfl ?_)
    refine r_iremn (dc dkX13_mayLay 66 rfl) (by first | assumption | decide | omega) (by first | assumption | decide | omega) (np 104 rfl ?_)
    refine r_iload_n (dc dkX13_mayLay 67 rfl) rfl (np 105 rfl ?_)
    refine r_bipush (dc dkX13_mayLay 68 rfl) bp_10 (np 107 rfl ?_)
    refine r_idivn (dc dkX13_mayLay 69 rfl) (by first | assumption | decide | omega) (by first | assumption | decide | omega) (np 108 rfl ?_)
    refine r_iload (dc dkX13_mayLay 70 rfl) rfl (np 110 rfl ?_)
    refine r_bipush (dc dkX13_mayLay 71 rfl) bp_10 (np 112 rfl ?_)
    refine r_iremn (dc dkX13_mayLay 72 rfl) (by first | assumption | decide | omega) (by first | assumption | decide | omega) (np 113 rfl ?_)
    refine r_iload (dc dkX13_mayLay 73 rfl) rfl (np 115 rfl ?_)
    refine r_bipush (dc dkX13_mayLay 74 rfl) bp_10 (np 117 rfl ?_)
    refine r_idivn (dc dkX13_mayLay 75 rfl) (by first | assumption | decide | omega) (by first | assumption | decide | omega) (np 118 rfl ?_)
    refine r_iload (dc dkX13_mayLay 76 rfl) rfl (np 120 rfl ?_)
    refine r_bipush (dc dkX13_mayLay 77 rfl) bp_10 (np 122 rfl ?_)
    refine r_iremn (dc dkX13_mayLay 78 rfl) (by first | assumption | decide | omega) (by first | assumption | decide | omega) (np 123 rfl ?_)
    refine r_iload (dc dkX13_mayLay 79 rfl) rfl (np 125 rfl ?_)
    refine r_bipush (dc dkX13_mayLay 80 rfl) bp_10 (np 127 rfl ?_)
    refine r_idivn (dc dkX13_mayLay 81 rfl) (by first | assumption | decide | omega) (by first | assumption | decide | omega) (np 128 rfl ?_)
    refine r_pS8 (y' := miX13_meet) (dc dkX13_mayLay 82 rfl) mlX13_214 seX13_meet (Nat.le_of_ble_eq_true rfl) (Nat.le_of_ble_eq_true rfl) (c_X13_meet (by omega)) (np 131 rfl ?_)
    refine r_eqI (mt a b (σ 113 (262 + 2 * k)) (σ 113 (262 + 2 * k + 1))) rfl ?_
    refine r_if_le (tgt := 136) (dc dkX13_mayLay 83 rfl) rfl (by first | assumption | decide | omega) (fun h131 => ?_) (fun h131 => (np 134 rfl ?_))
    · skip
      refine r_iinc (lv' := [(3, _), (5, _), (4, _), (0, _), (1, _), (2, _)]) (dc dkX13_mayLay 86 rfl) (Nat.le_of_ble_eq_true rfl) rfl rfl (np 139 rfl ?_)
      refine r_goto (tgt := 50) (dc dkX13_mayLay 87 rfl) rfl ?_
      refine r_pick [3, 4, 5, 0] rfl ?_
      exact ih50 _ ⟨by omega, fun j j0 j1 => by rcases (show j < k ∨ j = k by omega) with z | z; exact hI50.2 j j0 z; subst z; omega⟩ (by omega)
    refine r_iconst (dc dkX13_mayLay 84 rfl) (np 135 rfl ?_)
    exact r_zret (dc dkX13_mayLay 85 rfl) rfl (by first | exact Or.inl rfl | exact Or.inr rfl) ⟨congrArg (fun z => some (vI z)) ((bI_f (fun z => by have := z.2.2.2.2 k (by omega) (by omega); omega)).symm), rfl⟩
  refine r_iconst (dc dkX13_mayLay 28 rfl) (np 47 rfl ?_)
  exact r_zret (dc dkX13_mayLay 29 rfl) rfl (by first | exact Or.inl rfl | exact Or.inr rfl) ⟨congrArg (fun z => some (vI z)) (bF (fun z => by first | exact z.1 h2 | exact h10 z.2.1 | exact h18 z.2.2.1 | exact h43 z.2.2.2.1)), rfl⟩
theorem ju_lay {σ : jS} {a b : Int} (hm : cB 3 (σ 113 261)) {τ : jS} (e : τ = ju (ju (ju σ 113 (262 + 2 * σ 113 261) a) 113 (262 + 2 * σ 113 261 + 1) b) 113 261 (σ 113 261 + 1)) : (∀ c, ¬ c = 113 → τ c = σ c) ∧ τ 113 = layD (σ 113) a b := by
  refine ⟨fun c hc => by rw [e, ju_off _ _ _ _ _ hc, ju_off _ _ _ _ _ hc, ju_off _ _ _ _ _ hc], ?_⟩
  funext j
  rw [e]
  unfold layD ju
  by_cases c1 : j = 261
  · rw [if_pos ⟨rfl, c1⟩, if_pos c1]
  · rw [if_neg (fun z => c1 z.2), if_neg c1]
    by_cases c3 : j = 262 + 2 * σ 113 261 + 1
    · rw [if_pos ⟨rfl, c3⟩, if_neg (by omega), if_pos c3]
    · rw [if_neg (fun z => c3 z.2)]
      by_cases c2 : j = 262 + 2 * σ 113 261
      · rw [if_pos ⟨rfl, c2⟩, if_pos c2]
      · rw [if_neg (fun z => c2 z.2), if_neg c2, if_neg c3]
set_option maxRecDepth 100000 in
set_option maxHeartbeats 4000000 in
theorem c_X13_layLine {σ : jS} (hm : cB 3 (σ 113 261)) {a b : Int} : Jm 1 miX13_layLine [.ref 111, vI a, vI b] σ (fun r τ => r = none ∧ (∀ c, ¬ c = 113 → τ c = σ c) ∧ τ 113 = layD (σ 113) a b) := by
  refine jm_ofF (Po := (fun r τ => r = none ∧ (∀ c, ¬ c = 113 → τ c = σ c) ∧ τ 113 = layD (σ 113) a b)) (plainFor_of_name (by decide)) (Nat.le_of_ble_eq_true rfl) (lv := [(0, _), (1, _), (2, _)]) rfl ?_
  refine r_aload_n (dc dkX13_layLine 0 rfl) rfl (np 1 rfl ?_)
  refine r_getR (dc dkX13_layLine 1 rfl) flX13_13 fd_111_15 (np 4 rfl ?_)
  refine r_sipush (dc dkX13_layLine 2 rfl) sp_262 (np 7 rfl ?_)
  refine r_iconst (dc dkX13_layLine 3 rfl) (np 8 rfl ?_)
  refine r_aload_n (dc dkX13_layLine 4 rfl) rfl (np 9 rfl ?_)
  refine r_getR (dc dkX13_layLine 5 rfl) flX13_13 fd_111_15 (np 12 rfl ?_)
  refine r_sipush (dc dkX13_layLine 6 rfl) sp_261 (np 15 rfl ?_)
  refine r_iald (dc dkX13_layLine 7 rfl) ar_113 (by omega) (np 16 rfl ?_)
  refine r_imul (dc dkX13_layLine 8 rfl) (np 17 rfl ?_)
  refine r_iadd (dc dkX13_layLine 9 rfl) (np 18 rfl ?_)
  refine r_iload_n (dc dkX13_layLine 10 rfl) rfl (np 19 rfl ?_)
  refine r_iast (dc dkX13_layLine 11 rfl) ar_113 (by omega) (np 20 rfl ?_)
  refine r_aload_n (dc dkX13_layLine 12 rfl) rfl (np 21 rfl ?_)
  refine r_getR (dc dkX13_layLine 13 rfl) flX13_13 fd_111_15 (np 24 rfl ?_)
  refine r_sipush (dc dkX13_layLine 14 rfl) sp_262 (np 27 rfl ?_)
  refine r_iconst (dc dkX13_layLine 15 rfl) (np 28 rfl ?_)
  refine r_aload_n (dc dkX13_layLine 16 rfl) rfl (np 29 rfl ?_)
  refine r_getR (dc dkX13_layLine 17 rfl) flX13_13 fd_111_15 (np 32 rfl ?_)
  refine r_sipush (dc dkX13_layLine 18 rfl) sp_261 (np 35 rfl ?_)
  refine r_iald (dc dkX13_layLine 19 rfl) ar_113 (by omega) (np 36 rfl ?_)
  refine r_eqI (σ 113 261) (ju_ne (by omega)) ?_
  refine r_imul (dc dkX13_layLine 20 rfl) (np 37 rfl ?_)
  refine r_iadd (dc dkX13_layLine 21 rfl) (np 38 rfl ?_)
  refine r_iconst (dc dkX13_layLine 22 rfl) (np 39 rfl ?_)
  refine r_iadd (dc dkX13_layLine 23 rfl) (np 40 rfl ?_)
  refine r_iload_n (dc dkX13_layLine 24 rfl) rfl (np 41 rfl ?_)
  refine r_iast (dc dkX13_layLine 25 rfl) ar_113 (by omega) (np 42 rfl ?_)
  refine r_aload_n (dc dkX13_layLine 26 rfl) rfl (np 43 rfl ?_)
  refine r_getR (dc dkX13_layLine 27 rfl) flX13_13 fd_111_15 (np 46 rfl ?_)
  refine r_sipush (dc dkX13_layLine 28 rfl) sp_261 (np 49 rfl ?_)
  refine r_dup2 (dc dkX13_layLine 29 rfl) ⟨rfl, rfl⟩ (np 50 rfl ?_)
  refine r_iald (dc dkX13_layLine 30 rfl) ar_113 (by omega) (np 51 rfl ?_)
  refine r_eqI (σ 113 261) (by rw [ju_ne (by omega), ju_ne (by omega)]) ?_
  refine r_iconst (dc dkX13_layLine 31 rfl) (np 52 rfl ?_)
  refine r_iadd (dc dkX13_layLine 32 rfl) (np 53 rfl ?_)
  refine r_iast (dc dkX13_layLine 33 rfl) ar_113 (by omega) (np 54 rfl ?_)
  exact r_vret (dc dkX13_layLine 34 rfl) rfl ⟨rfl, ju_lay hm rfl⟩
