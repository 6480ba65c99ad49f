def smR (D : Int → Int) : Prop := 0 < D 0 ∧ D 0 * D 1 - D 3 ≤ 9
theorem eqG_low {m : Int} {D E : Int → Int} (hm : 0 ≤ m) (h : eqG m D E) : ∀ j, j < 262 → E j = D j := fun j hj => h j (by omega)
/-- what the row of the board must be for the game to go on -/
def gmH (D : Int → Int) : Prop := cB 10 (D 0) ∧ cB 10 (D 1) ∧ okGm D ∧ pgN (pkD D) ≤ 9
theorem gmH_c {D E : Int → Int} (h : gmH D) (e : eqG (D 261) D E) : gmH E := by
  obtain ⟨w0, w1, hg, hp⟩ := h
  have m4 := hg.1
  have ep : pkD E = pkD D := by funext p; exact pkD_c (D := D) (fun j hj => e j (by omega)) w0 w1
  have e1 := e 261 (by omega)
  refine ⟨by rw [e 0 (by omega)]; exact w0, by rw [e 1 (by omega)]; exact w1, ⟨by rw [e1]; exact m4, fun k k0 k1 => ?_, fun k l k0 kl l1 => ?_⟩, by rw [ep]; exact hp⟩
  · rw [e1] at k1
    rw [ep, e (262 + k) (by omega)]; exact hg.2.1 k k0 k1
  · rw [e1] at l1
    rw [e (262 + k) (by omega), e (262 + l) (by omega)]; exact hg.2.2 k l k0 kl l1
theorem gmH_l {D : Int → Int} (h : gmH D) {a b : Int} (hm : mayL D a b) : gmH (layD D a b) := by
  obtain ⟨w0, w1, hg, hp⟩ := h
  have m4 := hg.1
  exact ⟨by rw [layD_low m4 0 (by decide)]; exact w0, by rw [layD_low m4 1 (by decide)]; exact w1, gm_lay w0 w1 hg hp hm, by rw [pkD_l w0 w1 m4]; exact hp⟩
def cWn (f : Nat) : Prop := ∀ {σ : jS}, okN σ → gmH (σ 113) → 5 ≤ (f : Int) + σ 113 261 → Jm (6 + f) miX13_winning [.ref 111] σ (fun r τ => r = some (vI (wnR f (σ 113))) ∧ (∀ c, ¬ c = 113 → τ c = σ c) ∧ eqG (σ 113 261) (σ 113) (τ 113))
theorem hd_at {T : List Int} {c : Int} (h : ([] : List Int) ++ [c] <+: T) : T.headD (-1) = c := by
  obtain ⟨R, rfl⟩ := h
  rfl
theorem wnR_b (f : Nat) (D : Int → Int) : iR (wnR f D) := by
  cases f with
  | zero => rw [wnR]; decide
  | succ f =>
    rw [wnR]
    generalize hL : PL2 (fun i => i) (fun a b => mayL D a b ∧ wnR f (layD D a b) = -1) 100 = L
    have hx : ∀ x ∈ L, iR x := by
      rw [← hL]
      intro x hx
      unfold PL2 F2 at hx
      have hf : ∀ (g : Int → List Int), (∀ i : Int, 0 ≤ i → i < 100 → ∀ x ∈ g i, iR x) → ∀ n : Nat, n ≤ 100 → ∀ x ∈ flN g n, iR x := by
        intro g h n
        induction n with
        | zero => intro _ x hx; simp [flN] at hx
        | succ n ih =>
          intro hn x hx
          rw [flN, List.mem_append] at hx
          rcases hx with hx | hx
          · exact ih (by omega) x hx
          · exact h n (by omega) (by omega) x hx
      refine hf _ (fun i i0 i1 => hf _ (fun j j0 j1 x hx => ?_) _ (Nat.le_refl _)) _ (Nat.le_refl _) x hx
      unfold H2 at hx
      by_cases c : (i < j ∧ mayL D i j ∧ wnR f (layD D i j) = -1)
      · rw [lif_t c] at hx
        simp at hx
        constructor <;> omega
      · rw [lif_f c] at hx
        simp at hx
    cases L with
    | nil => decide
    | cons y L => exact hx y (List.mem_cons_self ..)
set_option maxRecDepth 100000 in
set_option maxHeartbeats 4000000 in
theorem c_X13_line {σ : jS} (hN : okN σ) (hG : smR (σ 113) → gmH (σ 113)) (hg : okGm (σ 113)) {a b : Int} (ha : iR a) (hb : iR b) : Jm 6 miX13_line [.ref 111, vI a, vI b] σ (fun r τ => (smR (σ 113) ∧ mayL (σ 113) a b → r = some (vI 1) ∧ (∀ c, ¬ c = 111 → ¬ c = 113 → τ c = σ c) ∧ (∀ j, ¬ j = 0 → τ 111 j = σ 111 j) ∧ τ 111 0 = 0 ∧ τ 113 = layD (σ 113) a b) ∧ (¬ (smR (σ 113) ∧ mayL (σ 113) a b) → r = some (vI 0) ∧ τ = ju σ 111 0 0)) := by
  refine jm_ofF (Po := (fun r τ => (smR (σ 113) ∧ mayL (σ 113) a b → r = some (vI 1) ∧ (∀ c, ¬ c = 111 → ¬ c = 113 → τ c = σ c) ∧ (∀ j, ¬ j = 0 → τ 111 j = σ 111 j) ∧ τ 111 0 = 0 ∧ τ 113 = layD (σ 113) a b) ∧ (¬ (smR (σ 113) ∧ mayL (σ 113) a b) → r = some (vI 0) ∧ τ = ju σ 111 0 0))) (plainFor_of_name (by decide)) (Nat.le_of_ble_eq_true rfl) (lv := [(0, _), (1, _), (2, _)]) rfl ?_
  refine r_aload_n (dc dkX13_line 0 rfl) rfl (np 1 rfl ?_)
  refine r_iconst (dc dkX13_line 1 rfl) (np 2 rfl ?_)
  refine r_pI 0 (dc dkX13_line 2 rfl) fpX13_94 fd_111_0 rfl (np 5 rfl ?_)
  refine r_abs (fun ρ => ρ = ju σ 111 0 0) rfl ?_
  intro σ0 hσ0
  have e0 : σ0 113 = σ 113 := by rw [hσ0]; exact ju_off _ _ _ _ _ (by decide)
  have hN0 := okN_c hN e0
  have e4 : σ0 113 4 = σ 113 4 := by rw [e0]
  have ec : ∀ b, cn σ0 113 b = cn σ 113 b := cn_c e0
  have eP : ∀ b, rP σ0 113 b = rP σ 113 b := rP_c2 e0
  have m1 := hN.1.2.2.2.2.1
  have w1 := hN.1.1
  have w2 := hN.1.2.1
  have z0 : σ0 111 0 = 0 := by rw [hσ0, ju_at]
  have eS : (0 < σ0 113 0 ∧ σ0 113 0 * σ0 113 1 - σ0 113 3 ≤ 9) = smR (σ 113) := by rw [e0]; rfl
  have hg0 : okGm (σ0 113) := by rw [e0]; exact hg
  refine r_aload_n (dc dkX13_line 3 rfl) rfl (np 6 rfl ?_)
  refine r_pV0 (y' := miX13_isSmall) (dc dkX13_line 4 rfl) mlX13_435 ceX13_isSmall ob_111 (Nat.le_of_ble_eq_true rfl) (Nat.le_of_ble_eq_true rfl) (c_X13_isSmall hN0) (np 9 rfl ?_)
  rw [eS]
  refine r_bz (tgt := 21) (dc dkX13_line 5 rfl) rfl (fun h9 => ?_) (fun h9 => (np 12 rfl ?_))
  · skip
    refine r_iconst (dc dkX13_line 11 rfl) (np 22 rfl ?_)
    exact r_zret (dc dkX13_line 12 rfl) rfl (by first | exact Or.inl rfl | exact Or.inr rfl) ⟨fun w => by first | exact absurd w.1 h9 | exact absurd w.2 h18, fun _ => ⟨rfl, hσ0⟩⟩
  refine r_aload_n (dc dkX13_line 6 rfl) rfl (np 13 rfl ?_)
  refine r_iload_n (dc dkX13_line 7 rfl) rfl (np 14 rfl ?_)
  refine r_iload_n (dc dkX13_line 8 rfl) rfl (np 15 rfl ?_)
  refine r_pV2 (y' := miX13_mayLay) (dc dkX13_line 9 rfl) mlX13_438 ceX13_mayLay ob_111 (Nat.le_of_ble_eq_true rfl) (Nat.le_of_ble_eq_true rfl) (c_X13_mayLay hN0 hg0 ha hb) (np 18 rfl ?_)
  rw [e0]
  refine r_bn (tgt := 23) (dc dkX13_line 10 rfl) rfl (fun h18 => ?_) (fun h18 => (np 21 rfl ?_))
  · skip
    have gl := gm_lt (hG h9).1 (hG h9).2.1 hg (hG h9).2.2.2 h18
    refine r_aload_n (dc dkX13_line 13 rfl) rfl (np 24 rfl ?_)
    refine r_iload_n (dc dkX13_line 14 rfl) rfl (np 25 rfl ?_)
    refine r_iload_n (dc dkX13_line 15 rfl) rfl (np 26 rfl ?_)
    refine r_cV2 (y' := miX13_layLine) (dc dkX13_line 16 rfl) mlX13_441 ceX13_layLine ob_111 (Nat.le_of_ble_eq_true rfl) (Nat.le_of_ble_eq_true rfl) (c_X13_layLine (show cB 3 (σ0 113 261) by rw [e0]; have := hg.1; omega)) (fun r τ hp => (np 29 rfl ?_))
    obtain ⟨rfl, S, T⟩ := hp
    refine r_iconst (dc dkX13_line 17 rfl) (np 30 rfl ?_)
    exact r_zret (dc dkX13_line 18 rfl) rfl (by first | exact Or.inl rfl | exact Or.inr rfl) ⟨fun _ => ⟨rfl, fun c c1 c3 => by rw [S c c3, hσ0, ju_off _ _ _ _ _ c1], fun j hj => by rw [S 111 (by decide), hσ0, ju_ne (by omega)], by rw [S 111 (by decide), z0], by rw [T, e0]⟩, fun w => absurd ⟨h9, h18⟩ w⟩
  refine r_iconst (dc dkX13_line 11 rfl) (np 22 rfl ?_)
  exact r_zret (dc dkX13_line 12 rfl) rfl (by first | exact Or.inl rfl | exact Or.inr rfl) ⟨fun w => by first | exact absurd w.1 h9 | exact absurd w.2 h18, fun _ => ⟨rfl, hσ0⟩⟩
set_option maxRecDepth 100000 in
set_option maxHeartbeats 4000000 in
theorem c_X13_lines {σ : jS} (hN : okN σ) (hG : smR (σ 113) → gmH (σ 113)) (hg : okGm (σ 113)) {k : Int} (hk : iR k) : Jm 6 miX13_lines [.ref 111, vI k] σ (fun r τ => τ = ju σ 111 0 0 ∧ r = some (vI (gte (smR (σ 113)) (nthL (PL2 (fun i => i) (fun a b => mayL (σ 113) a b) 100) k) (-1)))) := by
  refine jm_ofF (Po := (fun r τ => τ = ju σ 111 0 0 ∧ r = some (vI (gte (smR (σ 113)) (nthL (PL2 (fun i => i) (fun a b => mayL (σ 113) a b) 100) k) (-1))))) (plainFor_of_name (by decide)) (Nat.le_of_ble_eq_true rfl) (lv := [(0, _), (1, _)]) rfl ?_
  refine r_aload_n (dc dkX13_lines 0 rfl) rfl (np 1 rfl ?_)
  refine r_iconst (dc dkX13_lines 1 rfl) (np 2 rfl ?_)
  refine r_pI 0 (dc dkX13_lines 2 rfl) fpX13_94 fd_111_0 rfl (np 5 rfl ?_)
  refine r_abs (fun ρ => ρ = ju σ 111 0 0) rfl ?_
  intro σ0 hσ0
  have e0 : σ0 113 = σ 113 := by rw [hσ0]; exact ju_off _ _ _ _ _ (by decide)
  have hN0 := okN_c hN e0
  have e4 : σ0 113 4 = σ 113 4 := by rw [e0]
  have ec : ∀ b, cn σ0 113 b = cn σ 113 b := cn_c e0
  have eP : ∀ b, rP σ0 113 b = rP σ 113 b := rP_c2 e0
  have m1 := hN.1.2.2.2.2.1
  have w1 := hN.1.1
  have w2 := hN.1.2.1
  have z0 : σ0 111 0 = 0 := by rw [hσ0, ju_at]
  have eS : (0 < σ0 113 0 ∧ σ0 113 0 * σ0 113 1 - σ0 113 3 ≤ 9) = smR (σ 113) := by rw [e0]; rfl
  have hg0 : okGm (σ0 113) := by rw [e0]; exact hg
  refine r_aload_n (dc dkX13_lines 3 rfl) rfl (np 6 rfl ?_)
  refine r_pV0 (y' := miX13_isSmall) (dc dkX13_lines 4 rfl) mlX13_435 ceX13_isSmall ob_111 (Nat.le_of_ble_eq_true rfl) (Nat.le_of_ble_eq_true rfl) (c_X13_isSmall hN0) (np 9 rfl ?_)
  rw [eS]
  refine r_bn (tgt := 14) (dc dkX13_lines 5 rfl) rfl (fun h9 => ?_) (fun h9 => (np 12 rfl ?_))
  · skip
    refine r_iconst (dc dkX13_lines 8 rfl) (np 15 rfl ?_)
    refine r_istore_n (lv' := [(2, _), (0, _), (1, _)]) (dc dkX13_lines 9 rfl) (Nat.le_of_ble_eq_true rfl) rfl (np 16 rfl ?_)
    refine r_iconst (dc dkX13_lines 10 rfl) (np 17 rfl ?_)
    refine r_istore_n (lv' := [(3, _), (2, _), (0, _), (1, _)]) (dc dkX13_lines 11 rfl) (Nat.le_of_ble_eq_true rfl) rfl (np 18 rfl ?_)
    refine r_pick [2, 3, 1, 0] (lv' := [(0, _), (1, _), (2, _), (3, _)]) rfl ?_
    refine jlp2 (P := fun (n : Int) (a : Int) => jR _ _ _ 18 [(0, .ref 111), (1, vI k), (2, vI n), (3, vI a)] [] σ0) (I := fun (n : Int) (a : Int) => (0 ≤ a ∧ a ≤ 100) ∧ n = (fl (F2 (fun i => i) (fun a b => mayL (σ 113) a b) 100) a).length ∧ ¬ (0 ≤ k ∧ k < n)) (fun (n : Int) (a : Int) => (100 - a).toNat) ?_ _ _ ⟨by omega, rfl, by omega⟩
    intro n a hI18 ih18
    refine r_iload_n (dc dkX13_lines 12 rfl) rfl (np 19 rfl ?_)
    refine r_bipush (dc dkX13_lines 13 rfl) bp_100 (np 21 rfl ?_)
    refine r_icmp_ge (tgt := 85) (dc dkX13_lines 14 rfl) rfl (by first | assumption | decide | omega) (by first | assumption | decide | omega) (fun h21 => ?_) (fun h21 => (np 24 rfl ?_))
    · skip
      refine r_iload_n (dc dkX13_lines 46 rfl) rfl (np 86 rfl ?_)
      refine r_iconst (dc dkX13_lines 47 rfl) (np 87 rfl ?_)
      refine r_icmp_ne (tgt := 94) (dc dkX13_lines 48 rfl) rfl (by first | assumption | decide | omega) (by first | assumption | decide | omega) (fun h87 => ?_) (fun h87 => (np 90 rfl ?_))
      · skip
        refine r_iconst (dc dkX13_lines 51 rfl) (np 95 rfl ?_)
        exact r_iret (dc dkX13_lines 52 rfl) rfl ⟨hσ0, congrArg (fun z => some (vI z)) (by rw [show a = 100 by omega] at hI18; rw [show gte (smR (σ 113)) (nthL (PL2 (fun i => i) (fun a b => mayL (σ 113) a b) 100) k) (-1) = nthL (PL2 (fun i => i) (fun a b => mayL (σ 113) a b) 100) k from gte_t h9, nthL_end (T := PL2 _ _ _) hI18.2.1 hI18.2.2]; first | (rw [if_pos (by omega)]; done) | (rw [if_neg (by omega)]; done))⟩
      refine r_iload_n (dc dkX13_lines 49 rfl) rfl (np 91 rfl ?_)
      refine r_goto (tgt := 95) (dc dkX13_lines 50 rfl) rfl ?_
      exact r_iret (dc dkX13_lines 52 rfl) rfl ⟨hσ0, congrArg (fun z => some (vI z)) (by rw [show a = 100 by omega] at hI18; rw [show gte (smR (σ 113)) (nthL (PL2 (fun i => i) (fun a b => mayL (σ 113) a b) 100) k) (-1) = nthL (PL2 (fun i => i) (fun a b => mayL (σ 113) a b) 100) k from gte_t h9, nthL_end (T := PL2 _ _ _) hI18.2.1 hI18.2.2]; first | (rw [if_pos (by omega)]; done) | (rw [if_neg (by omega)]; done))⟩
    refine r_iload_n (dc dkX13_lines 15 rfl) rfl (np 25 rfl ?_)
    refine r_iconst (dc dkX13_lines 16 rfl) (np 26 rfl ?_)
    refine r_iadd (dc dkX13_lines 17 rfl) (np 27 rfl ?_)
    refine r_istore (lv' := [(4, _), (0, _), (1, _), (2, _), (3, _)]) (dc dkX13_lines 18 rfl) (Nat.le_of_ble_eq_true rfl) rfl (np 29 rfl ?_)
    refine r_pick [1, 2, 3, 4, 0] (lv' := [(0, _), (1, _), (2, _), (3, _), (4, _)]) rfl ?_
    refine jlp2 (P := fun (n : Int) (b : Int) => jR _ _ _ 29 [(0, .ref 111), (1, vI k), (2, vI n), (3, vI a), (4, vI b)] [] σ0) (I := fun (n : Int) (b : Int) => (a + 1 ≤ b ∧ b ≤ 100) ∧ n = (fl (F2 (fun i => i) (fun a b => mayL (σ 113) a b) 100) a ++ fl (H2 (fun i => i) (fun a b => mayL (σ 113) a b) a) b).length ∧ ¬ (0 ≤ k ∧ k < n)) (fun (n : Int) (b : Int) => (100 - b).toNat) ?_ _ _ ⟨by omega, by rw [H2_0, List.append_nil]; exact hI18.2.1, hI18.2.2⟩
    intro n b hI29 ih29
    refine r_iload (dc dkX13_lines 19 rfl) rfl (np 31 rfl ?_)
    refine r_bipush (dc dkX13_lines 20 rfl) bp_100 (np 33 rfl ?_)
    refine r_icmp_ge (tgt := 79) (dc dkX13_lines 21 rfl) rfl (by first | assumption | decide | omega) (by first | assumption | decide | omega) (fun h33 => ?_) (fun h33 => (np 36 rfl ?_))
    · skip
      refine r_iinc (lv' := [(3, _), (0, _), (1, _), (2, _), (4, _)]) (dc dkX13_lines 44 rfl) (Nat.le_of_ble_eq_true rfl) rfl rfl (np 82 rfl ?_)
      refine r_goto (tgt := 18) (dc dkX13_lines 45 rfl) rfl ?_
      refine r_pick [1, 2, 3, 0] rfl ?_
      exact ih18 _ _ ⟨by omega, by rw [fl_s _ (by omega)]; rw [show b = 100 by omega] at hI29; exact hI29.2.1, hI29.2.2⟩ (by omega)
    refine r_aload_n (dc dkX13_lines 22 rfl) rfl (np 37 rfl ?_)
    refine r_iload_n (dc dkX13_lines 23 rfl) rfl (np 38 rfl ?_)
    refine r_pV1 (y' := miX13_isAt) (dc dkX13_lines 24 rfl) mlX13_282 ceX13_isAt ob_111 (Nat.le_of_ble_eq_true rfl) (Nat.le_of_ble_eq_true rfl) (c_X13_isAt hN0 (by omega)) (np 41 rfl ?_)
    refine r_bz (tgt := 73) (dc dkX13_lines 25 rfl) rfl (fun h41 => ?_) (fun h41 => (np 44 rfl ?_))
    · skip
      refine r_iinc (lv' := [(4, _), (0, _), (1, _), (2, _), (3, _)]) (dc dkX13_lines 42 rfl) (Nat.le_of_ble_eq_true rfl) rfl rfl (np 76 rfl ?_)
      refine r_goto (tgt := 29) (dc dkX13_lines 43 rfl) rfl ?_
      refine r_pick [1, 2, 3, 4, 0] rfl ?_
      exact ih29 _ _ (by
            refine ⟨by omega, ?_⟩
            rw [fl_s _ (by omega)]
            first
            | (rw [H2_f (pl := (fun i => i)) (Q := (fun a b => mayL (σ 113) a b)) (i := a) (j := b) (fun w => h41 (by rw [e0]; have q := w.2.1.2; unfold pkD at q; split at q <;> omega)), List.append_nil]; exact hI29.2)
            | (rw [H2_f (pl := (fun i => i)) (Q := (fun a b => mayL (σ 113) a b)) (i := a) (j := b) h51, List.append_nil]; exact hI29.2)
            | (rw [H2_t (pl := (fun i => i)) (Q := (fun a b => mayL (σ 113) a b)) (i := a) (j := b) (by omega) h51, ← List.append_assoc]; exact fnd_s hI29.2.1 hI29.2.2 (by omega))) (by omega)
    refine r_aload_n (dc dkX13_lines 26 rfl) rfl (np 45 rfl ?_)
    refine r_iload_n (dc dkX13_lines 27 rfl) rfl (np 46 rfl ?_)
    refine r_iload (dc dkX13_lines 28 rfl) rfl (np 48 rfl ?_)
    refine r_pV2 (y' := miX13_mayLay) (dc dkX13_lines 29 rfl) mlX13_438 ceX13_mayLay ob_111 (Nat.le_of_ble_eq_true rfl) (Nat.le_of_ble_eq_true rfl) (c_X13_mayLay hN0 hg0 (by omega) (by omega)) (np 51 rfl ?_)
    rw [e0]
    refine r_bn (tgt := 57) (dc dkX13_lines 30 rfl) rfl (fun h51 => ?_) (fun h51 => (np 54 rfl ?_))
    · skip
      have nb2 := L2_len (pl := (fun i => i)) (Q := (fun a b => mayL (σ 113) a b)) (m := 100) (i := a) (j := b) (by omega) (by omega) (by omega)
      rw [← Int.ofNat_le, ← hI29.2.1] at nb2
      refine r_iload_n (dc dkX13_lines 32 rfl) rfl (np 58 rfl ?_)
      refine r_iload_n (dc dkX13_lines 33 rfl) rfl (np 59 rfl ?_)
      refine r_icmp_ne (tgt := 70) (dc dkX13_lines 34 rfl) rfl (by first | assumption | decide | omega) (by first | assumption | decide | omega) (fun h59 => ?_) (fun h59 => (np 62 rfl ?_))
      · skip
        refine r_iinc (lv' := [(2, _), (0, _), (1, _), (3, _), (4, _)]) (dc dkX13_lines 41 rfl) (Nat.le_of_ble_eq_true rfl) rfl rfl (np 73 rfl ?_)
        refine r_iinc (lv' := [(4, _), (2, _), (0, _), (1, _), (3, _)]) (dc dkX13_lines 42 rfl) (Nat.le_of_ble_eq_true rfl) rfl rfl (np 76 rfl ?_)
        refine r_goto (tgt := 29) (dc dkX13_lines 43 rfl) rfl ?_
        refine r_pick [2, 3, 1, 4, 0] rfl ?_
        exact ih29 _ _ (by
              refine ⟨by omega, ?_⟩
              rw [fl_s _ (by omega)]
              first
              | (rw [H2_f (pl := (fun i => i)) (Q := (fun a b => mayL (σ 113) a b)) (i := a) (j := b) (fun w => h41 (by rw [e0]; have q := w.2.1.2; unfold pkD at q; split at q <;> omega)), List.append_nil]; exact hI29.2)
              | (rw [H2_f (pl := (fun i => i)) (Q := (fun a b => mayL (σ 113) a b)) (i := a) (j := b) h51, List.append_nil]; exact hI29.2)
              | (rw [H2_t (pl := (fun i => i)) (Q := (fun a b => mayL (σ 113) a b)) (i := a) (j := b) (by omega) h51, ← List.append_assoc]; exact fnd_s hI29.2.1 hI29.2.2 (by omega))) (by omega)
      refine r_bipush (dc dkX13_lines 35 rfl) bp_100 (np 64 rfl ?_)
      refine r_iload_n (dc dkX13_lines 36 rfl) rfl (np 65 rfl ?_)
      refine r_imul (dc dkX13_lines 37 rfl) (np 66 rfl ?_)
      refine r_iload (dc dkX13_lines 38 rfl) rfl (np 68 rfl ?_)
      refine r_iadd (dc dkX13_lines 39 rfl) (np 69 rfl ?_)
      exact r_iret (dc dkX13_lines 40 rfl) rfl ⟨hσ0, congrArg (fun z => some (vI z)) (by rw [show gte (smR (σ 113)) (nthL (PL2 (fun i => i) (fun a b => mayL (σ 113) a b) 100) k) (-1) = nthL (PL2 (fun i => i) (fun a b => mayL (σ 113) a b) 100) k from gte_t h9]; exact (nthL_at (PL2_at (pl := (fun i => i)) (Q := (fun a b => mayL (σ 113) a b)) (by omega) (by omega) h51) (by rw [← hI29.2.1]; omega)).symm)⟩
    refine r_goto (tgt := 73) (dc dkX13_lines 31 rfl) rfl ?_
    refine r_iinc (lv' := [(4, _), (0, _), (1, _), (2, _), (3, _)]) (dc dkX13_lines 42 rfl) (Nat.le_of_ble_eq_true rfl) rfl rfl (np 76 rfl ?_)
    refine r_goto (tgt := 29) (dc dkX13_lines 43 rfl) rfl ?_
    refine r_pick [1, 2, 3, 4, 0] rfl ?_
    exact ih29 _ _ (by
          refine ⟨by omega, ?_⟩
          rw [fl_s _ (by omega)]
          first
          | (rw [H2_f (pl := (fun i => i)) (Q := (fun a b => mayL (σ 113) a b)) (i := a) (j := b) (fun w => h41 (by rw [e0]; have q := w.2.1.2; unfold pkD at q; split at q <;> omega)), List.append_nil]; exact hI29.2)
          | (rw [H2_f (pl := (fun i => i)) (Q := (fun a b => mayL (σ 113) a b)) (i := a) (j := b) h51, List.append_nil]; exact hI29.2)
          | (rw [H2_t (pl := (fun i => i)) (Q := (fun a b => mayL (σ 113) a b)) (i := a) (j := b) (by omega) h51, ← List.append_assoc]; exact fnd_s hI29.2.1 hI29.2.2 (by omega))) (by omega)
  refine r_iconst (dc dkX13_lines 6 rfl) (np 13 rfl ?_)
  exact r_iret (dc dkX13_lines 7 rfl) rfl ⟨hσ0, congrArg (fun z => some (vI z)) (gte_f h9).symm⟩
theorem cWn_0 : cWn 0 := by
  intro σ hN hG h5
  have := hG.2.2.1.1
  omega
set_option maxRecDepth 100000 in
set_option maxHeartbeats 4000000 in
theorem cWn_s {f : Nat} (ih : cWn f) : cWn (f + 1) := by
  intro σ hN hG h5
  obtain ⟨w0, w1, hg, hp9⟩ := hG
  have hG : gmH (σ 113) := ⟨w0, w1, hg, hp9⟩
  have m4 := hg.1
  refine jm_ofF (Po := (fun r τ => r = some (vI (wnR (f + 1) (σ 113))) ∧ (∀ c, ¬ c = 113 → τ c = σ c) ∧ eqG (σ 113 261) (σ 113) (τ 113))) (plainFor_of_name (by decide)) (Nat.le_of_ble_eq_true rfl) (lv := [(0, _)]) rfl ?_
  refine r_iconst (dc dkX13_winning 0 rfl) (np 1 rfl ?_)
  refine r_istore_n (lv' := [(1, _), (0, _)]) (dc dkX13_winning 1 rfl) (Nat.le_of_ble_eq_true rfl) rfl (np 2 rfl ?_)
  refine r_pick [1, 0] (lv' := [(0, _), (1, _)]) rfl ?_
  refine jlp2 (P := fun (a : Int) (τ : jS) => jR _ _ _ 2 [(0, .ref 111), (1, vI a)] [] τ) (I := fun (a : Int) (τ : jS) => (0 ≤ a ∧ a ≤ 100) ∧ (∀ c, ¬ c = 113 → τ c = σ c) ∧ eqG (σ 113 261) (σ 113) (τ 113) ∧ fl (F2 (fun i => i) (fun a b => mayL (σ 113) a b ∧ wnR f (layD (σ 113) a b) = -1) 100) a = []) (fun (a : Int) (τ : jS) => (100 - a).toNat) ?_ _ _ ⟨by omega, fun _ _ => rfl, fun _ _ => rfl, rfl⟩
  intro a τ hI2 ih2
  have S := hI2.2.1
  have E := hI2.2.2.1
  have lo := eqG_low m4.1 E
  have hNt : okN τ := okN_g hN (fun j hj => lo j (by omega))
  have hGt : gmH (τ 113) := gmH_c hG E
  have e261 : τ 113 261 = σ 113 261 := lo 261 (by decide)
  refine r_iload_n (dc dkX13_winning 2 rfl) rfl (np 3 rfl ?_)
  refine r_bipush (dc dkX13_winning 3 rfl) bp_100 (np 5 rfl ?_)
  refine r_icmp_ge (tgt := 93) (dc dkX13_winning 4 rfl) rfl (by first | assumption | decide | omega) (by first | assumption | decide | omega) (fun h5 => ?_) (fun h5 => (np 8 rfl ?_))
  · skip
    refine r_iconst (dc dkX13_winning 54 rfl) (np 94 rfl ?_)
    exact r_iret (dc dkX13_winning 55 rfl) rfl ⟨congrArg (fun z => some (vI z)) (by
          rw [wnR]
          have q := hI2.2.2.2
          rw [show a = 100 by omega] at q
          show _ = (fl _ _).headD (-1)
          rw [q]; rfl), S, E⟩
  refine r_iload_n (dc dkX13_winning 5 rfl) rfl (np 9 rfl ?_)
  refine r_iconst (dc dkX13_winning 6 rfl) (np 10 rfl ?_)
  refine r_iadd (dc dkX13_winning 7 rfl) (np 11 rfl ?_)
  refine r_istore_n (lv' := [(2, _), (0, _), (1, _)]) (dc dkX13_winning 8 rfl) (Nat.le_of_ble_eq_true rfl) rfl (np 12 rfl ?_)
  refine r_pick [1, 2, 0] (lv' := [(0, _), (1, _), (2, _)]) rfl ?_
  refine jlp2 (P := fun (b : Int) (τ : jS) => jR _ _ _ 12 [(0, .ref 111), (1, vI a), (2, vI b)] [] τ) (I := fun (b : Int) (τ : jS) => (a + 1 ≤ b ∧ b ≤ 100) ∧ (∀ c, ¬ c = 113 → τ c = σ c) ∧ eqG (σ 113 261) (σ 113) (τ 113) ∧ fl (H2 (fun i => i) (fun a b => mayL (σ 113) a b ∧ wnR f (layD (σ 113) a b) = -1) a) b = []) (fun (b : Int) (τ : jS) => (100 - b).toNat) ?_ _ _ ⟨by omega, S, E, H2_0⟩
  intro b τ hI12 ih12
  have S := hI12.2.1
  have E := hI12.2.2.1
  have lo := eqG_low m4.1 E
  have hNt : okN τ := okN_g hN (fun j hj => lo j (by omega))
  have hGt : gmH (τ 113) := gmH_c hG E
  have e261 : τ 113 261 = σ 113 261 := lo 261 (by decide)
  refine r_iload_n (dc dkX13_winning 9 rfl) rfl (np 13 rfl ?_)
  refine r_bipush (dc dkX13_winning 10 rfl) bp_100 (np 15 rfl ?_)
  refine r_icmp_ge (tgt := 87) (dc dkX13_winning 11 rfl) rfl (by first | assumption | decide | omega) (by first | assumption | decide | omega) (fun h15 => ?_) (fun h15 => (np 18 rfl ?_))
  · skip
    refine r_iinc (lv' := [(1, _), (0, _), (2, _)]) (dc dkX13_winning 52 rfl) (Nat.le_of_ble_eq_true rfl) rfl rfl (np 90 rfl ?_)
    refine r_goto (tgt := 2) (dc dkX13_winning 53 rfl) rfl ?_
    refine r_pick [1, 0] rfl ?_
    exact ih2 _ _ ⟨by omega, S, E, by rw [fl_s _ (by omega), hI2.2.2.2, List.nil_append, F2]; rw [show b = 100 by omega] at hI12; exact hI12.2.2.2⟩ (by omega)
  refine r_aload_n (dc dkX13_winning 12 rfl) rfl (np 19 rfl ?_)
  refine r_iload_n (dc dkX13_winning 13 rfl) rfl (np 20 rfl ?_)
  refine r_pV1 (y' := miX13_isAt) (dc dkX13_winning 14 rfl) mlX13_282 ceX13_isAt ob_111 (by omega) (Nat.le_of_ble_eq_true rfl) (c_X13_isAt hNt (by omega)) (np 23 rfl ?_)
  refine r_bz (tgt := 81) (dc dkX13_winning 15 rfl) rfl (fun h23 => ?_) (fun h23 => (np 26 rfl ?_))
  · skip
    refine r_iinc (lv' := [(2, _), (0, _), (1, _)]) (dc dkX13_winning 50 rfl) (Nat.le_of_ble_eq_true rfl) rfl rfl (np 84 rfl ?_)
    refine r_goto (tgt := 12) (dc dkX13_winning 51 rfl) rfl ?_
    refine r_pick [1, 2, 0] rfl ?_
    exact ih12 _ _ (by
          first
          | (refine ⟨by omega, S, E, ?_⟩
             rw [fl_s _ (by omega), H2_f (pl := (fun i => i)) (Q := (fun a b => mayL (σ 113) a b ∧ wnR f (layD (σ 113) a b) = -1)) (i := a) (j := b) (fun w => h23 (by rw [lo 0 (by decide), lo 1 (by decide)]; have q := w.1.2.1.2; unfold pkD at q; split at q <;> omega)), List.append_nil]; exact hI12.2.2.2)
          | (refine ⟨by omega, S, E, ?_⟩
             rw [fl_s _ (by omega), H2_f (pl := (fun i => i)) (Q := (fun a b => mayL (σ 113) a b ∧ wnR f (layD (σ 113) a b) = -1)) (i := a) (j := b) (fun w => h32 w.1), List.append_nil]; exact hI12.2.2.2)
          | (refine ⟨by omega, Sc, Ec, ?_⟩
             rw [fl_s _ (by omega), H2_f (pl := (fun i => i)) (Q := (fun a b => mayL (σ 113) a b ∧ wnR f (layD (σ 113) a b) = -1)) (i := a) (j := b) (fun w => by have := w.2; omega), List.append_nil]; exact hI12.2.2.2)) (by omega)
  refine r_aload_n (dc dkX13_winning 16 rfl) rfl (np 27 rfl ?_)
  refine r_iload_n (dc dkX13_winning 17 rfl) rfl (np 28 rfl ?_)
  refine r_iload_n (dc dkX13_winning 18 rfl) rfl (np 29 rfl ?_)
  refine r_pV2 (y' := miX13_mayLay) (dc dkX13_winning 19 rfl) mlX13_438 ceX13_mayLay ob_111 (by omega) (Nat.le_of_ble_eq_true rfl) (c_X13_mayLay hNt hGt.2.2.1 (by omega) (by omega)) (np 32 rfl ?_)
  rw [propext (mayL_c w0 w1 m4 E)]
  refine r_bn (tgt := 38) (dc dkX13_winning 20 rfl) rfl (fun h32 => ?_) (fun h32 => (np 35 rfl ?_))
  · skip
    have gl := gm_lt w0 w1 hg hp9 h32
    refine r_aload_n (dc dkX13_winning 22 rfl) rfl (np 39 rfl ?_)
    refine r_iload_n (dc dkX13_winning 23 rfl) rfl (np 40 rfl ?_)
    refine r_iload_n (dc dkX13_winning 24 rfl) rfl (np 41 rfl ?_)
    refine r_cV2 (y' := miX13_layLine) (dc dkX13_winning 25 rfl) mlX13_441 ceX13_layLine ob_111 (by omega) (Nat.le_of_ble_eq_true rfl) (c_X13_layLine (show cB 3 (τ 113 261) by omega)) (fun r τa hpa => (np 44 rfl ?_))
    obtain ⟨rfl, Sa, Ta⟩ := hpa
    have hNa : okN τa := okN_g hN (fun j hj => by rw [Ta, layD_low hGt.2.2.1.1 j hj]; exact lo j (by omega))
    have hGa : gmH (τa 113) := by rw [Ta]; exact gmH_l hGt ((mayL_c w0 w1 m4 E).mpr h32)
    have ea1 : τa 113 261 = σ 113 261 + 1 := by rw [Ta]; unfold layD; rw [if_pos rfl, e261]
    have eW : wnR f (τa 113) = wnR f (layD (σ 113) a b) := by
      have hl := gmH_l hG h32
      rw [Ta]
      exact wnR_c f hl.1 hl.2.1 hl.2.2.1 hl.2.2.2 (eqG_lay m4 E a b)
    have wb := wnR_b f (layD (σ 113) a b)
    refine r_aload_n (dc dkX13_winning 26 rfl) rfl (np 45 rfl ?_)
    refine r_cV0 (y' := miX13_winning) (dc dkX13_winning 27 rfl) mlX13_444 ceX13_winning ob_111 (by omega) (Nat.le_of_ble_eq_true rfl) (ih hNa hGa (by rw [ea1]; omega)) (fun r τb hpb => (np 48 rfl ?_))
    obtain ⟨rfl, Sb, Eb⟩ := hpb
    refine r_eqI _ eW ?_
    refine r_iconst (dc dkX13_winning 28 rfl) (np 49 rfl ?_)
    have jj57 : ∀ g : Int, ((g = 1 ∧ wnR f (layD (σ 113) a b) = -1) ∨ (g = 0 ∧ ¬ wnR f (layD (σ 113) a b) = -1)) → jR (6 + (f + 1)) miX13_winning (fun r τ => r = some (vI (wnR (f + 1) (σ 113))) ∧ (∀ c, ¬ c = 113 → τ c = σ c) ∧ eqG (σ 113 261) (σ 113) (τ 113)) 57 [(0, .ref 111), (1, vI a), (2, vI b)] [vI g] τb := by
      intro g hgg
      refine r_istore_n (lv' := [(3, _), (0, _), (1, _), (2, _)]) (dc dkX13_winning 33 rfl) (Nat.le_of_ble_eq_true rfl) rfl (np 58 rfl ?_)
      refine r_aload_n (dc dkX13_winning 34 rfl) rfl (np 59 rfl ?_)
      refine r_getR (dc dkX13_winning 35 rfl) flX13_13 fd_111_15 (np 62 rfl ?_)
      refine r_sipush (dc dkX13_winning 36 rfl) sp_261 (np 65 rfl ?_)
      refine r_dup2 (dc dkX13_winning 37 rfl) ⟨rfl, rfl⟩ (np 66 rfl ?_)
      refine r_iald (dc dkX13_winning 38 rfl) ar_113 (by omega) (np 67 rfl ?_)
      refine r_iconst (dc dkX13_winning 39 rfl) (np 68 rfl ?_)
      refine r_isub (dc dkX13_winning 40 rfl) (np 69 rfl ?_)
      refine r_eqI (σ 113 261) (by rw [Eb 261 (by omega), ea1]; omega) ?_
      refine r_iast (dc dkX13_winning 41 rfl) ar_113 (by omega) (np 70 rfl ?_)
      refine r_abs (fun ρ => (∀ c, ¬ c = 113 → ρ c = σ c) ∧ eqG (σ 113 261) (σ 113) (ρ 113)) ⟨fun c hc => by rw [ju_off _ _ _ _ _ hc, Sb c hc, Sa c hc, S c hc], fun j hj => ?_⟩ ?_
      · by_cases c : j = 261
        · rw [c, ju_at]
        · rw [ju_ne (by omega), Eb j (by omega), Ta]
          unfold layD
          rw [if_neg c, if_neg (by omega), if_neg (by omega)]
          exact E j hj
      intro τc hqc
      obtain ⟨Sc, Ec⟩ := hqc
      refine r_iload_n (dc dkX13_winning 42 rfl) rfl (np 71 rfl ?_)
      refine r_if_eq (tgt := 81) (dc dkX13_winning 43 rfl) rfl (by first | assumption | decide | omega) (fun h71 => ?_) (fun h71 => (np 74 rfl ?_))
      · skip
        refine r_iinc (lv' := [(2, _), (3, _), (0, _), (1, _)]) (dc dkX13_winning 50 rfl) (Nat.le_of_ble_eq_true rfl) rfl rfl (np 84 rfl ?_)
        refine r_goto (tgt := 12) (dc dkX13_winning 51 rfl) rfl ?_
        refine r_pick [2, 3, 0] rfl ?_
        exact ih12 _ _ (by
              first
              | (refine ⟨by omega, S, E, ?_⟩
                 rw [fl_s _ (by omega), H2_f (pl := (fun i => i)) (Q := (fun a b => mayL (σ 113) a b ∧ wnR f (layD (σ 113) a b) = -1)) (i := a) (j := b) (fun w => h23 (by rw [lo 0 (by decide), lo 1 (by decide)]; have q := w.1.2.1.2; unfold pkD at q; split at q <;> omega)), List.append_nil]; exact hI12.2.2.2)
              | (refine ⟨by omega, S, E, ?_⟩
                 rw [fl_s _ (by omega), H2_f (pl := (fun i => i)) (Q := (fun a b => mayL (σ 113) a b ∧ wnR f (layD (σ 113) a b) = -1)) (i := a) (j := b) (fun w => h32 w.1), List.append_nil]; exact hI12.2.2.2)
              | (refine ⟨by omega, Sc, Ec, ?_⟩
                 rw [fl_s _ (by omega), H2_f (pl := (fun i => i)) (Q := (fun a b => mayL (σ 113) a b ∧ wnR f (layD (σ 113) a b) = -1)) (i := a) (j := b) (fun w => by have := w.2; omega), List.append_nil]; exact hI12.2.2.2)) (by omega)
      refine r_bipush (dc dkX13_winning 44 rfl) bp_100 (np 76 rfl ?_)
      refine r_iload_n (dc dkX13_winning 45 rfl) rfl (np 77 rfl ?_)
      refine r_imul (dc dkX13_winning 46 rfl) (np 78 rfl ?_)
      refine r_iload_n (dc dkX13_winning 47 rfl) rfl (np 79 rfl ?_)
      refine r_iadd (dc dkX13_winning 48 rfl) (np 80 rfl ?_)
      exact r_iret (dc dkX13_winning 49 rfl) rfl ⟨congrArg (fun z => some (vI z)) (by
            rw [wnR]
            have q := PL2_at (pl := (fun i => i)) (Q := (fun a b => mayL (σ 113) a b ∧ wnR f (layD (σ 113) a b) = -1)) (m := 100) (i := a) (j := b) (by omega) (by omega) ⟨h32, by rcases hgg with q | q; exact q.2; omega⟩
            rw [hI2.2.2.2, hI12.2.2.2] at q
            exact (hd_at q).symm), Sc, Ec⟩
    refine r_icmp_ne (tgt := 56) (dc dkX13_winning 29 rfl) rfl wb (by decide) (fun h49 => ?_) (fun h49 => (np 52 rfl ?_))
    · skip
      refine r_iconst (dc dkX13_winning 32 rfl) (np 57 rfl ?_)
      refine r_pick [0, 1, 2] rfl ?_
      exact jj57 _ (by first | exact Or.inl ⟨rfl, h49⟩ | exact Or.inr ⟨rfl, h49⟩)
    refine r_iconst (dc dkX13_winning 30 rfl) (np 53 rfl ?_)
    refine r_goto (tgt := 57) (dc dkX13_winning 31 rfl) rfl ?_
    refine r_pick [0, 1, 2] rfl ?_
    exact jj57 _ (by first | exact Or.inl ⟨rfl, h49⟩ | exact Or.inr ⟨rfl, h49⟩)
  refine r_goto (tgt := 81) (dc dkX13_winning 21 rfl) rfl ?_
  refine r_iinc (lv' := [(2, _), (0, _), (1, _)]) (dc dkX13_winning 50 rfl) (Nat.le_of_ble_eq_true rfl) rfl rfl (np 84 rfl ?_)
  refine r_goto (tgt := 12) (dc dkX13_winning 51 rfl) rfl ?_
  refine r_pick [1, 2, 0] rfl ?_
  exact ih12 _ _ (by
        first
        | (refine ⟨by omega, S, E, ?_⟩
           rw [fl_s _ (by omega), H2_f (pl := (fun i => i)) (Q := (fun a b => mayL (σ 113) a b ∧ wnR f (layD (σ 113) a b) = -1)) (i := a) (j := b) (fun w => h23 (by rw [lo 0 (by decide), lo 1 (by decide)]; have q := w.1.2.1.2; unfold pkD at q; split at q <;> omega)), List.append_nil]; exact hI12.2.2.2)
        | (refine ⟨by omega, S, E, ?_⟩
           rw [fl_s _ (by omega), H2_f (pl := (fun i => i)) (Q := (fun a b => mayL (σ 113) a b ∧ wnR f (layD (σ 113) a b) = -1)) (i := a) (j := b) (fun w => h32 w.1), List.append_nil]; exact hI12.2.2.2)
        | (refine ⟨by omega, Sc, Ec, ?_⟩
           rw [fl_s _ (by omega), H2_f (pl := (fun i => i)) (Q := (fun a b => mayL (σ 113) a b ∧ wnR f (layD (σ 113) a b) = -1)) (i := a) (j := b) (fun w => by have := w.2; omega), List.append_nil]; exact hI12.2.2.2)) (by omega)
theorem cWn_5 : cWn 5 := cWn_s (cWn_s (cWn_s (cWn_s (cWn_s cWn_0))))
set_option maxRecDepth 100000 in
set_option maxHeartbeats 4000000 in
theorem c_X13_wins {σ : jS} (hN : okN σ) (hG : smR (σ 113) → gmH (σ 113)) (hg : okGm (σ 113)) : Jm 12 miX13_wins [.ref 111] σ (fun r τ => r = some (vI (gte (smR (σ 113)) (wnR 5 (σ 113)) (-2))) ∧ (∀ c, ¬ c = 111 → ¬ c = 113 → ¬ c = 136 → τ c = σ c) ∧ (∀ j, ¬ j = 0 → τ 111 j = σ 111 j) ∧ τ 111 0 = 0 ∧ eqG (σ 113 261) (σ 113) (τ 113)) := by
  have m4 := hg.1
  refine jm_ofF (Po := (fun r τ => r = some (vI (gte (smR (σ 113)) (wnR 5 (σ 113)) (-2))) ∧ (∀ c, ¬ c = 111 → ¬ c = 113 → ¬ c = 136 → τ c = σ c) ∧ (∀ j, ¬ j = 0 → τ 111 j = σ 111 j) ∧ τ 111 0 = 0 ∧ eqG (σ 113 261) (σ 113) (τ 113))) (plainFor_of_name (by decide)) (Nat.le_of_ble_eq_true rfl) (lv := [(0, _)]) rfl ?_
  refine r_aload_n (dc dkX13_wins 0 rfl) rfl (np 1 rfl ?_)
  refine r_iconst (dc dkX13_wins 1 rfl) (np 2 rfl ?_)
  refine r_pI 0 (dc dkX13_wins 2 rfl) fpX13_94 fd_111_0 rfl (np 5 rfl ?_)
  refine r_abs (fun ρ => ρ = ju σ 111 0 0) rfl ?_
  intro σ0 hσ0
  have e0 : σ0 113 = σ 113 := by rw [hσ0]; exact ju_off _ _ _ _ _ (by decide)
  have hN0 := okN_c hN e0
  have e4 : σ0 113 4 = σ 113 4 := by rw [e0]
  have ec : ∀ b, cn σ0 113 b = cn σ 113 b := cn_c e0
  have eP : ∀ b, rP σ0 113 b = rP σ 113 b := rP_c2 e0
  have m1 := hN.1.2.2.2.2.1
  have w1 := hN.1.1
  have w2 := hN.1.2.1
  have z0 : σ0 111 0 = 0 := by rw [hσ0, ju_at]
  have eS : (0 < σ0 113 0 ∧ σ0 113 0 * σ0 113 1 - σ0 113 3 ≤ 9) = smR (σ 113) := by rw [e0]; rfl
  have hg0 : okGm (σ0 113) := by rw [e0]; exact hg
  refine r_aload_n (dc dkX13_wins 3 rfl) rfl (np 6 rfl ?_)
  refine r_pV0 (y' := miX13_isSmall) (dc dkX13_wins 4 rfl) mlX13_435 ceX13_isSmall ob_111 (Nat.le_of_ble_eq_true rfl) (Nat.le_of_ble_eq_true rfl) (c_X13_isSmall hN0) (np 9 rfl ?_)
  rw [eS]
  refine r_bn (tgt := 15) (dc dkX13_wins 5 rfl) rfl (fun h9 => ?_) (fun h9 => (np 12 rfl ?_))
  · skip
    refine r_aload_n (dc dkX13_wins 8 rfl) rfl (np 16 rfl ?_)
    refine r_getR (dc dkX13_wins 9 rfl) flX13_13 fd_111_15 (np 19 rfl ?_)
    refine r_sipush (dc dkX13_wins 10 rfl) sp_261 (np 22 rfl ?_)
    refine r_iald (dc dkX13_wins 11 rfl) ar_113 (by omega) (np 23 rfl ?_)
    refine r_eqI (σ 113 261) (by rw [e0]) ?_
    refine r_istore_n (lv' := [(1, _), (0, _)]) (dc dkX13_wins 12 rfl) (Nat.le_of_ble_eq_true rfl) rfl (np 24 rfl ?_)
    refine r_iconst (dc dkX13_wins 13 rfl) (np 25 rfl ?_)
    refine r_istore_n (lv' := [(2, _), (1, _), (0, _)]) (dc dkX13_wins 14 rfl) (Nat.le_of_ble_eq_true rfl) rfl (np 26 rfl ?_)
    refine r_pick [2, 1, 0] (lv' := [(0, _), (1, _), (2, _)]) rfl ?_
    refine jlp2 (P := fun (k : Int) (τ : jS) => jR _ _ _ 26 [(0, .ref 111), (1, vI (σ 113 261)), (2, vI k)] [] τ) (I := fun (k : Int) (τ : jS) => (0 ≤ k ∧ k ≤ 8) ∧ (∀ c, ¬ c = 136 → τ c = σ0 c) ∧ ∀ j, 0 ≤ j → j < k → τ 136 j = σ 113 (262 + j)) (fun (k : Int) (τ : jS) => (8 - k).toNat) ?_ _ _ ⟨by omega, fun _ _ => rfl, fun j j0 j1 => by omega⟩
    intro k τ hI26 ih26
    have S := hI26.2.1
    refine r_iload_n (dc dkX13_wins 15 rfl) rfl (np 27 rfl ?_)
    refine r_bipush (dc dkX13_wins 16 rfl) bp_8 (np 29 rfl ?_)
    refine r_icmp_ge (tgt := 54) (dc dkX13_wins 17 rfl) rfl (by first | assumption | decide | omega) (by first | assumption | decide | omega) (fun h29 => ?_) (fun h29 => (np 32 rfl ?_))
    · skip
      have hNt : okN τ := okN_c hN0 (S 113 (by decide))
      have hGt : gmH (τ 113) := by rw [S 113 (by decide), e0]; exact hG h9
      have e3 : τ 113 = σ 113 := by rw [S 113 (by decide), e0]
      refine r_aload_n (dc dkX13_wins 30 rfl) rfl (np 55 rfl ?_)
      refine r_cV0 (y' := miX13_winning) (dc dkX13_wins 31 rfl) mlX13_444 ceX13_winning ob_111 (Nat.le_of_ble_eq_true rfl) (Nat.le_of_ble_eq_true rfl) (cWn_5 hNt hGt (by rw [e3]; omega)) (fun r τw hpw => (np 58 rfl ?_))
      obtain ⟨rfl, Sw, Ew⟩ := hpw
      rw [e3] at Ew
      refine r_eqI (wnR 5 (σ 113)) (by rw [e3]) ?_
      refine r_istore_n (lv' := [(2, _), (0, _), (1, _)]) (dc dkX13_wins 32 rfl) (Nat.le_of_ble_eq_true rfl) rfl (np 59 rfl ?_)
      refine r_iconst (dc dkX13_wins 33 rfl) (np 60 rfl ?_)
      refine r_istore_n (lv' := [(3, _), (2, _), (0, _), (1, _)]) (dc dkX13_wins 34 rfl) (Nat.le_of_ble_eq_true rfl) rfl (np 61 rfl ?_)
      refine r_pick [2, 3, 1, 0] (lv' := [(0, _), (1, _), (2, _), (3, _)]) rfl ?_
      refine jlp2 (P := fun (k2 : Int) (ρ : jS) => jR _ _ _ 61 [(0, .ref 111), (1, vI (σ 113 261)), (2, vI (wnR 5 (σ 113))), (3, vI k2)] [] ρ) (I := fun (k2 : Int) (ρ : jS) => (0 ≤ k2 ∧ k2 ≤ 8) ∧ (∀ c, ¬ c = 113 → ρ c = τw c) ∧ eqG (σ 113 261) (σ 113) (ρ 113)) (fun (k2 : Int) (ρ : jS) => (8 - k2).toNat) ?_ _ _ ⟨by omega, fun _ _ => rfl, Ew⟩
      intro k2 ρ hI61 ih61
      have R := hI61.2.1
      have Er := hI61.2.2
      refine r_iload_n (dc dkX13_wins 35 rfl) rfl (np 62 rfl ?_)
      refine r_bipush (dc dkX13_wins 36 rfl) bp_8 (np 64 rfl ?_)
      refine r_icmp_ge (tgt := 100) (dc dkX13_wins 37 rfl) rfl (by first | assumption | decide | omega) (by first | assumption | decide | omega) (fun h64 => ?_) (fun h64 => (np 67 rfl ?_))
      · skip
        refine r_iload_n (dc dkX13_wins 57 rfl) rfl (np 101 rfl ?_)
        exact r_iret (dc dkX13_wins 58 rfl) rfl ⟨congrArg (fun z => some (vI z)) (gte_t h9).symm, fun c c1 c3 c6 => by rw [R c c3, Sw c c3, S c c6, hσ0, ju_off _ _ _ _ _ c1], fun j hj => by rw [R 111 (by decide), Sw 111 (by decide), S 111 (by decide), hσ0, ju_ne (by omega)], by rw [R 111 (by decide), Sw 111 (by decide), S 111 (by decide), z0], Er⟩
      refine r_aload_n (dc dkX13_wins 38 rfl) rfl (np 68 rfl ?_)
      refine r_getR (dc dkX13_wins 39 rfl) flX13_13 fd_111_15 (np 71 rfl ?_)
      refine r_sipush (dc dkX13_wins 40 rfl) sp_262 (np 74 rfl ?_)
      refine r_iload_n (dc dkX13_wins 41 rfl) rfl (np 75 rfl ?_)
      refine r_iadd (dc dkX13_wins 42 rfl) (np 76 rfl ?_)
      refine r_iload_n (dc dkX13_wins 43 rfl) rfl (np 77 rfl ?_)
      refine r_iconst (dc dkX13_wins 44 rfl) (np 78 rfl ?_)
      refine r_iload_n (dc dkX13_wins 45 rfl) rfl (np 79 rfl ?_)
      refine r_imul (dc dkX13_wins 46 rfl) (np 80 rfl ?_)
      have jj93 : ∀ v : Int, (v = if k2 < 2 * σ 113 261 then σ 113 (262 + k2) else 0) → jR 12 miX13_wins (fun r τ => r = some (vI (gte (smR (σ 113)) (wnR 5 (σ 113)) (-2))) ∧ (∀ c, ¬ c = 111 → ¬ c = 113 → ¬ c = 136 → τ c = σ c) ∧ (∀ j, ¬ j = 0 → τ 111 j = σ 111 j) ∧ τ 111 0 = 0 ∧ eqG (σ 113 261) (σ 113) (τ 113)) 93 [(0, .ref 111), (1, vI (σ 113 261)), (2, vI (wnR 5 (σ 113))), (3, vI k2)] [vI v, vI (262 + k2), .ref 113] ρ := by
        intro v hv
        refine r_iast (dc dkX13_wins 54 rfl) ar_113 (by omega) (np 94 rfl ?_)
        refine r_iinc (lv' := [(3, _), (0, _), (1, _), (2, _)]) (dc dkX13_wins 55 rfl) (Nat.le_of_ble_eq_true rfl) rfl rfl (np 97 rfl ?_)
        refine r_goto (tgt := 61) (dc dkX13_wins 56 rfl) rfl ?_
        refine r_pick [1, 2, 3, 0] rfl ?_
        exact ih61 _ _ ⟨by omega, fun c hc => by rw [ju_off _ _ _ _ _ hc]; exact R c hc, fun j hj => by by_cases q : j = 262 + k2; rw [q, ju_at, hv, if_pos (by omega)]; rw [ju_ne (by omega)]; exact Er j hj⟩ (by omega)
      refine r_icmp_ge (tgt := 92) (dc dkX13_wins 47 rfl) rfl (by first | assumption | decide | omega) (by first | assumption | decide | omega) (fun h80 => ?_) (fun h80 => (np 83 rfl ?_))
      · skip
        refine r_iconst (dc dkX13_wins 53 rfl) (np 93 rfl ?_)
        refine r_pick [0, 1, 2, 3] rfl ?_
        exact jj93 _ (by first | (rw [if_neg (by omega)]; done) | (rw [if_pos (by omega), R 136 (by decide), Sw 136 (by decide)]; exact hI26.2.2 k2 (by omega) (by omega)))
      refine r_aload_n (dc dkX13_wins 48 rfl) rfl (np 84 rfl ?_)
      refine r_getR (dc dkX13_wins 49 rfl) flX13_85 fd_111_43 (np 87 rfl ?_)
      refine r_iload_n (dc dkX13_wins 50 rfl) rfl (np 88 rfl ?_)
      refine r_iald (dc dkX13_wins 51 rfl) ar_136 (by omega) (np 89 rfl ?_)
      refine r_goto (tgt := 93) (dc dkX13_wins 52 rfl) rfl ?_
      refine r_pick [0, 1, 2, 3] rfl ?_
      exact jj93 _ (by first | (rw [if_neg (by omega)]; done) | (rw [if_pos (by omega), R 136 (by decide), Sw 136 (by decide)]; exact hI26.2.2 k2 (by omega) (by omega)))
    refine r_aload_n (dc dkX13_wins 18 rfl) rfl (np 33 rfl ?_)
    refine r_getR (dc dkX13_wins 19 rfl) flX13_85 fd_111_43 (np 36 rfl ?_)
    refine r_iload_n (dc dkX13_wins 20 rfl) rfl (np 37 rfl ?_)
    refine r_aload_n (dc dkX13_wins 21 rfl) rfl (np 38 rfl ?_)
    refine r_getR (dc dkX13_wins 22 rfl) flX13_13 fd_111_15 (np 41 rfl ?_)
    refine r_sipush (dc dkX13_wins 23 rfl) sp_262 (np 44 rfl ?_)
    refine r_iload_n (dc dkX13_wins 24 rfl) rfl (np 45 rfl ?_)
    refine r_iadd (dc dkX13_wins 25 rfl) (np 46 rfl ?_)
    refine r_iald (dc dkX13_wins 26 rfl) ar_113 (by omega) (np 47 rfl ?_)
    refine r_iast (dc dkX13_wins 27 rfl) ar_136 (by omega) (np 48 rfl ?_)
    refine r_iinc (lv' := [(2, _), (0, _), (1, _)]) (dc dkX13_wins 28 rfl) (Nat.le_of_ble_eq_true rfl) rfl rfl (np 51 rfl ?_)
    refine r_goto (tgt := 26) (dc dkX13_wins 29 rfl) rfl ?_
    refine r_pick [1, 2, 0] rfl ?_
    exact ih26 _ _ ⟨by omega, fun c hc => by rw [ju_off _ _ _ _ _ hc]; exact S c hc, fun j j0 j1 => by by_cases q : j = k; rw [q, ju_at, S 113 (by decide), e0]; rw [ju_ne (by omega)]; exact hI26.2.2 j j0 (by omega)⟩ (by omega)
  refine r_bipush (dc dkX13_wins 6 rfl) bp_m2 (np 14 rfl ?_)
  exact r_iret (dc dkX13_wins 7 rfl) rfl ⟨congrArg (fun z => some (vI z)) (gte_f h9).symm, fun c c1 c3 c6 => by rw [hσ0, ju_off _ _ _ _ _ c1], fun j hj => by rw [hσ0, ju_ne (by omega)], z0, fun j _ => by rw [e0]⟩
