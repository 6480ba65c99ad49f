/-! ===== the game ===== -/
theorem bt_nand {z y j : Int} (hj : 0 ≤ j ∧ j < 64) : bt (lAnd z (lXor y (-1))) j ↔ bt z j ∧ ¬ bt y j := by
  unfold bt lAnd lXor
  rw [ofInt_toInt64, ofInt_toInt64, Int64.toBitVec_and, Int64.toBitVec_xor, BitVec.getLsbD_and, BitVec.getLsbD_xor, show (Int64.ofInt (-1)).toBitVec = BitVec.allOnes 64 by decide, BitVec.getLsbD_allOnes]
  have h1 : j.toNat < 64 := by omega
  simp [h1]
theorem bt_lowN : ∀ m, m < 37 → ∀ j, j < 64 → (Int64.ofInt (lShl 1 (m : Nat) - 1)).toBitVec.getLsbD j = decide (j < m) := by decide +kernel
theorem bt_low {m j : Int} (hm : 0 ≤ m ∧ m ≤ 36) (hj : 0 ≤ j ∧ j < 64) : bt (lShl 1 m - 1) j ↔ j < m := by
  obtain ⟨a, rfl⟩ := Int.eq_ofNat_of_zero_le hm.1
  have := bt_lowN a (by omega) j.toNat (by omega)
  unfold bt
  rw [this, decide_eq_true_iff]
  omega
/-- how many pairs begin ahead of the i-th of nine -/
def tri (i : Int) : Int := if i ≤ 0 then 0 else if i = 1 then 8 else if i = 2 then 15 else if i = 3 then 21 else if i = 4 then 26 else if i = 5 then 30 else if i = 6 then 33 else if i = 7 then 35 else 36
theorem tri_s {i : Int} (h : 0 ≤ i ∧ i ≤ 8) : tri (i + 1) = tri i + (8 - i) := by
  rcases (show i = 0 ∨ i = 1 ∨ i = 2 ∨ i = 3 ∨ i = 4 ∨ i = 5 ∨ i = 6 ∨ i = 7 ∨ i = 8 by omega) with h | h | h | h | h | h | h | h | h <;> subst h <;> decide
theorem tri_b {i : Int} (h : 0 ≤ i ∧ i ≤ 8) : 0 ≤ tri i ∧ tri i + (8 - i) ≤ 36 := by
  rcases (show i = 0 ∨ i = 1 ∨ i = 2 ∨ i = 3 ∨ i = 4 ∨ i = 5 ∨ i = 6 ∨ i = 7 ∨ i = 8 by omega) with h | h | h | h | h | h | h | h | h <;> subst h <;> decide
noncomputable def mtC (c d : Int) : Int := mt (c / 100) (c % 100) (d / 100) (d % 100)
/-- the game's lines, rising -/
noncomputable def LN (pk : Int → Int) : List Int := fl (fun a => lif (pk a = 1) (fl (fun b => lif (pk b = 1) (lif (a < b ∧ pts a b = 1) [100 * a + b])) 100)) 100
noncomputable def pgN (pk : Int → Int) : Int := ((pgL pk).length : Int)
noncomputable def LQ2 (a b : Int) : List Int := lif (a < b ∧ pts a b = 1) [100 * a + b]
noncomputable def LQ1 (pl : Int → Int) (m a : Int) : List Int := fl (fun j => LQ2 a (pl j)) m
theorem F2_LN {pk pl : Int → Int} {m : Int} (h : PGs pk pl m) : PL2 pl (fun i j => pts (pl i) (pl j) = 1) m = LN pk := by
  have e1 : PL2 pl (fun i j => pts (pl i) (pl j) = 1) m = fl (fun i => LQ1 pl m (pl i)) m := by
    refine fl_c (fun i i0 i1 => ?_)
    refine fl_c (fun j j0 j1 => ?_)
    unfold H2 LQ2
    exact lif_iff ⟨fun z => ⟨(PGs_lt h ⟨i0, i1⟩ ⟨j0, j1⟩).mp z.1, z.2⟩, fun z => ⟨(PGs_lt h ⟨i0, i1⟩ ⟨j0, j1⟩).mpr z.1, z.2⟩⟩ _
  rw [e1, fl_pg (g := LQ1 pl m) h.1]
  unfold LN
  refine fl_c (fun a _ _ => lif_c (fun _ => ?_))
  unfold LQ1
  rw [fl_pg (g := LQ2 a) h.1]
  rfl
/-- the lines in the class' rows -/
def GM (σ : jS) (L : List Int) : Prop := LI (σ 25) (σ 23 3) L ∧ cB 36 (σ 23 3) ∧ ∀ i, 0 ≤ i → i < σ 23 3 → cB 9999 (σ 25 i)
def GH (σ : jS) : Prop := ∀ i j, 0 ≤ i → i < σ 23 3 → 0 ≤ j → j < σ 23 3 → (bt (σ 26 i) j ↔ ¬ mtC (σ 25 i) (σ 25 j) = 0)
theorem bI_ne {P : Prop} : (bI P ≠ 0) ↔ P := by
  by_cases h : P
  · rw [bI_t h]; exact ⟨fun _ => h, fun _ => by decide⟩
  · rw [bI_f h]; exact ⟨fun z => absurd rfl z, fun z => absurd z h⟩
/-- the line that wins, by fuel -/
noncomputable def wpF (n : Int) (hin : Int → Int → Prop) : Nat → (Int → Prop) → Int
  | 0, _ => -1
  | f + 1, O => fi (fun i => O i ∧ wpF n hin f (fun j => O j ∧ ¬ hin i j) = -1) n
theorem fi_c {P Q : Int → Prop} {n : Int} (h : ∀ i, 0 ≤ i → i < n → (P i ↔ Q i)) : fi P n = fi Q n := by
  have g : ∀ (k : Nat) (s : Int), 0 ≤ s → s + k ≤ n → fiF P k s = fiF Q k s := by
    intro k
    induction k with
    | zero => intro s _ _; rfl
    | succ k ih =>
      intro s s0 s1
      rw [fiF, fiF, ih (s + 1) (by omega) (by omega)]
      have := h s s0 (by omega)
      by_cases c : P s
      · rw [if_pos c, if_pos (this.mp c)]
      · rw [if_neg c, if_neg (fun z => c (this.mpr z))]
  unfold fi
  by_cases c : 0 ≤ n
  · exact g _ 0 (by decide) (by omega)
  · rw [show n.toNat = 0 by omega]; rfl
theorem wpF_c {n : Int} {hin hin' : Int → Int → Prop} (hh : ∀ i j, 0 ≤ i → i < n → 0 ≤ j → j < n → (hin i j ↔ hin' i j)) : ∀ (f : Nat) (O O' : Int → Prop), (∀ i, 0 ≤ i → i < n → (O i ↔ O' i)) → wpF n hin f O = wpF n hin' f O'
  | 0, _, _, _ => rfl
  | f + 1, O, O', h => by
    rw [wpF, wpF]
    refine fi_c (fun i i0 i1 => ?_)
    rw [wpF_c hh f _ _ (fun j j0 j1 => (show (O j ∧ ¬ hin i j) ↔ (O' j ∧ ¬ hin' i j) by rw [h j j0 j1, hh i j i0 i1 j0 j1])), h i i0 i1]
set_option maxRecDepth 100000 in
set_option maxHeartbeats 4000000 in
theorem c_X4_findHindered {σ : jS} {L : List Int} (hG : GM σ L) : Jm 3 miX4_findHindered [.ref 23] σ (fun r τ => r = none ∧ same [26] σ τ ∧ GH τ) := by
  have n36 := hG.2.1
  refine jm_ofF (Po := (fun r τ => r = none ∧ same [26] σ τ ∧ GH τ)) (plainFor_of_name (by decide)) (Nat.le_of_ble_eq_true rfl) (lv := [(0, _)]) rfl ?_
  refine r_iconst (dc dkX4_findHindered 0 rfl) (np 1 rfl ?_)
  refine r_istore_n (lv' := [(1, _), (0, _)]) (dc dkX4_findHindered 1 rfl) (Nat.le_of_ble_eq_true rfl) rfl (np 2 rfl ?_)
  refine r_pick [1, 0] (lv' := [(0, _), (1, _)]) rfl ?_
  refine jlp2 (P := fun (i : Int) (τ : jS) => jR _ _ _ 2 [(0, .ref 23), (1, vI i)] [] τ) (I := fun (i : Int) (τ : jS) => (0 ≤ i ∧ i ≤ σ 23 3) ∧ same [26] σ τ ∧ ∀ x j, 0 ≤ x → x < i → 0 ≤ j → j < σ 23 3 → (bt (τ 26 x) j ↔ ¬ mtC (σ 25 x) (σ 25 j) = 0)) (fun (i : Int) (τ : jS) => (σ 23 3 - i).toNat) ?_ _ _ ⟨by omega, same.refl _ _, fun x j x0 x1 => by omega⟩
  intro i τ hI2 ih2
  have S := hI2.2.1
  have e3 : τ 23 3 = σ 23 3 := by rw [S 23 (by decide)]
  refine r_iload_n (dc dkX4_findHindered 2 rfl) rfl (np 3 rfl ?_)
  refine r_aload_n (dc dkX4_findHindered 3 rfl) rfl (np 4 rfl ?_)
  refine r_gI 3 (dc dkX4_findHindered 4 rfl) flX4_22 fd_23_3 rfl (np 7 rfl ?_)
  refine r_icmp_ge (tgt := 93) (dc dkX4_findHindered 5 rfl) rfl (by first | assumption | decide | omega) (by first | assumption | decide | omega) (fun h7 => ?_) (fun h7 => (np 10 rfl ?_))
  · skip
    exact r_vret (dc dkX4_findHindered 57 rfl) rfl ⟨rfl, S, by unfold GH; rw [e3, S 25 (by decide)]; intro x j x0 x1 j0 j1; exact hI2.2.2 x j x0 (by omega) j0 j1⟩
  refine r_aload_n (dc dkX4_findHindered 6 rfl) rfl (np 11 rfl ?_)
  refine r_getR (dc dkX4_findHindered 7 rfl) flX4_18 fd_23_2 (np 14 rfl ?_)
  refine r_iload_n (dc dkX4_findHindered 8 rfl) rfl (np 15 rfl ?_)
  refine r_lconst (dc dkX4_findHindered 9 rfl) lc_0 (np 16 rfl ?_)
  refine r_last (dc dkX4_findHindered 10 rfl) ar_26 (by omega) (np 17 rfl ?_)
  refine r_iconst (dc dkX4_findHindered 11 rfl) (np 18 rfl ?_)
  refine r_istore_n (lv' := [(2, _), (0, _), (1, _)]) (dc dkX4_findHindered 12 rfl) (Nat.le_of_ble_eq_true rfl) rfl (np 19 rfl ?_)
  refine r_pick [1, 2, 0] (lv' := [(0, _), (1, _), (2, _)]) rfl ?_
  refine jlp2 (P := fun (j : Int) (ρ : jS) => jR _ _ _ 19 [(0, .ref 23), (1, vI i), (2, vI j)] [] ρ) (I := fun (j : Int) (ρ : jS) => (0 ≤ j ∧ j ≤ σ 23 3) ∧ same [26] σ ρ ∧ (∀ x, ¬ x = i → ρ 26 x = τ 26 x) ∧ (∀ y, 0 ≤ y → y < j → (bt (ρ 26 i) y ↔ ¬ mtC (σ 25 i) (σ 25 y) = 0)) ∧ ∀ y, j ≤ y → y < 64 → ¬ bt (ρ 26 i) y) (fun (j : Int) (ρ : jS) => (σ 23 3 - j).toNat) ?_ _ _ ⟨by omega, S.put (by decide), fun x hx => by rw [ju_ne (by omega)], fun y y0 y1 => by omega, fun y y0 y1 => by rw [ju_at]; exact bt_0⟩
  intro j ρ hI19 ih19
  have S2 := hI19.2.1
  have e32 : ρ 23 3 = σ 23 3 := by rw [S2 23 (by decide)]
  have e25 : ρ 25 = σ 25 := S2 25 (by decide)
  refine r_iload_n (dc dkX4_findHindered 13 rfl) rfl (np 20 rfl ?_)
  refine r_aload_n (dc dkX4_findHindered 14 rfl) rfl (np 21 rfl ?_)
  refine r_gI 3 (dc dkX4_findHindered 15 rfl) flX4_22 fd_23_3 rfl (np 24 rfl ?_)
  refine r_icmp_ge (tgt := 87) (dc dkX4_findHindered 16 rfl) rfl (by first | assumption | decide | omega) (by first | assumption | decide | omega) (fun h24 => ?_) (fun h24 => (np 27 rfl ?_))
  · skip
    refine r_iinc (lv' := [(1, _), (0, _), (2, _)]) (dc dkX4_findHindered 55 rfl) (Nat.le_of_ble_eq_true rfl) rfl rfl (np 90 rfl ?_)
    refine r_goto (tgt := 2) (dc dkX4_findHindered 56 rfl) rfl ?_
    refine r_pick [1, 0] rfl ?_
    exact ih2 _ _ ⟨by omega, S2, fun x j x0 x1 j0 j1 => by rcases (show x < i ∨ x = i by omega) with c | c; rw [hI19.2.2.1 x (by omega)]; exact hI2.2.2 x j x0 c j0 j1; subst c; exact hI19.2.2.2.1 j j0 (by omega)⟩ (by omega)
  have c1 := hG.2.2 i (by omega) (by omega)
  have c2 := hG.2.2 j (by omega) (by omega)
  rw [← e25] at c1 c2
  have mb := mt_b (σ 25 i / 100) (σ 25 i % 100) (σ 25 j / 100) (σ 25 j % 100)
  refine r_aload_n (dc dkX4_findHindered 17 rfl) rfl (np 28 rfl ?_)
  refine r_getR (dc dkX4_findHindered 18 rfl) flX4_15 fd_23_1 (np 31 rfl ?_)
  refine r_iload_n (dc dkX4_findHindered 19 rfl) rfl (np 32 rfl ?_)
  refine r_iald (dc dkX4_findHindered 20 rfl) ar_25 (by omega) (np 33 rfl ?_)
  refine r_bipush (dc dkX4_findHindered 21 rfl) bp_100 (np 35 rfl ?_)
  refine r_idivn (dc dkX4_findHindered 22 rfl) (by first | assumption | decide | omega) (by first | assumption | decide | omega) (np 36 rfl ?_)
  refine r_aload_n (dc dkX4_findHindered 23 rfl) rfl (np 37 rfl ?_)
  refine r_getR (dc dkX4_findHindered 24 rfl) flX4_15 fd_23_1 (np 40 rfl ?_)
  refine r_iload_n (dc dkX4_findHindered 25 rfl) rfl (np 41 rfl ?_)
  refine r_iald (dc dkX4_findHindered 26 rfl) ar_25 (by omega) (np 42 rfl ?_)
  refine r_bipush (dc dkX4_findHindered 27 rfl) bp_100 (np 44 rfl ?_)
  refine r_iremn (dc dkX4_findHindered 28 rfl) (by first | assumption | decide | omega) (by first | assumption | decide | omega) (np 45 rfl ?_)
  refine r_aload_n (dc dkX4_findHindered 29 rfl) rfl (np 46 rfl ?_)
  refine r_getR (dc dkX4_findHindered 30 rfl) flX4_15 fd_23_1 (np 49 rfl ?_)
  refine r_iload_n (dc dkX4_findHindered 31 rfl) rfl (np 50 rfl ?_)
  refine r_iald (dc dkX4_findHindered 32 rfl) ar_25 (by omega) (np 51 rfl ?_)
  refine r_bipush (dc dkX4_findHindered 33 rfl) bp_100 (np 53 rfl ?_)
  refine r_idivn (dc dkX4_findHindered 34 rfl) (by first | assumption | decide | omega) (by first | assumption | decide | omega) (np 54 rfl ?_)
  refine r_aload_n (dc dkX4_findHindered 35 rfl) rfl (np 55 rfl ?_)
  refine r_getR (dc dkX4_findHindered 36 rfl) flX4_15 fd_23_1 (np 58 rfl ?_)
  refine r_iload_n (dc dkX4_findHindered 37 rfl) rfl (np 59 rfl ?_)
  refine r_iald (dc dkX4_findHindered 38 rfl) ar_25 (by omega) (np 60 rfl ?_)
  refine r_bipush (dc dkX4_findHindered 39 rfl) bp_100 (np 62 rfl ?_)
  refine r_iremn (dc dkX4_findHindered 40 rfl) (by first | assumption | decide | omega) (by first | assumption | decide | omega) (np 63 rfl ?_)
  refine r_pS4 (y' := miX7_meet) (dc dkX4_findHindered 41 rfl) mlX4_45 seX7_meet (Nat.le_of_ble_eq_true rfl) (Nat.le_of_ble_eq_true rfl) (c_X7_meet (by omega) (by omega) (by omega) (by omega)) (np 66 rfl ?_)
  refine r_eqI (mtC (σ 25 i) (σ 25 j)) (by rw [e25]; rfl) ?_
  replace mb : 0 ≤ mtC (σ 25 i) (σ 25 j) ∧ mtC (σ 25 i) (σ 25 j) ≤ 2 := mb
  refine r_if_eq (tgt := 81) (dc dkX4_findHindered 42 rfl) rfl (by first | assumption | decide | omega) (fun h66 => ?_) (fun h66 => (np 69 rfl ?_))
  · skip
    refine r_iinc (lv' := [(2, _), (0, _), (1, _)]) (dc dkX4_findHindered 53 rfl) (Nat.le_of_ble_eq_true rfl) rfl rfl (np 84 rfl ?_)
    refine r_goto (tgt := 19) (dc dkX4_findHindered 54 rfl) rfl ?_
    refine r_pick [1, 2, 0] rfl ?_
    exact ih19 _ _ (by
          first
          | (refine ⟨by omega, S2, hI19.2.2.1, fun y y0 y1 => ?_, fun y y0 y1 => hI19.2.2.2.2 y (by omega) y1⟩
             rcases (show y < j ∨ y = j by omega) with c | c
             · exact hI19.2.2.2.1 y y0 c
             · subst c
               exact ⟨fun z => absurd z (hI19.2.2.2.2 y (by omega) (by omega)), fun z => absurd h66 z⟩)
          | (refine ⟨by omega, S2.put (by decide), fun x hx => by rw [ju_ne (by omega)]; exact hI19.2.2.1 x hx, fun y y0 y1 => ?_, fun y y0 y1 => ?_⟩
             · rw [ju_at, bt_or (by omega) (by omega)]
               rcases (show y < j ∨ y = j by omega) with c | c
               · rw [← hI19.2.2.2.1 y y0 c]
                 exact ⟨fun z => z.resolve_right (by omega), Or.inl⟩
               · subst c
                 exact ⟨fun _ => h66, fun _ => Or.inr rfl⟩
             · rw [ju_at, bt_or (by omega) (by omega)]
               exact fun z => z.elim (hI19.2.2.2.2 y (by omega) y1) (by omega))) (by omega)
  refine r_aload_n (dc dkX4_findHindered 43 rfl) rfl (np 70 rfl ?_)
  refine r_getR (dc dkX4_findHindered 44 rfl) flX4_18 fd_23_2 (np 73 rfl ?_)
  refine r_iload_n (dc dkX4_findHindered 45 rfl) rfl (np 74 rfl ?_)
  refine r_dup2 (dc dkX4_findHindered 46 rfl) ⟨rfl, rfl⟩ (np 75 rfl ?_)
  refine r_lald (dc dkX4_findHindered 47 rfl) ar_26 (by omega) (np 76 rfl ?_)
  refine r_lconst (dc dkX4_findHindered 48 rfl) lc_1 (np 77 rfl ?_)
  refine r_iload_n (dc dkX4_findHindered 49 rfl) rfl (np 78 rfl ?_)
  refine r_lshl (dc dkX4_findHindered 50 rfl) (np 79 rfl ?_)
  refine r_lor (dc dkX4_findHindered 51 rfl) (np 80 rfl ?_)
  refine r_last (dc dkX4_findHindered 52 rfl) ar_26 (by omega) (np 81 rfl ?_)
  refine r_iinc (lv' := [(2, _), (0, _), (1, _)]) (dc dkX4_findHindered 53 rfl) (Nat.le_of_ble_eq_true rfl) rfl rfl (np 84 rfl ?_)
  refine r_goto (tgt := 19) (dc dkX4_findHindered 54 rfl) rfl ?_
  refine r_pick [1, 2, 0] rfl ?_
  exact ih19 _ _ (by
        first
        | (refine ⟨by omega, S2, hI19.2.2.1, fun y y0 y1 => ?_, fun y y0 y1 => hI19.2.2.2.2 y (by omega) y1⟩
           rcases (show y < j ∨ y = j by omega) with c | c
           · exact hI19.2.2.2.1 y y0 c
           · subst c
             exact ⟨fun z => absurd z (hI19.2.2.2.2 y (by omega) (by omega)), fun z => absurd h66 z⟩)
        | (refine ⟨by omega, S2.put (by decide), fun x hx => by rw [ju_ne (by omega)]; exact hI19.2.2.1 x hx, fun y y0 y1 => ?_, fun y y0 y1 => ?_⟩
           · rw [ju_at, bt_or (by omega) (by omega)]
             rcases (show y < j ∨ y = j by omega) with c | c
             · rw [← hI19.2.2.2.1 y y0 c]
               exact ⟨fun z => z.resolve_right (by omega), Or.inl⟩
             · subst c
               exact ⟨fun _ => h66, fun _ => Or.inr rfl⟩
           · rw [ju_at, bt_or (by omega) (by omega)]
             exact fun z => z.elim (hI19.2.2.2.2 y (by omega) y1) (by omega))) (by omega)
set_option maxRecDepth 100000 in
set_option maxHeartbeats 4000000 in
theorem c_X4_begin {σ : jS} (hD : okD σ 28) : Jm 4 miX4_begin [.ref 23, .ref 28] σ (fun r τ => r = some (vI (bI (pgN (pkC σ 28) ≤ 9 ∧ 0 < σ 28 0))) ∧ same [23, 24, 25, 26] σ τ ∧ (pgN (pkC σ 28) ≤ 9 → GM τ (LN (pkC σ 28)) ∧ GH τ)) := by
  refine jm_ofF (Po := (fun r τ => r = some (vI (bI (pgN (pkC σ 28) ≤ 9 ∧ 0 < σ 28 0))) ∧ same [23, 24, 25, 26] σ τ ∧ (pgN (pkC σ 28) ≤ 9 → GM τ (LN (pkC σ 28)) ∧ GH τ))) (plainFor_of_name (by decide)) (Nat.le_of_ble_eq_true rfl) (lv := [(0, _), (1, _)]) rfl ?_
  refine r_iconst (dc dkX4_begin 0 rfl) (np 1 rfl ?_)
  refine r_istore_n (lv' := [(2, _), (0, _), (1, _)]) (dc dkX4_begin 1 rfl) (Nat.le_of_ble_eq_true rfl) rfl (np 2 rfl ?_)
  refine r_iconst (dc dkX4_begin 2 rfl) (np 3 rfl ?_)
  refine r_istore_n (lv' := [(3, _), (2, _), (0, _), (1, _)]) (dc dkX4_begin 3 rfl) (Nat.le_of_ble_eq_true rfl) rfl (np 4 rfl ?_)
  refine r_pick [2, 3, 1, 0] (lv' := [(0, _), (1, _), (2, _), (3, _)]) rfl ?_
  refine jlp3 (P := fun (m : Int) (i : Int) (τ : jS) => jR _ _ _ 4 [(0, .ref 23), (1, .ref 28), (2, vI m), (3, vI i)] [] τ) (I := fun (m : Int) (i : Int) (τ : jS) => (0 ≤ i ∧ i ≤ 100) ∧ same [23, 24, 25, 26] σ τ ∧ LI (τ 24) m (fl (fun a => lif (pkC σ 28 a = 1) [a]) i) ∧ (0 ≤ m ∧ m ≤ i ∧ m ≤ 9) ∧ (∀ j, 0 ≤ j → j < m → (0 ≤ τ 24 j ∧ τ 24 j < i) ∧ pkC σ 28 (τ 24 j) = 1) ∧ ∀ j l, 0 ≤ j → j < l → l < m → τ 24 j < τ 24 l) (fun (m : Int) (i : Int) (τ : jS) => (100 - i).toNat) ?_ _ _ _ ⟨by omega, same.refl _ _, LI_0 _, by omega, fun j j0 j1 => by omega, fun j l j0 j1 j2 => by omega⟩
  intro m i τ hI4 ih4
  obtain ⟨_, S, T, B, C, D⟩ := hI4
  have e28 : τ 28 = σ 28 := S 28 (by decide)
  have hD2 : okD τ 28 := by unfold okD; rw [e28, S 29 (by decide)]; exact hD
  have eK : pkC τ 28 i = pkC σ 28 i := by unfold pkC outB; rw [e28]
  have pb := pkG_b (σ 28 0) (σ 28 1) (outB σ 28) i
  replace pb : -1 ≤ pkC σ 28 i ∧ pkC σ 28 i ≤ 1 := pb
  refine r_iload_n (dc dkX4_begin 4 rfl) rfl (np 5 rfl ?_)
  refine r_bipush (dc dkX4_begin 5 rfl) bp_100 (np 7 rfl ?_)
  refine r_icmp_ge (tgt := 43) (dc dkX4_begin 6 rfl) rfl (by first | assumption | decide | omega) (by first | assumption | decide | omega) (fun h7 => ?_) (fun h7 => (np 10 rfl ?_))
  · skip
    have G : PGs (pkC σ 28) (τ 24) m := by
      rw [show i = 100 by omega] at T C
      exact ⟨T, by omega, fun j j0 j1 => ⟨⟨(C j j0 j1).1.1, by have := (C j j0 j1).1.2; omega⟩, (C j j0 j1).2⟩, D⟩
    have pn : pgN (pkC σ 28) ≤ 9 := by have := G.1.1; unfold pgN; omega
    refine r_aload_n (dc dkX4_begin 25 rfl) rfl (np 44 rfl ?_)
    refine r_iconst (dc dkX4_begin 26 rfl) (np 45 rfl ?_)
    refine r_pI 3 (dc dkX4_begin 27 rfl) fpX4_22 fd_23_3 rfl (np 48 rfl ?_)
    refine r_abs (fun ρ => same [23, 24, 25, 26] σ ρ ∧ ρ 24 = τ 24 ∧ ρ 23 3 = 0) ⟨S.put (by decide), ju_off _ _ _ _ _ (by decide), ju_at _ _ _ _⟩ ?_
    intro ρ1 hq1
    obtain ⟨S1, E1, E2⟩ := hq1
    refine r_iconst (dc dkX4_begin 28 rfl) (np 49 rfl ?_)
    refine r_istore_n (lv' := [(3, _), (0, _), (1, _), (2, _)]) (dc dkX4_begin 29 rfl) (Nat.le_of_ble_eq_true rfl) rfl (np 50 rfl ?_)
    refine r_pick [1, 2, 3, 0] (lv' := [(0, _), (1, _), (2, _), (3, _)]) rfl ?_
    refine jlp2 (P := fun (i : Int) (ρ : jS) => jR _ _ _ 50 [(0, .ref 23), (1, .ref 28), (2, vI m), (3, vI i)] [] ρ) (I := fun (i : Int) (ρ : jS) => (0 ≤ i ∧ i ≤ m) ∧ same [23, 24, 25, 26] σ ρ ∧ ρ 24 = τ 24 ∧ LI (ρ 25) (ρ 23 3) (fl (F2 (τ 24) (fun i j => pts (τ 24 i) (τ 24 j) = 1) m) i) ∧ (0 ≤ ρ 23 3 ∧ ρ 23 3 ≤ tri i) ∧ ∀ x, 0 ≤ x → x < ρ 23 3 → cB 9999 (ρ 25 x)) (fun (i : Int) (ρ : jS) => (m - i).toNat) ?_ _ _ ⟨by omega, S1, E1, by rw [E2]; exact LI_0 _, by rw [E2]; decide, fun x x0 x1 => by omega⟩
    intro i ρ hI50 ih50
    obtain ⟨_, S3, E3, T3, B3, C3⟩ := hI50
    refine r_iload_n (dc dkX4_begin 30 rfl) rfl (np 51 rfl ?_)
    refine r_iload_n (dc dkX4_begin 31 rfl) rfl (np 52 rfl ?_)
    refine r_icmp_ge (tgt := 143) (dc dkX4_begin 32 rfl) rfl (by first | assumption | decide | omega) (by first | assumption | decide | omega) (fun h52 => ?_) (fun h52 => (np 55 rfl ?_))
    · skip
      have T5 : LI (ρ 25) (ρ 23 3) (LN (pkC σ 28)) := by
        rw [← F2_LN G]
        rw [show i = m by omega] at T3
        exact T3
      have t9 : tri i ≤ 36 := by unfold tri; omega
      have hG : GM ρ (LN (pkC σ 28)) := ⟨T5, by omega, C3⟩
      refine r_aload_n (dc dkX4_begin 81 rfl) rfl (np 144 rfl ?_)
      refine r_cV0 (y' := miX4_findHindered) (dc dkX4_begin 82 rfl) mlX4_38 ceX4_findHindered ob_23 (Nat.le_of_ble_eq_true rfl) (Nat.le_of_ble_eq_true rfl) (c_X4_findHindered hG) (fun r τ5 hp5 => (np 147 rfl ?_))
      obtain ⟨rfl, S5, H5⟩ := hp5
      have S6 : same [23, 24, 25, 26] σ τ5 := fun c hc => by rw [S5 c (by simp at hc ⊢; omega)]; exact S3 c hc
      have e28b : τ5 28 = σ 28 := S6 28 (by decide)
      have hD5 : okD τ5 28 := by unfold okD; rw [e28b, S6 29 (by decide)]; exact hD
      have hG5 : GM τ5 (LN (pkC σ 28)) := by unfold GM; rw [S5 23 (by decide), S5 25 (by decide)]; exact hG
      refine r_aload_n (dc dkX4_begin 83 rfl) rfl (np 148 rfl ?_)
      refine r_pV0 (y' := miX1_isTold) (dc dkX4_begin 84 rfl) mlX4_41 ceX1_isTold ob_28 (Nat.le_of_ble_eq_true rfl) (Nat.le_of_ble_eq_true rfl) (c_X1_isTold isBoard_at28 hD5) (np 151 rfl ?_)
      exact r_zret (dc dkX4_begin 85 rfl) rfl (bI_01 _) ⟨congrArg (fun z => some (vI z)) (bI_iff ⟨fun z => ⟨pn, by rw [e28b] at z; exact z⟩, fun z => by rw [e28b]; exact z.2⟩), S6, fun _ => ⟨hG5, H5⟩⟩
    refine r_iload_n (dc dkX4_begin 33 rfl) rfl (np 56 rfl ?_)
    refine r_iconst (dc dkX4_begin 34 rfl) (np 57 rfl ?_)
    refine r_iadd (dc dkX4_begin 35 rfl) (np 58 rfl ?_)
    refine r_istore (lv' := [(4, _), (0, _), (1, _), (2, _), (3, _)]) (dc dkX4_begin 36 rfl) (Nat.le_of_ble_eq_true rfl) rfl (np 60 rfl ?_)
    refine r_pick [1, 2, 3, 4, 0] (lv' := [(0, _), (1, _), (2, _), (3, _), (4, _)]) rfl ?_
    refine jlp2 (P := fun (j : Int) (ρ : jS) => jR _ _ _ 60 [(0, .ref 23), (1, .ref 28), (2, vI m), (3, vI i), (4, vI j)] [] ρ) (I := fun (j : Int) (ρ : jS) => (i + 1 ≤ j ∧ j ≤ m) ∧ same [23, 24, 25, 26] σ ρ ∧ ρ 24 = τ 24 ∧ LI (ρ 25) (ρ 23 3) (fl (F2 (τ 24) (fun i j => pts (τ 24 i) (τ 24 j) = 1) m) i ++ fl (H2 (τ 24) (fun i j => pts (τ 24 i) (τ 24 j) = 1) i) j) ∧ (0 ≤ ρ 23 3 ∧ ρ 23 3 ≤ tri i + (j - i - 1)) ∧ ∀ x, 0 ≤ x → x < ρ 23 3 → cB 9999 (ρ 25 x)) (fun (j : Int) (ρ : jS) => (m - j).toNat) ?_ _ _ ⟨by omega, S3, E3, by rw [H2_0, List.append_nil]; exact T3, by omega, C3⟩
    intro j ρ hI60 ih60
    obtain ⟨_, S4, E4, T4, B4, C4⟩ := hI60
    have tb := tri_b (i := i) (by omega)
    refine r_iload (dc dkX4_begin 37 rfl) rfl (np 62 rfl ?_)
    refine r_iload_n (dc dkX4_begin 38 rfl) rfl (np 63 rfl ?_)
    refine r_icmp_ge (tgt := 137) (dc dkX4_begin 39 rfl) rfl (by first | assumption | decide | omega) (by first | assumption | decide | omega) (fun h63 => ?_) (fun h63 => (np 66 rfl ?_))
    · skip
      refine r_iinc (lv' := [(3, _), (0, _), (1, _), (2, _), (4, _)]) (dc dkX4_begin 79 rfl) (Nat.le_of_ble_eq_true rfl) rfl rfl (np 140 rfl ?_)
      refine r_goto (tgt := 50) (dc dkX4_begin 80 rfl) rfl ?_
      refine r_pick [1, 2, 3, 0] rfl ?_
      exact ih50 _ _ ⟨by omega, S4, E4, by rw [fl_s _ (by omega)]; rw [show j = m by omega] at T4; exact T4, by rw [tri_s (by omega)]; omega, C4⟩ (by omega)
    have g1 := (G.2.2.1 i (by omega) (by omega)).1
    have g2 := (G.2.2.1 j (by omega) (by omega)).1
    have g3 := pts_b g1 g2
    have e4i : ρ 24 i = τ 24 i := by rw [E4]
    have e4j : ρ 24 j = τ 24 j := by rw [E4]
    refine r_aload_n (dc dkX4_begin 40 rfl) rfl (np 67 rfl ?_)
    refine r_getR (dc dkX4_begin 41 rfl) flX4_9 fd_23_0 (np 70 rfl ?_)
    refine r_iload_n (dc dkX4_begin 42 rfl) rfl (np 71 rfl ?_)
    refine r_iald (dc dkX4_begin 43 rfl) ar_24 (by omega) (np 72 rfl ?_)
    refine r_eqI _ e4i ?_
    refine r_aload_n (dc dkX4_begin 44 rfl) rfl (np 73 rfl ?_)
    refine r_getR (dc dkX4_begin 45 rfl) flX4_9 fd_23_0 (np 76 rfl ?_)
    refine r_iload (dc dkX4_begin 46 rfl) rfl (np 78 rfl ?_)
    refine r_iald (dc dkX4_begin 47 rfl) ar_24 (by omega) (np 79 rfl ?_)
    refine r_eqI _ e4j ?_
    refine r_pS2 (y' := miX7_parts) (dc dkX4_begin 48 rfl) mlX4_32 seX7_parts (Nat.le_of_ble_eq_true rfl) (Nat.le_of_ble_eq_true rfl) (c_X7_parts g1 g2) (np 82 rfl ?_)
    refine r_iconst (dc dkX4_begin 49 rfl) (np 83 rfl ?_)
    refine r_icmp_ne (tgt := 131) (dc dkX4_begin 50 rfl) rfl (by first | assumption | decide | omega) (by first | assumption | decide | omega) (fun h83 => ?_) (fun h83 => (np 86 rfl ?_))
    · skip
      refine r_iinc (lv' := [(4, _), (0, _), (1, _), (2, _), (3, _)]) (dc dkX4_begin 77 rfl) (Nat.le_of_ble_eq_true rfl) rfl rfl (np 134 rfl ?_)
      refine r_goto (tgt := 60) (dc dkX4_begin 78 rfl) rfl ?_
      refine r_pick [1, 2, 3, 4, 0] rfl ?_
      exact ih60 _ _ (by
            first
            | (refine ⟨by omega, S4, E4, ?_, by omega, C4⟩
               rw [fl_s _ (by omega), H2_f (pl := τ 24) (Q := fun i j => pts (τ 24 i) (τ 24 j) = 1) (i := i) (j := j) h83, List.append_nil]; exact T4)
            | (exfalso; omega)
            | (have eT : ∀ v, ju (ju ρ 25 (ρ 23 3) v) 23 3 (ju ρ 25 (ρ 23 3) v 23 3 + 1) 23 3 = ρ 23 3 + 1 := fun v => by rw [ju_at, ju_off _ _ _ _ _ (by decide)]
               refine ⟨by omega, (S4.put (by decide)).put (by decide), by rw [ju_off _ _ _ _ _ (by decide), ju_off _ _ _ _ _ (by decide)]; exact E4, ?_, by rw [eT]; omega, fun x x0 x1 => ?_⟩
               · rw [eT, fl_s _ (by omega), H2_t (pl := τ 24) (Q := fun i j => pts (τ 24 i) (τ 24 j) = 1) (i := i) (j := j) (by omega) h83, ← List.append_assoc, ju_off _ _ _ _ _ (by decide)]
                 exact LI_1 T4 (by rw [ju_at, E4]) (fun j hj => ju_ne (by omega))
               · rw [eT] at x1
                 rw [ju_off _ _ _ _ _ (by decide)]
                 by_cases q : x = ρ 23 3
                 · rw [q, ju_at]; omega
                 · rw [ju_ne (by omega)]; exact C4 x x0 (by omega))) (by omega)
    refine r_aload_n (dc dkX4_begin 51 rfl) rfl (np 87 rfl ?_)
    refine r_gI 3 (dc dkX4_begin 52 rfl) flX4_22 fd_23_3 rfl (np 90 rfl ?_)
    refine r_bipush (dc dkX4_begin 53 rfl) bp_36 (np 92 rfl ?_)
    refine r_icmp_ge (tgt := 131) (dc dkX4_begin 54 rfl) rfl (by first | assumption | decide | omega) (by first | assumption | decide | omega) (fun h92 => ?_) (fun h92 => (np 95 rfl ?_))
    · skip
      refine r_iinc (lv' := [(4, _), (0, _), (1, _), (2, _), (3, _)]) (dc dkX4_begin 77 rfl) (Nat.le_of_ble_eq_true rfl) rfl rfl (np 134 rfl ?_)
      refine r_goto (tgt := 60) (dc dkX4_begin 78 rfl) rfl ?_
      refine r_pick [1, 2, 3, 4, 0] rfl ?_
      exact ih60 _ _ (by
            first
            | (refine ⟨by omega, S4, E4, ?_, by omega, C4⟩
               rw [fl_s _ (by omega), H2_f (pl := τ 24) (Q := fun i j => pts (τ 24 i) (τ 24 j) = 1) (i := i) (j := j) h83, List.append_nil]; exact T4)
            | (exfalso; omega)
            | (have eT : ∀ v, ju (ju ρ 25 (ρ 23 3) v) 23 3 (ju ρ 25 (ρ 23 3) v 23 3 + 1) 23 3 = ρ 23 3 + 1 := fun v => by rw [ju_at, ju_off _ _ _ _ _ (by decide)]
               refine ⟨by omega, (S4.put (by decide)).put (by decide), by rw [ju_off _ _ _ _ _ (by decide), ju_off _ _ _ _ _ (by decide)]; exact E4, ?_, by rw [eT]; omega, fun x x0 x1 => ?_⟩
               · rw [eT, fl_s _ (by omega), H2_t (pl := τ 24) (Q := fun i j => pts (τ 24 i) (τ 24 j) = 1) (i := i) (j := j) (by omega) h83, ← List.append_assoc, ju_off _ _ _ _ _ (by decide)]
                 exact LI_1 T4 (by rw [ju_at, E4]) (fun j hj => ju_ne (by omega))
               · rw [eT] at x1
                 rw [ju_off _ _ _ _ _ (by decide)]
                 by_cases q : x = ρ 23 3
                 · rw [q, ju_at]; omega
                 · rw [ju_ne (by omega)]; exact C4 x x0 (by omega))) (by omega)
    refine r_aload_n (dc dkX4_begin 55 rfl) rfl (np 96 rfl ?_)
    refine r_getR (dc dkX4_begin 56 rfl) flX4_15 fd_23_1 (np 99 rfl ?_)
    refine r_aload_n (dc dkX4_begin 57 rfl) rfl (np 100 rfl ?_)
    refine r_gI 3 (dc dkX4_begin 58 rfl) flX4_22 fd_23_3 rfl (np 103 rfl ?_)
    refine r_bipush (dc dkX4_begin 59 rfl) bp_100 (np 105 rfl ?_)
    refine r_aload_n (dc dkX4_begin 60 rfl) rfl (np 106 rfl ?_)
    refine r_getR (dc dkX4_begin 61 rfl) flX4_9 fd_23_0 (np 109 rfl ?_)
    refine r_iload_n (dc dkX4_begin 62 rfl) rfl (np 110 rfl ?_)
    refine r_iald (dc dkX4_begin 63 rfl) ar_24 (by omega) (np 111 rfl ?_)
    refine r_imul (dc dkX4_begin 64 rfl) (np 112 rfl ?_)
    refine r_aload_n (dc dkX4_begin 65 rfl) rfl (np 113 rfl ?_)
    refine r_getR (dc dkX4_begin 66 rfl) flX4_9 fd_23_0 (np 116 rfl ?_)
    refine r_iload (dc dkX4_begin 67 rfl) rfl (np 118 rfl ?_)
    refine r_iald (dc dkX4_begin 68 rfl) ar_24 (by omega) (np 119 rfl ?_)
    refine r_iadd (dc dkX4_begin 69 rfl) (np 120 rfl ?_)
    refine r_iast (dc dkX4_begin 70 rfl) ar_25 (by omega) (np 121 rfl ?_)
    refine r_aload_n (dc dkX4_begin 71 rfl) rfl (np 122 rfl ?_)
    refine r_dup (dc dkX4_begin 72 rfl) rfl (np 123 rfl ?_)
    refine r_gI 3 (dc dkX4_begin 73 rfl) flX4_22 fd_23_3 rfl (np 126 rfl ?_)
    refine r_iconst (dc dkX4_begin 74 rfl) (np 127 rfl ?_)
    refine r_iadd (dc dkX4_begin 75 rfl) (np 128 rfl ?_)
    refine r_pI 3 (dc dkX4_begin 76 rfl) fpX4_22 fd_23_3 rfl (np 131 rfl ?_)
    refine r_iinc (lv' := [(4, _), (0, _), (1, _), (2, _), (3, _)]) (dc dkX4_begin 77 rfl) (Nat.le_of_ble_eq_true rfl) rfl rfl (np 134 rfl ?_)
    refine r_goto (tgt := 60) (dc dkX4_begin 78 rfl) rfl ?_
    refine r_pick [1, 2, 3, 4, 0] rfl ?_
    exact ih60 _ _ (by
          first
          | (refine ⟨by omega, S4, E4, ?_, by omega, C4⟩
             rw [fl_s _ (by omega), H2_f (pl := τ 24) (Q := fun i j => pts (τ 24 i) (τ 24 j) = 1) (i := i) (j := j) h83, List.append_nil]; exact T4)
          | (exfalso; omega)
          | (have eT : ∀ v, ju (ju ρ 25 (ρ 23 3) v) 23 3 (ju ρ 25 (ρ 23 3) v 23 3 + 1) 23 3 = ρ 23 3 + 1 := fun v => by rw [ju_at, ju_off _ _ _ _ _ (by decide)]
             refine ⟨by omega, (S4.put (by decide)).put (by decide), by rw [ju_off _ _ _ _ _ (by decide), ju_off _ _ _ _ _ (by decide)]; exact E4, ?_, by rw [eT]; omega, fun x x0 x1 => ?_⟩
             · rw [eT, fl_s _ (by omega), H2_t (pl := τ 24) (Q := fun i j => pts (τ 24 i) (τ 24 j) = 1) (i := i) (j := j) (by omega) h83, ← List.append_assoc, ju_off _ _ _ _ _ (by decide)]
               exact LI_1 T4 (by rw [ju_at, E4]) (fun j hj => ju_ne (by omega))
             · rw [eT] at x1
               rw [ju_off _ _ _ _ _ (by decide)]
               by_cases q : x = ρ 23 3
               · rw [q, ju_at]; omega
               · rw [ju_ne (by omega)]; exact C4 x x0 (by omega))) (by omega)
  refine r_aload_n (dc dkX4_begin 7 rfl) rfl (np 11 rfl ?_)
  refine r_iload_n (dc dkX4_begin 8 rfl) rfl (np 12 rfl ?_)
  refine r_pV1 (y' := miX1_pegAt) (dc dkX4_begin 9 rfl) mlX4_26 ceX1_pegAt ob_28 (Nat.le_of_ble_eq_true rfl) (Nat.le_of_ble_eq_true rfl) (c_X1_pegAt isBoard_at28 hD2 (by omega)) (np 15 rfl ?_)
  refine r_eqI _ eK ?_
  refine r_iconst (dc dkX4_begin 10 rfl) (np 16 rfl ?_)
  refine r_icmp_ne (tgt := 37) (dc dkX4_begin 11 rfl) rfl (by first | assumption | decide | omega) (by first | assumption | decide | omega) (fun h16 => ?_) (fun h16 => (np 19 rfl ?_))
  · skip
    refine r_iinc (lv' := [(3, _), (0, _), (1, _), (2, _)]) (dc dkX4_begin 23 rfl) (Nat.le_of_ble_eq_true rfl) rfl rfl (np 40 rfl ?_)
    refine r_goto (tgt := 4) (dc dkX4_begin 24 rfl) rfl ?_
    refine r_pick [1, 2, 3, 0] rfl ?_
    exact ih4 _ _ _ (by
          first
          | (refine ⟨by omega, S, ?_, by omega, fun j j0 j1 => ⟨⟨(C j j0 j1).1.1, by have := (C j j0 j1).1.2; omega⟩, (C j j0 j1).2⟩, D⟩
             rw [fl_s _ (by omega), lif_f (by omega), List.append_nil]; exact T)
          | (refine ⟨by omega, S.put (by decide), ?_, by omega, fun j j0 j1 => ?_, fun j l j0 j1 j2 => ?_⟩
             · rw [fl_s _ (by omega), lif_t (by omega)]
               exact LI_1 T (ju_at _ _ _ _) (fun j hj => ju_ne (by omega))
             · by_cases q : j = m
               · rw [q, ju_at]; exact ⟨by omega, by omega⟩
               · rw [ju_ne (by omega)]
                 have := C j j0 (by omega)
                 exact ⟨by omega, this.2⟩
             · by_cases q : l = m
               · rw [q, ju_at, ju_ne (by omega)]
                 have := C j j0 (by omega); omega
               · rw [ju_ne (by omega), ju_ne (by omega)]
                 exact D j l j0 j1 (by omega))) (by omega)
  refine r_iload_n (dc dkX4_begin 12 rfl) rfl (np 20 rfl ?_)
  refine r_bipush (dc dkX4_begin 13 rfl) bp_9 (np 22 rfl ?_)
  refine r_icmp_lt (tgt := 27) (dc dkX4_begin 14 rfl) rfl (by first | assumption | decide | omega) (by first | assumption | decide | omega) (fun h22 => ?_) (fun h22 => (np 25 rfl ?_))
  · skip
    refine r_aload_n (dc dkX4_begin 17 rfl) rfl (np 28 rfl ?_)
    refine r_getR (dc dkX4_begin 18 rfl) flX4_9 fd_23_0 (np 31 rfl ?_)
    refine r_iload_n (dc dkX4_begin 19 rfl) rfl (np 32 rfl ?_)
    refine r_iload_n (dc dkX4_begin 20 rfl) rfl (np 33 rfl ?_)
    refine r_iast (dc dkX4_begin 21 rfl) ar_24 (by omega) (np 34 rfl ?_)
    refine r_iinc (lv' := [(2, _), (0, _), (1, _), (3, _)]) (dc dkX4_begin 22 rfl) (Nat.le_of_ble_eq_true rfl) rfl rfl (np 37 rfl ?_)
    refine r_iinc (lv' := [(3, _), (2, _), (0, _), (1, _)]) (dc dkX4_begin 23 rfl) (Nat.le_of_ble_eq_true rfl) rfl rfl (np 40 rfl ?_)
    refine r_goto (tgt := 4) (dc dkX4_begin 24 rfl) rfl ?_
    refine r_pick [2, 3, 1, 0] rfl ?_
    exact ih4 _ _ _ (by
          first
          | (refine ⟨by omega, S, ?_, by omega, fun j j0 j1 => ⟨⟨(C j j0 j1).1.1, by have := (C j j0 j1).1.2; omega⟩, (C j j0 j1).2⟩, D⟩
             rw [fl_s _ (by omega), lif_f (by omega), List.append_nil]; exact T)
          | (refine ⟨by omega, S.put (by decide), ?_, by omega, fun j j0 j1 => ?_, fun j l j0 j1 j2 => ?_⟩
             · rw [fl_s _ (by omega), lif_t (by omega)]
               exact LI_1 T (ju_at _ _ _ _) (fun j hj => ju_ne (by omega))
             · by_cases q : j = m
               · rw [q, ju_at]; exact ⟨by omega, by omega⟩
               · rw [ju_ne (by omega)]
                 have := C j j0 (by omega)
                 exact ⟨by omega, this.2⟩
             · by_cases q : l = m
               · rw [q, ju_at, ju_ne (by omega)]
                 have := C j j0 (by omega); omega
               · rw [ju_ne (by omega), ju_ne (by omega)]
                 exact D j l j0 j1 (by omega))) (by omega)
  refine r_iconst (dc dkX4_begin 15 rfl) (np 26 rfl ?_)
  exact r_zret (dc dkX4_begin 16 rfl) rfl (by first | exact Or.inl rfl | exact Or.inr rfl) (by
      have pn : ¬ pgN (pkC σ 28) ≤ 9 := by
        have h := (fl_pre (f := fun a => lif (pkC σ 28 a = 1) [a]) (i := i) (n := 100) (by omega) (by omega)).length_le
        rw [lif_t (show pkC σ 28 i = 1 by omega), List.length_append] at h
        have h2 := T.1
        simp only [List.length_cons, List.length_nil] at h
        unfold pgN pgL
        omega
      exact ⟨congrArg (fun z => some (vI z)) (bI_f (fun z => pn z.1)).symm, S, fun z => absurd z pn⟩)
