/-- a line lies in its row -/
def lnI (σ : jS) (a b i : Int) : Prop := σ 25 i / 100 = a ∧ σ 25 i % 100 = b
theorem fi_b {P : Int → Prop} {n : Int} (hn : 0 ≤ n ∧ n ≤ 36) : -1 ≤ fi P n ∧ fi P n < 36 ∧ (¬ fi P n = -1 → 0 ≤ fi P n ∧ fi P n < n) := by
  rcases fi_spec P hn.1 with h | h
  · omega
  · omega
/-- which lines are open, the class' lines laid being so many of row 37 -/
def opB (σ : jS) (j : Int) : Prop := j < σ 23 3 ∧ ∀ x, 0 ≤ x → x < σ 27 3 → ¬ fi (lnI σ (σ 37 x / 100) (σ 37 x % 100)) (σ 23 3) = -1 → ¬ bt (σ 26 (fi (lnI σ (σ 37 x / 100) (σ 37 x % 100)) (σ 23 3))) j
noncomputable def chL (σ : jS) (O : Int → Prop) (n : Int) : List Int := fl (fun i => lif (O i) [σ 25 i]) n
theorem ch_at {σ : jS} {O : Int → Prop} {n i : Int} (hi : 0 ≤ i ∧ i < n) (h : O i) : chL σ O i ++ [σ 25 i] <+: chL σ O n := by
  have := fl_pre (f := fun i => lif (O i) [σ 25 i]) hi.1 hi.2
  rw [lif_t h] at this
  exact this
def cWin (f : Nat) : Prop := ∀ {σ : jS} {L : List Int} {z : Int}, GM σ L → Jp (2 + f) miX4_winningPair [.ref 23, vL z, vI (5 - (f : Int))] σ (vI (wpF (σ 23 3) (fun i j => bt (σ 26 i) j) f (fun j => bt z j)))
theorem wpF_b {n : Int} (hn : 0 ≤ n ∧ n ≤ 36) (hin : Int → Int → Prop) : ∀ (f : Nat) (O : Int → Prop), -1 ≤ wpF n hin f O ∧ wpF n hin f O < 36
  | 0, _ => by unfold wpF; omega
  | f + 1, O => by
    rw [wpF]
    have := fi_b (P := fun i => O i ∧ wpF n hin f (fun j => O j ∧ ¬ hin i j) = -1) hn
    omega
set_option maxRecDepth 100000 in
set_option maxHeartbeats 4000000 in
theorem c_X4_codeOf {σ : jS} {L : List Int} (hG : GM σ L) {i : Int} (hi : 0 ≤ i ∧ i < σ 23 3) : Jp 1 miX4_codeOf [.ref 23, vI i] σ (vI (σ 25 i)) := by
  have n36 := hG.2.1
  refine jm_ofF (Po := (jP (vI (σ 25 i)) σ)) (plainFor_of_name (by decide)) (Nat.le_of_ble_eq_true rfl) (lv := [(0, _), (1, _)]) rfl ?_
  refine r_iload_n (dc dkX4_codeOf 0 rfl) rfl (np 1 rfl ?_)
  refine r_if_lt (tgt := 12) (dc dkX4_codeOf 1 rfl) rfl (by first | assumption | decide | omega) (fun h1 => ?_) (fun h1 => (np 4 rfl ?_))
  · skip
    omega
  refine r_iload_n (dc dkX4_codeOf 2 rfl) rfl (np 5 rfl ?_)
  refine r_aload_n (dc dkX4_codeOf 3 rfl) rfl (np 6 rfl ?_)
  refine r_gI 3 (dc dkX4_codeOf 4 rfl) flX4_22 fd_23_3 rfl (np 9 rfl ?_)
  refine r_icmp_lt (tgt := 16) (dc dkX4_codeOf 5 rfl) rfl (by first | assumption | decide | omega) (by first | assumption | decide | omega) (fun h9 => ?_) (fun h9 => (np 12 rfl ?_))
  · skip
    refine r_aload_n (dc dkX4_codeOf 8 rfl) rfl (np 17 rfl ?_)
    refine r_getR (dc dkX4_codeOf 9 rfl) flX4_15 fd_23_1 (np 20 rfl ?_)
    refine r_iload_n (dc dkX4_codeOf 10 rfl) rfl (np 21 rfl ?_)
    refine r_iald (dc dkX4_codeOf 11 rfl) ar_25 (by omega) (np 22 rfl ?_)
    exact r_iret (dc dkX4_codeOf 12 rfl) rfl ⟨rfl, rfl⟩
  omega
set_option maxRecDepth 100000 in
set_option maxHeartbeats 4000000 in
theorem c_X4_pairOf {σ : jS} {L : List Int} (hG : GM σ L) {a b : Int} (ha : iR a) (hb : iR b) : Jp 1 miX4_pairOf [.ref 23, vI a, vI b] σ (vI (fi (lnI σ a b) (σ 23 3))) := by
  have n36 := hG.2.1
  refine jm_ofF (Po := (jP (vI (fi (lnI σ a b) (σ 23 3))) σ)) (plainFor_of_name (by decide)) (Nat.le_of_ble_eq_true rfl) (lv := [(0, _), (1, _), (2, _)]) rfl ?_
  refine r_iconst (dc dkX4_pairOf 0 rfl) (np 1 rfl ?_)
  refine r_istore_n (lv' := [(3, _), (0, _), (1, _), (2, _)]) (dc dkX4_pairOf 1 rfl) (Nat.le_of_ble_eq_true rfl) rfl (np 2 rfl ?_)
  refine r_pick [1, 2, 3, 0] (lv' := [(0, _), (1, _), (2, _), (3, _)]) rfl ?_
  refine jlp1 (P := fun (i : Int) => jR _ _ _ 2 [(0, .ref 23), (1, vI a), (2, vI b), (3, vI i)] [] σ) (I := fun (i : Int) => (0 ≤ i ∧ i ≤ σ 23 3) ∧ fi (lnI σ a b) (σ 23 3) = fiF (lnI σ a b) (σ 23 3 - i).toNat i) (fun (i : Int) => (σ 23 3 - i).toNat) ?_ _ ⟨by omega, fi_def _ _⟩
  intro i hI2 ih2
  refine r_iload_n (dc dkX4_pairOf 2 rfl) rfl (np 3 rfl ?_)
  refine r_aload_n (dc dkX4_pairOf 3 rfl) rfl (np 4 rfl ?_)
  refine r_gI 3 (dc dkX4_pairOf 4 rfl) flX4_22 fd_23_3 rfl (np 7 rfl ?_)
  refine r_icmp_ge (tgt := 44) (dc dkX4_pairOf 5 rfl) rfl (by first | assumption | decide | omega) (by first | assumption | decide | omega) (fun h7 => ?_) (fun h7 => (np 10 rfl ?_))
  · skip
    refine r_iconst (dc dkX4_pairOf 26 rfl) (np 45 rfl ?_)
    exact r_iret (dc dkX4_pairOf 27 rfl) rfl ⟨congrArg (fun z => some (vI z)) (by rw [hI2.2]; exact (fiF_e (by omega)).symm), rfl⟩
  have c1 := hG.2.2 i (by omega) (by omega)
  refine r_aload_n (dc dkX4_pairOf 6 rfl) rfl (np 11 rfl ?_)
  refine r_getR (dc dkX4_pairOf 7 rfl) flX4_15 fd_23_1 (np 14 rfl ?_)
  refine r_iload_n (dc dkX4_pairOf 8 rfl) rfl (np 15 rfl ?_)
  refine r_iald (dc dkX4_pairOf 9 rfl) ar_25 (by omega) (np 16 rfl ?_)
  refine r_bipush (dc dkX4_pairOf 10 rfl) bp_100 (np 18 rfl ?_)
  refine r_idivn (dc dkX4_pairOf 11 rfl) (by first | assumption | decide | omega) (by first | assumption | decide | omega) (np 19 rfl ?_)
  refine r_iload_n (dc dkX4_pairOf 12 rfl) rfl (np 20 rfl ?_)
  refine r_icmp_ne (tgt := 38) (dc dkX4_pairOf 13 rfl) rfl (by first | assumption | decide | omega) (by first | assumption | decide | omega) (fun h20 => ?_) (fun h20 => (np 23 rfl ?_))
  · skip
    refine r_iinc (lv' := [(3, _), (0, _), (1, _), (2, _)]) (dc dkX4_pairOf 24 rfl) (Nat.le_of_ble_eq_true rfl) rfl rfl (np 41 rfl ?_)
    refine r_goto (tgt := 2) (dc dkX4_pairOf 25 rfl) rfl ?_
    refine r_pick [1, 2, 3, 0] rfl ?_
    exact ih2 _ ⟨by omega, by rw [hI2.2]; exact fiF_n (by omega) (fun z => by have z1 := z.1; have z2 := z.2; omega)⟩ (by omega)
  refine r_aload_n (dc dkX4_pairOf 14 rfl) rfl (np 24 rfl ?_)
  refine r_getR (dc dkX4_pairOf 15 rfl) flX4_15 fd_23_1 (np 27 rfl ?_)
  refine r_iload_n (dc dkX4_pairOf 16 rfl) rfl (np 28 rfl ?_)
  refine r_iald (dc dkX4_pairOf 17 rfl) ar_25 (by omega) (np 29 rfl ?_)
  refine r_bipush (dc dkX4_pairOf 18 rfl) bp_100 (np 31 rfl ?_)
  refine r_iremn (dc dkX4_pairOf 19 rfl) (by first | assumption | decide | omega) (by first | assumption | decide | omega) (np 32 rfl ?_)
  refine r_iload_n (dc dkX4_pairOf 20 rfl) rfl (np 33 rfl ?_)
  refine r_icmp_ne (tgt := 38) (dc dkX4_pairOf 21 rfl) rfl (by first | assumption | decide | omega) (by first | assumption | decide | omega) (fun h33 => ?_) (fun h33 => (np 36 rfl ?_))
  · skip
    refine r_iinc (lv' := [(3, _), (0, _), (1, _), (2, _)]) (dc dkX4_pairOf 24 rfl) (Nat.le_of_ble_eq_true rfl) rfl rfl (np 41 rfl ?_)
    refine r_goto (tgt := 2) (dc dkX4_pairOf 25 rfl) rfl ?_
    refine r_pick [1, 2, 3, 0] rfl ?_
    exact ih2 _ ⟨by omega, by rw [hI2.2]; exact fiF_n (by omega) (fun z => by have z1 := z.1; have z2 := z.2; omega)⟩ (by omega)
  refine r_iload_n (dc dkX4_pairOf 22 rfl) rfl (np 37 rfl ?_)
  exact r_iret (dc dkX4_pairOf 23 rfl) rfl ⟨congrArg (fun z => some (vI z)) (by rw [hI2.2]; exact (fiF_t (by omega) ⟨by omega, by omega⟩).symm), rfl⟩
set_option maxRecDepth 100000 in
set_option maxHeartbeats 4000000 in
theorem c_X4_openOn {σ : jS} {L : List Int} (hG : GM σ L) (hl : cB 4 (σ 27 3)) (hc : ∀ i, 0 ≤ i → i < σ 27 3 → cB 9999 (σ 37 i)) : Jm 2 miX4_openOn [.ref 23, .ref 27] σ (fun r τ => τ = σ ∧ ∃ z, r = some (vL z) ∧ ∀ j, 0 ≤ j → j < 64 → (bt z j ↔ opB σ j)) := by
  have n36 := hG.2.1
  refine jm_ofF (Po := (fun r τ => τ = σ ∧ ∃ z, r = some (vL z) ∧ ∀ j, 0 ≤ j → j < 64 → (bt z j ↔ opB σ j))) (plainFor_of_name (by decide)) (Nat.le_of_ble_eq_true rfl) (lv := [(0, _), (1, _)]) rfl ?_
  refine r_lconst (dc dkX4_openOn 0 rfl) lc_1 (np 1 rfl ?_)
  refine r_aload_n (dc dkX4_openOn 1 rfl) rfl (np 2 rfl ?_)
  refine r_gI 3 (dc dkX4_openOn 2 rfl) flX4_22 fd_23_3 rfl (np 5 rfl ?_)
  refine r_lshl (dc dkX4_openOn 3 rfl) (np 6 rfl ?_)
  refine r_lconst (dc dkX4_openOn 4 rfl) lc_1 (np 7 rfl ?_)
  refine r_lsub (dc dkX4_openOn 5 rfl) (np 8 rfl ?_)
  refine r_lstore_n (lv' := [(2, _), (0, _), (1, _)]) (dc dkX4_openOn 6 rfl) (Nat.le_of_ble_eq_true rfl) rfl (np 9 rfl ?_)
  refine r_iconst (dc dkX4_openOn 7 rfl) (np 10 rfl ?_)
  refine r_istore (lv' := [(4, _), (2, _), (0, _), (1, _)]) (dc dkX4_openOn 8 rfl) (Nat.le_of_ble_eq_true rfl) rfl (np 12 rfl ?_)
  refine r_pick [2, 3, 1, 0] (lv' := [(0, _), (1, _), (2, _), (4, _)]) rfl ?_
  refine jlp2 (P := fun (z : Int) (i : Int) => jR _ _ _ 12 [(0, .ref 23), (1, .ref 27), (2, vL z), (4, vI i)] [] σ) (I := fun (z : Int) (i : Int) => (0 ≤ i ∧ i ≤ σ 27 3) ∧ ∀ j, 0 ≤ j → j < 64 → (bt z j ↔ (j < σ 23 3 ∧ ∀ x, 0 ≤ x → x < i → ¬ (fi (lnI σ (σ 37 x / 100) (σ 37 x % 100)) (σ 23 3)) = -1 → ¬ bt (σ 26 (fi (lnI σ (σ 37 x / 100) (σ 37 x % 100)) (σ 23 3))) j))) (fun (z : Int) (i : Int) => (σ 27 3 - i).toNat) ?_ _ _ ⟨by omega, fun j j0 j1 => by rw [bt_low (by omega) ⟨j0, j1⟩]; exact ⟨fun w => ⟨w, fun x x0 x1 => by omega⟩, fun w => w.1⟩⟩
  intro z i hI12 ih12
  refine r_iload (dc dkX4_openOn 9 rfl) rfl (np 14 rfl ?_)
  refine r_aload_n (dc dkX4_openOn 10 rfl) rfl (np 15 rfl ?_)
  refine r_gI 3 (dc dkX4_openOn 11 rfl) flX4_49 fd_27_3 rfl (np 18 rfl ?_)
  refine r_icmp_ge (tgt := 79) (dc dkX4_openOn 12 rfl) rfl (by first | assumption | decide | omega) (by first | assumption | decide | omega) (fun h18 => ?_) (fun h18 => (np 21 rfl ?_))
  · skip
    refine r_lload_n (dc dkX4_openOn 45 rfl) rfl (np 80 rfl ?_)
    exact r_lret (dc dkX4_openOn 46 rfl) rfl ⟨rfl, _, rfl, fun j j0 j1 => by rw [hI12.2 j j0 j1, show i = σ 27 3 by omega]; rfl⟩
  refine r_iload (dc dkX4_openOn 13 rfl) rfl (np 23 rfl ?_)
  refine r_iconst (dc dkX4_openOn 14 rfl) (np 24 rfl ?_)
  refine r_icmp_ge (tgt := 79) (dc dkX4_openOn 15 rfl) rfl (by first | assumption | decide | omega) (by first | assumption | decide | omega) (fun h24 => ?_) (fun h24 => (np 27 rfl ?_))
  · skip
    refine r_lload_n (dc dkX4_openOn 45 rfl) rfl (np 80 rfl ?_)
    exact r_lret (dc dkX4_openOn 46 rfl) rfl ⟨rfl, _, rfl, fun j j0 j1 => by rw [hI12.2 j j0 j1, show i = σ 27 3 by omega]; rfl⟩
  have c1 := hc i (by omega) (by omega)
  have fb := fi_b (P := lnI σ (σ 37 i / 100) (σ 37 i % 100)) n36
  refine r_aload_n (dc dkX4_openOn 16 rfl) rfl (np 28 rfl ?_)
  refine r_aload_n (dc dkX4_openOn 17 rfl) rfl (np 29 rfl ?_)
  refine r_getR (dc dkX4_openOn 18 rfl) flX4_54 fd_27_4 (np 32 rfl ?_)
  refine r_iload (dc dkX4_openOn 19 rfl) rfl (np 34 rfl ?_)
  refine r_iald (dc dkX4_openOn 20 rfl) ar_37 (by omega) (np 35 rfl ?_)
  refine r_bipush (dc dkX4_openOn 21 rfl) bp_100 (np 37 rfl ?_)
  refine r_idivn (dc dkX4_openOn 22 rfl) (by first | assumption | decide | omega) (by first | assumption | decide | omega) (np 38 rfl ?_)
  refine r_aload_n (dc dkX4_openOn 23 rfl) rfl (np 39 rfl ?_)
  refine r_getR (dc dkX4_openOn 24 rfl) flX4_54 fd_27_4 (np 42 rfl ?_)
  refine r_iload (dc dkX4_openOn 25 rfl) rfl (np 44 rfl ?_)
  refine r_iald (dc dkX4_openOn 26 rfl) ar_37 (by omega) (np 45 rfl ?_)
  refine r_bipush (dc dkX4_openOn 27 rfl) bp_100 (np 47 rfl ?_)
  refine r_iremn (dc dkX4_openOn 28 rfl) (by first | assumption | decide | omega) (by first | assumption | decide | omega) (np 48 rfl ?_)
  refine r_pV2 (y' := miX4_pairOf) (dc dkX4_openOn 29 rfl) mlX4_57 ceX4_pairOf ob_23 (Nat.le_of_ble_eq_true rfl) (Nat.le_of_ble_eq_true rfl) (c_X4_pairOf hG (by omega) (by omega)) (np 51 rfl ?_)
  refine r_istore (lv' := [(5, _), (0, _), (1, _), (2, _), (4, _)]) (dc dkX4_openOn 30 rfl) (Nat.le_of_ble_eq_true rfl) rfl (np 53 rfl ?_)
  refine r_iload (dc dkX4_openOn 31 rfl) rfl (np 55 rfl ?_)
  refine r_iconst (dc dkX4_openOn 32 rfl) (np 56 rfl ?_)
  refine r_icmp_eq (tgt := 73) (dc dkX4_openOn 33 rfl) rfl (by first | assumption | decide | omega) (by first | assumption | decide | omega) (fun h56 => ?_) (fun h56 => (np 59 rfl ?_))
  · skip
    refine r_iinc (lv' := [(4, _), (5, _), (0, _), (1, _), (2, _)]) (dc dkX4_openOn 43 rfl) (Nat.le_of_ble_eq_true rfl) rfl rfl (np 76 rfl ?_)
    refine r_goto (tgt := 12) (dc dkX4_openOn 44 rfl) rfl ?_
    refine r_pick [2, 3, 4, 0] rfl ?_
    exact ih12 _ _ ⟨by omega, fun j j0 j1 => by
          have w := hI12.2 j j0 j1
          first
          | (rw [bt_nand ⟨j0, j1⟩, w]
             constructor
             · intro u
               refine ⟨u.1.1, fun x x0 x1 xh => ?_⟩
               rcases (show x < i ∨ x = i by omega) with c | c
               · exact u.1.2 x x0 c xh
               · subst c; exact u.2
             · intro u
               exact ⟨⟨u.1, fun x x0 x1 => u.2 x x0 (by omega)⟩, u.2 i (by omega) (by omega) h56⟩)
          | (rw [w]
             constructor
             · intro u
               refine ⟨u.1, fun x x0 x1 xh => ?_⟩
               rcases (show x < i ∨ x = i by omega) with c | c
               · exact u.2 x x0 c xh
               · subst c; exact absurd h56 xh
             · intro u
               exact ⟨u.1, fun x x0 x1 => u.2 x x0 (by omega)⟩)⟩ (by omega)
  refine r_lload_n (dc dkX4_openOn 34 rfl) rfl (np 60 rfl ?_)
  refine r_aload_n (dc dkX4_openOn 35 rfl) rfl (np 61 rfl ?_)
  refine r_getR (dc dkX4_openOn 36 rfl) flX4_18 fd_23_2 (np 64 rfl ?_)
  refine r_iload (dc dkX4_openOn 37 rfl) rfl (np 66 rfl ?_)
  refine r_lald (dc dkX4_openOn 38 rfl) ar_26 (by omega) (np 67 rfl ?_)
  refine r_ldc2 (z := -1) (dc dkX4_openOn 39 rfl) ckX4_60 (by decide) (np 70 rfl ?_)
  refine r_lxor (dc dkX4_openOn 40 rfl) (np 71 rfl ?_)
  refine r_land (dc dkX4_openOn 41 rfl) (np 72 rfl ?_)
  refine r_lstore_n (lv' := [(2, _), (5, _), (0, _), (1, _), (4, _)]) (dc dkX4_openOn 42 rfl) (Nat.le_of_ble_eq_true rfl) rfl (np 73 rfl ?_)
  refine r_iinc (lv' := [(4, _), (2, _), (5, _), (0, _), (1, _)]) (dc dkX4_openOn 43 rfl) (Nat.le_of_ble_eq_true rfl) rfl rfl (np 76 rfl ?_)
  refine r_goto (tgt := 12) (dc dkX4_openOn 44 rfl) rfl ?_
  refine r_pick [3, 4, 1, 0] rfl ?_
  exact ih12 _ _ ⟨by omega, fun j j0 j1 => by
        have w := hI12.2 j j0 j1
        first
        | (rw [bt_nand ⟨j0, j1⟩, w]
           constructor
           · intro u
             refine ⟨u.1.1, fun x x0 x1 xh => ?_⟩
             rcases (show x < i ∨ x = i by omega) with c | c
             · exact u.1.2 x x0 c xh
             · subst c; exact u.2
           · intro u
             exact ⟨⟨u.1, fun x x0 x1 => u.2 x x0 (by omega)⟩, u.2 i (by omega) (by omega) h56⟩)
        | (rw [w]
           constructor
           · intro u
             refine ⟨u.1, fun x x0 x1 xh => ?_⟩
             rcases (show x < i ∨ x = i by omega) with c | c
             · exact u.2 x x0 c xh
             · subst c; exact absurd h56 xh
           · intro u
             exact ⟨u.1, fun x x0 x1 => u.2 x x0 (by omega)⟩)⟩ (by omega)
set_option maxRecDepth 100000 in
set_option maxHeartbeats 4000000 in
theorem c_X4_choice {σ : jS} {L : List Int} (hG : GM σ L) {z k : Int} (hk : iR k) : Jp 1 miX4_choice [.ref 23, vL z, vI k] σ (vI (nthL (chL σ (fun i => bt z i) (σ 23 3)) k)) := by
  have n36 := hG.2.1
  refine jm_ofF (Po := (jP (vI (nthL (chL σ (fun i => bt z i) (σ 23 3)) k)) σ)) (plainFor_of_name (by decide)) (Nat.le_of_ble_eq_true rfl) (lv := [(0, _), (1, _), (3, _)]) rfl ?_
  refine r_iconst (dc dkX4_choice 0 rfl) (np 1 rfl ?_)
  refine r_istore (lv' := [(4, _), (0, _), (1, _), (3, _)]) (dc dkX4_choice 1 rfl) (Nat.le_of_ble_eq_true rfl) rfl (np 3 rfl ?_)
  refine r_iconst (dc dkX4_choice 2 rfl) (np 4 rfl ?_)
  refine r_istore (lv' := [(5, _), (4, _), (0, _), (1, _), (3, _)]) (dc dkX4_choice 3 rfl) (Nat.le_of_ble_eq_true rfl) rfl (np 6 rfl ?_)
  refine r_pick [2, 3, 4, 1, 0] (lv' := [(0, _), (1, _), (3, _), (4, _), (5, _)]) rfl ?_
  refine jlp2 (P := fun (n : Int) (i : Int) => jR _ _ _ 6 [(0, .ref 23), (1, vL z), (3, vI k), (4, vI n), (5, vI i)] [] σ) (I := fun (n : Int) (i : Int) => (0 ≤ i ∧ i ≤ σ 23 3) ∧ n = (chL σ (fun i => bt z i) i).length ∧ ¬ (0 ≤ k ∧ k < n) ∧ n ≤ i) (fun (n : Int) (i : Int) => (σ 23 3 - i).toNat) ?_ _ _ ⟨by omega, rfl, by omega, by omega⟩
  intro n i hI6 ih6
  refine r_iload (dc dkX4_choice 4 rfl) rfl (np 8 rfl ?_)
  refine r_aload_n (dc dkX4_choice 5 rfl) rfl (np 9 rfl ?_)
  refine r_gI 3 (dc dkX4_choice 6 rfl) flX4_22 fd_23_3 rfl (np 12 rfl ?_)
  refine r_icmp_ge (tgt := 49) (dc dkX4_choice 7 rfl) rfl (by first | assumption | decide | omega) (by first | assumption | decide | omega) (fun h12 => ?_) (fun h12 => (np 15 rfl ?_))
  · skip
    refine r_iload_n (dc dkX4_choice 27 rfl) rfl (np 50 rfl ?_)
    refine r_iconst (dc dkX4_choice 28 rfl) (np 51 rfl ?_)
    refine r_icmp_ne (tgt := 59) (dc dkX4_choice 29 rfl) rfl (by first | assumption | decide | omega) (by first | assumption | decide | omega) (fun h51 => ?_) (fun h51 => (np 54 rfl ?_))
    · skip
      refine r_iconst (dc dkX4_choice 32 rfl) (np 60 rfl ?_)
      exact r_iret (dc dkX4_choice 33 rfl) rfl ⟨congrArg (fun z => some (vI z)) (by rw [show i = σ 23 3 by omega] at hI6; rw [nthL_end hI6.2.1 hI6.2.2.1]; first | (rw [if_pos (by omega)]; done) | (rw [if_neg (by omega)]; done)), rfl⟩
    refine r_iload (dc dkX4_choice 30 rfl) rfl (np 56 rfl ?_)
    refine r_goto (tgt := 60) (dc dkX4_choice 31 rfl) rfl ?_
    exact r_iret (dc dkX4_choice 33 rfl) rfl ⟨congrArg (fun z => some (vI z)) (by rw [show i = σ 23 3 by omega] at hI6; rw [nthL_end hI6.2.1 hI6.2.2.1]; first | (rw [if_pos (by omega)]; done) | (rw [if_neg (by omega)]; done)), rfl⟩
  refine r_lload_n (dc dkX4_choice 8 rfl) rfl (np 16 rfl ?_)
  refine r_iload (dc dkX4_choice 9 rfl) rfl (np 18 rfl ?_)
  refine r_lshr (dc dkX4_choice 10 rfl) (np 19 rfl ?_)
  refine r_lconst (dc dkX4_choice 11 rfl) lc_1 (np 20 rfl ?_)
  refine r_land (dc dkX4_choice 12 rfl) (np 21 rfl ?_)
  refine r_eqL (bI (bt z i)) (lbit (by omega)) ?_
  refine r_lconst (dc dkX4_choice 13 rfl) lc_0 (np 22 rfl ?_)
  refine r_lcmp (dc dkX4_choice 14 rfl) (by have := bI_01 (bt z i); omega) (by first | assumption | decide | omega) (np 23 rfl ?_)
  refine r_if_eq (tgt := 43) (dc dkX4_choice 15 rfl) rfl (by unfold jcmp; split <;> (try split) <;> decide) (fun h23 => ?_) (fun h23 => (np 26 rfl ?_))
  · skip
    refine r_iinc (lv' := [(5, _), (0, _), (1, _), (3, _), (4, _)]) (dc dkX4_choice 25 rfl) (Nat.le_of_ble_eq_true rfl) rfl rfl (np 46 rfl ?_)
    refine r_goto (tgt := 6) (dc dkX4_choice 26 rfl) rfl ?_
    refine r_pick [1, 2, 3, 4, 0] rfl ?_
    exact ih6 _ _ (by
          refine ⟨by omega, ?_⟩
          unfold chL
          rw [fl_s _ (by omega)]
          first
          | (rw [lif_f (jcmp_b.mp h23), List.append_nil]; exact ⟨hI6.2.1, hI6.2.2.1, by omega⟩)
          | (rw [lif_t (Classical.byContradiction (fun w => h23 (jcmp_b.mpr w)))]
             have w := fnd_s (c := σ 25 i) hI6.2.1 hI6.2.2.1 (by omega)
             exact ⟨w.1, w.2, by omega⟩)) (by omega)
  refine r_iload (dc dkX4_choice 16 rfl) rfl (np 28 rfl ?_)
  refine r_iload_n (dc dkX4_choice 17 rfl) rfl (np 29 rfl ?_)
  refine r_icmp_ne (tgt := 40) (dc dkX4_choice 18 rfl) rfl (by first | assumption | decide | omega) (by first | assumption | decide | omega) (fun h29 => ?_) (fun h29 => (np 32 rfl ?_))
  · skip
    refine r_iinc (lv' := [(4, _), (0, _), (1, _), (3, _), (5, _)]) (dc dkX4_choice 24 rfl) (Nat.le_of_ble_eq_true rfl) rfl rfl (np 43 rfl ?_)
    refine r_iinc (lv' := [(5, _), (4, _), (0, _), (1, _), (3, _)]) (dc dkX4_choice 25 rfl) (Nat.le_of_ble_eq_true rfl) rfl rfl (np 46 rfl ?_)
    refine r_goto (tgt := 6) (dc dkX4_choice 26 rfl) rfl ?_
    refine r_pick [2, 3, 4, 1, 0] rfl ?_
    exact ih6 _ _ (by
          refine ⟨by omega, ?_⟩
          unfold chL
          rw [fl_s _ (by omega)]
          first
          | (rw [lif_f (jcmp_b.mp h23), List.append_nil]; exact ⟨hI6.2.1, hI6.2.2.1, by omega⟩)
          | (rw [lif_t (Classical.byContradiction (fun w => h23 (jcmp_b.mpr w)))]
             have w := fnd_s (c := σ 25 i) hI6.2.1 hI6.2.2.1 (by omega)
             exact ⟨w.1, w.2, by omega⟩)) (by omega)
  refine r_aload_n (dc dkX4_choice 19 rfl) rfl (np 33 rfl ?_)
  refine r_getR (dc dkX4_choice 20 rfl) flX4_15 fd_23_1 (np 36 rfl ?_)
  refine r_iload (dc dkX4_choice 21 rfl) rfl (np 38 rfl ?_)
  refine r_iald (dc dkX4_choice 22 rfl) ar_25 (by omega) (np 39 rfl ?_)
  exact r_iret (dc dkX4_choice 23 rfl) rfl ⟨congrArg (fun z => some (vI z)) ((nthL_at (ch_at ⟨by omega, by omega⟩ (Classical.byContradiction (fun w => h23 (jcmp_b.mpr w)))) (by rw [← hI6.2.1]; omega)).symm), rfl⟩
theorem cWin_0 : cWin 0 := by
  intro σ L z hG
  refine jm_ofF (Po := (jP (vI (wpF (σ 23 3) (fun i j => bt (σ 26 i) j) 0 (fun j => bt z j))) σ)) (plainFor_of_name (by decide)) (Nat.le_of_ble_eq_true rfl) (lv := [(0, _), (1, _), (3, _)]) rfl ?_
  refine r_iload_n (dc dkX4_winningPair 0 rfl) rfl (np 1 rfl ?_)
  refine r_iconst (dc dkX4_winningPair 1 rfl) (np 2 rfl ?_)
  refine r_icmp_le (tgt := 7) (dc dkX4_winningPair 2 rfl) rfl (by first | assumption | decide | omega) (by first | assumption | decide | omega) (fun h2 => ?_) (fun h2 => (np 5 rfl ?_))
  · skip
    omega
  refine r_iconst (dc dkX4_winningPair 3 rfl) (np 6 rfl ?_)
  exact r_iret (dc dkX4_winningPair 4 rfl) rfl ⟨congrArg (fun z => some (vI z)) (rfl), rfl⟩
set_option maxRecDepth 100000 in
set_option maxHeartbeats 4000000 in
theorem cWin_s {f : Nat} (hf : f < 5) (ih : cWin f) : cWin (f + 1) := by
  intro σ L z hG
  have n36 := hG.2.1
  refine jm_ofF (Po := (jP (vI (wpF (σ 23 3) (fun i j => bt (σ 26 i) j) (f + 1) (fun j => bt z j))) σ)) (plainFor_of_name (by decide)) (Nat.le_of_ble_eq_true rfl) (lv := [(0, _), (1, _), (3, _)]) rfl ?_
  refine r_iload_n (dc dkX4_winningPair 0 rfl) rfl (np 1 rfl ?_)
  refine r_iconst (dc dkX4_winningPair 1 rfl) (np 2 rfl ?_)
  refine r_icmp_le (tgt := 7) (dc dkX4_winningPair 2 rfl) rfl (by first | assumption | decide | omega) (by first | assumption | decide | omega) (fun h2 => ?_) (fun h2 => (np 5 rfl ?_))
  · skip
    refine r_iconst (dc dkX4_winningPair 5 rfl) (np 8 rfl ?_)
    refine r_istore (lv' := [(4, _), (0, _), (1, _), (3, _)]) (dc dkX4_winningPair 6 rfl) (Nat.le_of_ble_eq_true rfl) rfl (np 10 rfl ?_)
    refine r_pick [1, 2, 3, 0] (lv' := [(0, _), (1, _), (3, _), (4, _)]) rfl ?_
    refine jlp1 (P := fun (i : Int) => jR _ _ _ 10 [(0, .ref 23), (1, vL z), (3, vI (5 - ((f + 1 : Nat) : Int))), (4, vI i)] [] σ) (I := fun (i : Int) => (0 ≤ i ∧ i ≤ σ 23 3) ∧ fi (fun i => bt z i ∧ wpF (σ 23 3) (fun i j => bt (σ 26 i) j) f (fun j => bt z j ∧ ¬ bt (σ 26 i) j) = -1) (σ 23 3) = fiF (fun i => bt z i ∧ wpF (σ 23 3) (fun i j => bt (σ 26 i) j) f (fun j => bt z j ∧ ¬ bt (σ 26 i) j) = -1) (σ 23 3 - i).toNat i) (fun (i : Int) => (σ 23 3 - i).toNat) ?_ _ ⟨by omega, fi_def _ _⟩
    intro i hI10 ih10
    refine r_iload (dc dkX4_winningPair 7 rfl) rfl (np 12 rfl ?_)
    refine r_aload_n (dc dkX4_winningPair 8 rfl) rfl (np 13 rfl ?_)
    refine r_gI 3 (dc dkX4_winningPair 9 rfl) flX4_22 fd_23_3 rfl (np 16 rfl ?_)
    refine r_icmp_ge (tgt := 63) (dc dkX4_winningPair 10 rfl) rfl (by first | assumption | decide | omega) (by first | assumption | decide | omega) (fun h16 => ?_) (fun h16 => (np 19 rfl ?_))
    · skip
      refine r_iconst (dc dkX4_winningPair 38 rfl) (np 64 rfl ?_)
      exact r_iret (dc dkX4_winningPair 39 rfl) rfl ⟨congrArg (fun z => some (vI z)) (by rw [wpF, hI10.2]; exact (fiF_e (P := (fun i => bt z i ∧ wpF (σ 23 3) (fun i j => bt (σ 26 i) j) f (fun j => bt z j ∧ ¬ bt (σ 26 i) j) = -1)) (by omega)).symm), rfl⟩
    refine r_lload_n (dc dkX4_winningPair 11 rfl) rfl (np 20 rfl ?_)
    refine r_iload (dc dkX4_winningPair 12 rfl) rfl (np 22 rfl ?_)
    refine r_lshr (dc dkX4_winningPair 13 rfl) (np 23 rfl ?_)
    refine r_lconst (dc dkX4_winningPair 14 rfl) lc_1 (np 24 rfl ?_)
    refine r_land (dc dkX4_winningPair 15 rfl) (np 25 rfl ?_)
    refine r_eqL (bI (bt z i)) (lbit (by omega)) ?_
    refine r_lconst (dc dkX4_winningPair 16 rfl) lc_0 (np 26 rfl ?_)
    refine r_lcmp (dc dkX4_winningPair 17 rfl) (by have := bI_01 (bt z i); omega) (by first | assumption | decide | omega) (np 27 rfl ?_)
    refine r_if_eq (tgt := 57) (dc dkX4_winningPair 18 rfl) rfl (by unfold jcmp; split <;> (try split) <;> decide) (fun h27 => ?_) (fun h27 => (np 30 rfl ?_))
    · skip
      refine r_iinc (lv' := [(4, _), (0, _), (1, _), (3, _)]) (dc dkX4_winningPair 36 rfl) (Nat.le_of_ble_eq_true rfl) rfl rfl (np 60 rfl ?_)
      refine r_goto (tgt := 10) (dc dkX4_winningPair 37 rfl) rfl ?_
      refine r_pick [1, 2, 3, 0] rfl ?_
      exact ih10 _ ⟨by omega, by rw [hI10.2]; exact fiF_n (P := (fun i => bt z i ∧ wpF (σ 23 3) (fun i j => bt (σ 26 i) j) f (fun j => bt z j ∧ ¬ bt (σ 26 i) j) = -1)) (by omega) (fun w => by first | exact (jcmp_b.mp h27) w.1 | (have w2 := w.2; rw [← we] at w2; omega))⟩ (by omega)
    refine r_aload_n (dc dkX4_winningPair 19 rfl) rfl (np 31 rfl ?_)
    refine r_lload_n (dc dkX4_winningPair 20 rfl) rfl (np 32 rfl ?_)
    refine r_aload_n (dc dkX4_winningPair 21 rfl) rfl (np 33 rfl ?_)
    refine r_getR (dc dkX4_winningPair 22 rfl) flX4_18 fd_23_2 (np 36 rfl ?_)
    refine r_iload (dc dkX4_winningPair 23 rfl) rfl (np 38 rfl ?_)
    refine r_lald (dc dkX4_winningPair 24 rfl) ar_26 (by omega) (np 39 rfl ?_)
    refine r_ldc2 (z := -1) (dc dkX4_winningPair 25 rfl) ckX4_60 (by decide) (np 42 rfl ?_)
    refine r_lxor (dc dkX4_winningPair 26 rfl) (np 43 rfl ?_)
    refine r_land (dc dkX4_winningPair 27 rfl) (np 44 rfl ?_)
    refine r_iload_n (dc dkX4_winningPair 28 rfl) rfl (np 45 rfl ?_)
    refine r_iconst (dc dkX4_winningPair 29 rfl) (np 46 rfl ?_)
    have e5 : (5 - ((f + 1 : Nat) : Int) + 1) = 5 - (f : Int) := by omega
    refine r_iadd (dc dkX4_winningPair 30 rfl) (np 47 rfl ?_)
    refine r_eqI _ e5 ?_
    refine r_pV2 (y' := miX4_winningPair) (dc dkX4_winningPair 31 rfl) mlX4_62 ceX4_winningPair ob_23 (by omega) (Nat.le_of_ble_eq_true rfl) (ih hG) (np 50 rfl ?_)
    have wb := wpF_b n36 (fun i j => bt (σ 26 i) j) f (fun j => bt (lAnd z (lXor (σ 26 i) (-1))) j)
    have we : wpF (σ 23 3) (fun i j => bt (σ 26 i) j) f (fun j => bt (lAnd z (lXor (σ 26 i) (-1))) j) = wpF (σ 23 3) (fun i j => bt (σ 26 i) j) f (fun j => bt z j ∧ ¬ bt (σ 26 i) j) := wpF_c (fun _ _ _ _ _ _ => Iff.rfl) f _ _ (fun j j0 j1 => bt_nand (by omega))
    refine r_iconst (dc dkX4_winningPair 32 rfl) (np 51 rfl ?_)
    refine r_icmp_ne (tgt := 57) (dc dkX4_winningPair 33 rfl) rfl (by first | assumption | decide | omega) (by first | assumption | decide | omega) (fun h51 => ?_) (fun h51 => (np 54 rfl ?_))
    · skip
      refine r_iinc (lv' := [(4, _), (0, _), (1, _), (3, _)]) (dc dkX4_winningPair 36 rfl) (Nat.le_of_ble_eq_true rfl) rfl rfl (np 60 rfl ?_)
      refine r_goto (tgt := 10) (dc dkX4_winningPair 37 rfl) rfl ?_
      refine r_pick [1, 2, 3, 0] rfl ?_
      exact ih10 _ ⟨by omega, by rw [hI10.2]; exact fiF_n (P := (fun i => bt z i ∧ wpF (σ 23 3) (fun i j => bt (σ 26 i) j) f (fun j => bt z j ∧ ¬ bt (σ 26 i) j) = -1)) (by omega) (fun w => by first | exact (jcmp_b.mp h27) w.1 | (have w2 := w.2; rw [← we] at w2; omega))⟩ (by omega)
    refine r_iload (dc dkX4_winningPair 34 rfl) rfl (np 56 rfl ?_)
    exact r_iret (dc dkX4_winningPair 35 rfl) rfl ⟨congrArg (fun z => some (vI z)) (by rw [wpF, hI10.2]; exact (fiF_t (P := (fun i => bt z i ∧ wpF (σ 23 3) (fun i j => bt (σ 26 i) j) f (fun j => bt z j ∧ ¬ bt (σ 26 i) j) = -1)) (by omega) ⟨Classical.byContradiction (fun w => h27 (jcmp_b.mpr w)), by rw [← we]; omega⟩).symm), rfl⟩
  omega
theorem cWin_5 : cWin 5 := cWin_s (by decide) (cWin_s (by decide) (cWin_s (by decide) (cWin_s (by decide) (cWin_s (by decide) cWin_0))))
set_option maxRecDepth 100000 in
set_option maxHeartbeats 4000000 in
theorem c_X4_winning {σ : jS} {L : List Int} (hG : GM σ L) {z : Int} : Jp 8 miX4_winning [.ref 23, vL z] σ (vI (if (wpF (σ 23 3) (fun i j => bt (σ 26 i) j) 5 (fun j => bt z j)) = -1 then -1 else σ 25 (wpF (σ 23 3) (fun i j => bt (σ 26 i) j) 5 (fun j => bt z j)))) := by
  have n36 := hG.2.1
  have wb := wpF_b n36 (fun i j => bt (σ 26 i) j) 5 (fun j => bt z j)
  have fb := fi_b (P := fun i => bt z i ∧ wpF (σ 23 3) (fun i j => bt (σ 26 i) j) 4 (fun j => bt z j ∧ ¬ bt (σ 26 i) j) = -1) n36
  replace fb : -1 ≤ (wpF (σ 23 3) (fun i j => bt (σ 26 i) j) 5 (fun j => bt z j)) ∧ (wpF (σ 23 3) (fun i j => bt (σ 26 i) j) 5 (fun j => bt z j)) < 36 ∧ (¬ (wpF (σ 23 3) (fun i j => bt (σ 26 i) j) 5 (fun j => bt z j)) = -1 → 0 ≤ (wpF (σ 23 3) (fun i j => bt (σ 26 i) j) 5 (fun j => bt z j)) ∧ (wpF (σ 23 3) (fun i j => bt (σ 26 i) j) 5 (fun j => bt z j)) < σ 23 3) := fb
  refine jm_ofF (Po := (jP (vI (if (wpF (σ 23 3) (fun i j => bt (σ 26 i) j) 5 (fun j => bt z j)) = -1 then -1 else σ 25 (wpF (σ 23 3) (fun i j => bt (σ 26 i) j) 5 (fun j => bt z j)))) σ)) (plainFor_of_name (by decide)) (Nat.le_of_ble_eq_true rfl) (lv := [(0, _), (1, _)]) rfl ?_
  refine r_aload_n (dc dkX4_winning 0 rfl) rfl (np 1 rfl ?_)
  refine r_lload_n (dc dkX4_winning 1 rfl) rfl (np 2 rfl ?_)
  refine r_iconst (dc dkX4_winning 2 rfl) (np 3 rfl ?_)
  refine r_pV2 (y' := miX4_winningPair) (dc dkX4_winning 3 rfl) mlX4_62 ceX4_winningPair ob_23 (Nat.le_of_ble_eq_true rfl) (Nat.le_of_ble_eq_true rfl) (cWin_5 hG) (np 6 rfl ?_)
  refine r_istore_n (lv' := [(3, _), (0, _), (1, _)]) (dc dkX4_winning 4 rfl) (Nat.le_of_ble_eq_true rfl) rfl (np 7 rfl ?_)
  refine r_iload_n (dc dkX4_winning 5 rfl) rfl (np 8 rfl ?_)
  refine r_iconst (dc dkX4_winning 6 rfl) (np 9 rfl ?_)
  refine r_icmp_ne (tgt := 16) (dc dkX4_winning 7 rfl) rfl (by first | assumption | decide | omega) (by first | assumption | decide | omega) (fun h9 => ?_) (fun h9 => (np 12 rfl ?_))
  · skip
    refine r_aload_n (dc dkX4_winning 10 rfl) rfl (np 17 rfl ?_)
    refine r_iload_n (dc dkX4_winning 11 rfl) rfl (np 18 rfl ?_)
    refine r_pV1 (y' := miX4_codeOf) (dc dkX4_winning 12 rfl) mlX4_66 ceX4_codeOf ob_23 (Nat.le_of_ble_eq_true rfl) (Nat.le_of_ble_eq_true rfl) (c_X4_codeOf hG (fb.2.2 h9)) (np 21 rfl ?_)
    exact r_iret (dc dkX4_winning 13 rfl) rfl ⟨congrArg (fun z => some (vI z)) (by first | (rw [if_pos (by omega)]; done) | (rw [if_neg (by omega)]; done)), rfl⟩
  refine r_iconst (dc dkX4_winning 8 rfl) (np 13 rfl ?_)
  refine r_goto (tgt := 21) (dc dkX4_winning 9 rfl) rfl ?_
  exact r_iret (dc dkX4_winning 13 rfl) rfl ⟨congrArg (fun z => some (vI z)) (by first | (rw [if_pos (by omega)]; done) | (rw [if_neg (by omega)]; done)), rfl⟩
set_option maxRecDepth 100000 in
set_option maxHeartbeats 4000000 in
theorem c_X11_addLine {σ : jS} (hl : cB 4 (σ 27 3)) {c : Int} : Jm 1 miX11_addLine [.ref 27, vI c] σ (fun r τ => r = some (vI (bI (σ 27 3 < 4))) ∧ (¬ σ 27 3 < 4 → τ = σ) ∧ (σ 27 3 < 4 → τ = ju (ju σ 37 (σ 27 3) c) 27 3 (σ 27 3 + 1))) := by
  refine jm_ofF (Po := (fun r τ => r = some (vI (bI (σ 27 3 < 4))) ∧ (¬ σ 27 3 < 4 → τ = σ) ∧ (σ 27 3 < 4 → τ = ju (ju σ 37 (σ 27 3) c) 27 3 (σ 27 3 + 1)))) (plainFor_of_name (by decide)) (Nat.le_of_ble_eq_true rfl) (lv := [(0, _), (1, _)]) rfl ?_
  refine r_aload_n (dc dkX11_addLine 0 rfl) rfl (np 1 rfl ?_)
  refine r_gI 3 (dc dkX11_addLine 1 rfl) flX11_29 fd_27_3 rfl (np 4 rfl ?_)
  refine r_if_lt (tgt := 15) (dc dkX11_addLine 2 rfl) rfl (by first | assumption | decide | omega) (fun h4 => ?_) (fun h4 => (np 7 rfl ?_))
  · skip
    refine r_iconst (dc dkX11_addLine 7 rfl) (np 16 rfl ?_)
    exact r_zret (dc dkX11_addLine 8 rfl) rfl (by first | exact Or.inl rfl | exact Or.inr rfl) ⟨congrArg (fun z => some (vI z)) (bI_f (by omega)).symm, fun _ => rfl, fun z => by omega⟩
  refine r_aload_n (dc dkX11_addLine 3 rfl) rfl (np 8 rfl ?_)
  refine r_gI 3 (dc dkX11_addLine 4 rfl) flX11_29 fd_27_3 rfl (np 11 rfl ?_)
  refine r_iconst (dc dkX11_addLine 5 rfl) (np 12 rfl ?_)
  refine r_icmp_lt (tgt := 17) (dc dkX11_addLine 6 rfl) rfl (by first | assumption | decide | omega) (by first | assumption | decide | omega) (fun h12 => ?_) (fun h12 => (np 15 rfl ?_))
  · skip
    refine r_aload_n (dc dkX11_addLine 9 rfl) rfl (np 18 rfl ?_)
    refine r_getR (dc dkX11_addLine 10 rfl) flX11_33 fd_27_4 (np 21 rfl ?_)
    refine r_aload_n (dc dkX11_addLine 11 rfl) rfl (np 22 rfl ?_)
    refine r_gI 3 (dc dkX11_addLine 12 rfl) flX11_29 fd_27_3 rfl (np 25 rfl ?_)
    refine r_iload_n (dc dkX11_addLine 13 rfl) rfl (np 26 rfl ?_)
    refine r_iast (dc dkX11_addLine 14 rfl) ar_37 (by omega) (np 27 rfl ?_)
    refine r_aload_n (dc dkX11_addLine 15 rfl) rfl (np 28 rfl ?_)
    refine r_dup (dc dkX11_addLine 16 rfl) rfl (np 29 rfl ?_)
    refine r_gI 3 (dc dkX11_addLine 17 rfl) flX11_29 fd_27_3 rfl (np 32 rfl ?_)
    refine r_iconst (dc dkX11_addLine 18 rfl) (np 33 rfl ?_)
    refine r_iadd (dc dkX11_addLine 19 rfl) (np 34 rfl ?_)
    refine r_pI 3 (dc dkX11_addLine 20 rfl) fpX11_29 fd_27_3 rfl (np 37 rfl ?_)
    refine r_iconst (dc dkX11_addLine 21 rfl) (np 38 rfl ?_)
    exact r_zret (dc dkX11_addLine 22 rfl) rfl (by first | exact Or.inl rfl | exact Or.inr rfl) ⟨congrArg (fun z => some (vI z)) (bI_t (by omega)).symm, fun z => by omega, fun _ => by rw [ju_off _ _ _ _ _ (by decide)]⟩
  refine r_iconst (dc dkX11_addLine 7 rfl) (np 16 rfl ?_)
  exact r_zret (dc dkX11_addLine 8 rfl) rfl (by first | exact Or.inl rfl | exact Or.inr rfl) ⟨congrArg (fun z => some (vI z)) (bI_f (by omega)).symm, fun _ => rfl, fun z => by omega⟩
