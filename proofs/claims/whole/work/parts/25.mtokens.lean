/-- the reference at a token, or failed -/
def mR (t : Int → Int) (L m : Int) (R : Int × Int) (σ : jS) : Prop := (R.1 = 0 → md t L m R.2 σ) ∧ (¬ R.1 = 0 → σ 111 10 = R.1 ∧ σ 111 11 = R.2)
theorem md_t {t : Int → Int} {L m q : Int} {X : List Int} {σ τ : jS} (h : md t L m q σ) (hs : mdS X σ τ) (h3 : (3 : Int) ∉ X) (h4 : (4 : Int) ∉ X) (h5 : (5 : Int) ∉ X) (h6 : (6 : Int) ∉ X) (h7 : (7 : Int) ∉ X) (h8 : (8 : Int) ∉ X) (h9 : (9 : Int) ∉ X) (h13 : (13 : Int) ∉ X) (h10 : (10 : Int) ∉ X) : md t L m q τ := by
  unfold md mTp at h ⊢
  rw [hs.2 3 h3, hs.2 4 h4, hs.2 5 h5, hs.2 6 h6, hs.2 7 h7, hs.2 8 h8, hs.2 9 h9, hs.2 13 h13, hs.2 10 h10, hs.1 112 (by decide)]
  exact h
theorem md_c {t : Int → Int} {L m q : Int} {σ τ : jS} (h : md t L m q σ) (h1 : τ 111 = σ 111) (h2 : τ 112 = σ 112) : md t L m q τ := by
  unfold md mTp at h ⊢
  rw [h1, h2]
  exact h
def spC (a b c d : Int) : Int :=
  if 0 < d then 27 * (if 0 < c then 27 * (27 * (a - 96) + b - 96) + c - 96 else 27 * (a - 96) + b - 96) + d - 96 else if 0 < c then 27 * (27 * (a - 96) + b - 96) + c - 96 else 27 * (a - 96) + b - 96
def spD (v a b c : Int) : Int :=
  if 0 < c then 27 * (if 0 < b then 27 * (27 * v + a - 96) + b - 96 else 27 * v + a - 96) + c - 96 else if 0 < b then 27 * (27 * v + a - 96) + b - 96 else 27 * v + a - 96
theorem wc_b : ∀ n, n < 17 → 0 < wc ((n : Nat) : Int) ∧ wc ((n : Nat) : Int) < 10460353203 := by decide
theorem wc_bb {k : Int} (h : 0 ≤ k ∧ k ≤ 16) : 0 < wc k ∧ wc k < 10460353203 := by
  have := wc_b k.toNat (by omega)
  rw [Int.toNat_of_nonneg h.1] at this
  exact this
theorem jcmp_R (a b : Int) : iR (jcmp a b) := by unfold jcmp; split <;> (try split) <;> decide
theorem jcmp_0 {a b : Int} : jcmp a b = 0 ↔ a = b := by
  unfold jcmp
  split
  · exact ⟨fun h => absurd h (by decide), fun h => by omega⟩
  · split
    · rename_i h; exact ⟨fun _ => h, fun _ => rfl⟩
    · rename_i h; exact ⟨fun z => absurd z (by decide), fun z => absurd z h⟩
theorem c_X13_go {σ : jS} {t : Int → Int} {L m q : Int} (hM : md t L m q σ) : Jm 2 miX13_go [.ref 111] σ (fun r τ => r = none ∧ mdS [5, 6, 7, 8, 9, 13] σ τ ∧ md t L m (tN t L m q) τ) := by
  obtain ⟨q1, q2, q3, q4, q5, q6, q7, _, _, _, _, _, q10⟩ := hM
  have nb := tN_b (t := t) (m := m) q6.2
  exact c_X13_go0 q1 q2 q3 q4 q5 ⟨by omega, nb.2⟩ q7 q10
set_option maxRecDepth 100000 in
set_option maxHeartbeats 4000000 in
theorem c_X13_spelt {σ : jS} {a b c e : Int} (ha : cB 200 a) (hb : cB 200 b) (hc : cB 200 c) (he : cB 200 e) : Jp 1 miX13_spelt [vI a, vI b, vI c, vI e] σ (vL (spC a b c e)) := by
  refine jm_ofF (Po := (jP (vL (spC a b c e)) σ)) (plainFor_of_name (by decide)) (Nat.le_of_ble_eq_true rfl) (lv := [(0, _), (1, _), (2, _), (3, _)]) rfl ?_
  refine r_ldc2 (z := 27) (dc dkX13_spelt 0 rfl) ckX13_143 (by decide) (np 3 rfl ?_)
  refine r_iload_n (dc dkX13_spelt 1 rfl) rfl (np 4 rfl ?_)
  refine r_i2l (dc dkX13_spelt 2 rfl) (by first | assumption | decide | omega) (np 5 rfl ?_)
  refine r_ldc2 (z := 96) (dc dkX13_spelt 3 rfl) ckX13_145 (by decide) (np 8 rfl ?_)
  refine r_lsub (dc dkX13_spelt 4 rfl) (np 9 rfl ?_)
  refine r_lmul (dc dkX13_spelt 5 rfl) (np 10 rfl ?_)
  refine r_iload_n (dc dkX13_spelt 6 rfl) rfl (np 11 rfl ?_)
  refine r_i2l (dc dkX13_spelt 7 rfl) (by first | assumption | decide | omega) (np 12 rfl ?_)
  refine r_ladd (dc dkX13_spelt 8 rfl) (np 13 rfl ?_)
  refine r_ldc2 (z := 96) (dc dkX13_spelt 9 rfl) ckX13_145 (by decide) (np 16 rfl ?_)
  refine r_lsub (dc dkX13_spelt 10 rfl) (np 17 rfl ?_)
  refine r_lstore (lv' := [(4, _), (0, _), (1, _), (2, _), (3, _)]) (dc dkX13_spelt 11 rfl) (Nat.le_of_ble_eq_true rfl) rfl (np 19 rfl ?_)
  refine r_iload_n (dc dkX13_spelt 12 rfl) rfl (np 20 rfl ?_)
  refine r_if_le (tgt := 38) (dc dkX13_spelt 13 rfl) rfl (by first | assumption | decide | omega) (fun h20 => ?_) (fun h20 => (np 23 rfl ?_))
  · skip
    refine r_iload_n (dc dkX13_spelt 23 rfl) rfl (np 39 rfl ?_)
    refine r_if_le (tgt := 58) (dc dkX13_spelt 24 rfl) rfl (by first | assumption | decide | omega) (fun h39 => ?_) (fun h39 => (np 42 rfl ?_))
    · skip
      refine r_lload (dc dkX13_spelt 34 rfl) rfl (np 60 rfl ?_)
      exact r_lret (dc dkX13_spelt 35 rfl) rfl ⟨congrArg (fun z => some (vL z)) (by unfold spC; first | (rw [if_pos h39, if_pos h20]; done) | (rw [if_pos (by omega), if_pos (by omega)]; done) | (rw [if_pos (by omega), if_neg (by omega)]; done) | (rw [if_neg (by omega), if_pos (by omega)]; done) | (rw [if_neg (by omega), if_neg (by omega)]; done)), rfl⟩
    refine r_ldc2 (z := 27) (dc dkX13_spelt 25 rfl) ckX13_143 (by decide) (np 45 rfl ?_)
    refine r_lload (dc dkX13_spelt 26 rfl) rfl (np 47 rfl ?_)
    refine r_lmul (dc dkX13_spelt 27 rfl) (np 48 rfl ?_)
    refine r_iload_n (dc dkX13_spelt 28 rfl) rfl (np 49 rfl ?_)
    refine r_i2l (dc dkX13_spelt 29 rfl) (by first | assumption | decide | omega) (np 50 rfl ?_)
    refine r_ladd (dc dkX13_spelt 30 rfl) (np 51 rfl ?_)
    refine r_ldc2 (z := 96) (dc dkX13_spelt 31 rfl) ckX13_145 (by decide) (np 54 rfl ?_)
    refine r_lsub (dc dkX13_spelt 32 rfl) (np 55 rfl ?_)
    refine r_goto (tgt := 60) (dc dkX13_spelt 33 rfl) rfl ?_
    exact r_lret (dc dkX13_spelt 35 rfl) rfl ⟨congrArg (fun z => some (vL z)) (by unfold spC; first | (rw [if_pos h39, if_pos h20]; done) | (rw [if_pos (by omega), if_pos (by omega)]; done) | (rw [if_pos (by omega), if_neg (by omega)]; done) | (rw [if_neg (by omega), if_pos (by omega)]; done) | (rw [if_neg (by omega), if_neg (by omega)]; done)), rfl⟩
  refine r_ldc2 (z := 27) (dc dkX13_spelt 14 rfl) ckX13_143 (by decide) (np 26 rfl ?_)
  refine r_lload (dc dkX13_spelt 15 rfl) rfl (np 28 rfl ?_)
  refine r_lmul (dc dkX13_spelt 16 rfl) (np 29 rfl ?_)
  refine r_iload_n (dc dkX13_spelt 17 rfl) rfl (np 30 rfl ?_)
  refine r_i2l (dc dkX13_spelt 18 rfl) (by first | assumption | decide | omega) (np 31 rfl ?_)
  refine r_ladd (dc dkX13_spelt 19 rfl) (np 32 rfl ?_)
  refine r_ldc2 (z := 96) (dc dkX13_spelt 20 rfl) ckX13_145 (by decide) (np 35 rfl ?_)
  refine r_lsub (dc dkX13_spelt 21 rfl) (np 36 rfl ?_)
  refine r_lstore (lv' := [(4, _), (0, _), (1, _), (2, _), (3, _)]) (dc dkX13_spelt 22 rfl) (Nat.le_of_ble_eq_true rfl) rfl (np 38 rfl ?_)
  refine r_iload_n (dc dkX13_spelt 23 rfl) rfl (np 39 rfl ?_)
  refine r_if_le (tgt := 58) (dc dkX13_spelt 24 rfl) rfl (by first | assumption | decide | omega) (fun h39 => ?_) (fun h39 => (np 42 rfl ?_))
  · skip
    refine r_lload (dc dkX13_spelt 34 rfl) rfl (np 60 rfl ?_)
    exact r_lret (dc dkX13_spelt 35 rfl) rfl ⟨congrArg (fun z => some (vL z)) (by unfold spC; first | (rw [if_pos h39, if_pos h20]; done) | (rw [if_pos (by omega), if_pos (by omega)]; done) | (rw [if_pos (by omega), if_neg (by omega)]; done) | (rw [if_neg (by omega), if_pos (by omega)]; done) | (rw [if_neg (by omega), if_neg (by omega)]; done)), rfl⟩
  refine r_ldc2 (z := 27) (dc dkX13_spelt 25 rfl) ckX13_143 (by decide) (np 45 rfl ?_)
  refine r_lload (dc dkX13_spelt 26 rfl) rfl (np 47 rfl ?_)
  refine r_lmul (dc dkX13_spelt 27 rfl) (np 48 rfl ?_)
  refine r_iload_n (dc dkX13_spelt 28 rfl) rfl (np 49 rfl ?_)
  refine r_i2l (dc dkX13_spelt 29 rfl) (by first | assumption | decide | omega) (np 50 rfl ?_)
  refine r_ladd (dc dkX13_spelt 30 rfl) (np 51 rfl ?_)
  refine r_ldc2 (z := 96) (dc dkX13_spelt 31 rfl) ckX13_145 (by decide) (np 54 rfl ?_)
  refine r_lsub (dc dkX13_spelt 32 rfl) (np 55 rfl ?_)
  refine r_goto (tgt := 60) (dc dkX13_spelt 33 rfl) rfl ?_
  exact r_lret (dc dkX13_spelt 35 rfl) rfl ⟨congrArg (fun z => some (vL z)) (by unfold spC; first | (rw [if_pos h39, if_pos h20]; done) | (rw [if_pos (by omega), if_pos (by omega)]; done) | (rw [if_pos (by omega), if_neg (by omega)]; done) | (rw [if_neg (by omega), if_pos (by omega)]; done) | (rw [if_neg (by omega), if_neg (by omega)]; done)), rfl⟩
set_option maxRecDepth 100000 in
set_option maxHeartbeats 4000000 in
theorem c_X13_on {σ : jS} {v a b c : Int} (ha : cB 200 a) (hb : cB 200 b) (hc : cB 200 c) : Jp 1 miX13_on [vL v, vI a, vI b, vI c] σ (vL (spD v a b c)) := by
  refine jm_ofF (Po := (jP (vL (spD v a b c)) σ)) (plainFor_of_name (by decide)) (Nat.le_of_ble_eq_true rfl) (lv := [(0, _), (2, _), (3, _), (4, _)]) rfl ?_
  refine r_ldc2 (z := 27) (dc dkX13_on 0 rfl) ckX13_143 (by decide) (np 3 rfl ?_)
  refine r_lload_n (dc dkX13_on 1 rfl) rfl (np 4 rfl ?_)
  refine r_lmul (dc dkX13_on 2 rfl) (np 5 rfl ?_)
  refine r_iload_n (dc dkX13_on 3 rfl) rfl (np 6 rfl ?_)
  refine r_i2l (dc dkX13_on 4 rfl) (by first | assumption | decide | omega) (np 7 rfl ?_)
  refine r_ladd (dc dkX13_on 5 rfl) (np 8 rfl ?_)
  refine r_ldc2 (z := 96) (dc dkX13_on 6 rfl) ckX13_145 (by decide) (np 11 rfl ?_)
  refine r_lsub (dc dkX13_on 7 rfl) (np 12 rfl ?_)
  refine r_lstore (lv' := [(5, _), (0, _), (2, _), (3, _), (4, _)]) (dc dkX13_on 8 rfl) (Nat.le_of_ble_eq_true rfl) rfl (np 14 rfl ?_)
  refine r_iload_n (dc dkX13_on 9 rfl) rfl (np 15 rfl ?_)
  refine r_if_le (tgt := 33) (dc dkX13_on 10 rfl) rfl (by first | assumption | decide | omega) (fun h15 => ?_) (fun h15 => (np 18 rfl ?_))
  · skip
    refine r_iload (dc dkX13_on 20 rfl) rfl (np 35 rfl ?_)
    refine r_if_le (tgt := 55) (dc dkX13_on 21 rfl) rfl (by first | assumption | decide | omega) (fun h35 => ?_) (fun h35 => (np 38 rfl ?_))
    · skip
      refine r_lload (dc dkX13_on 31 rfl) rfl (np 57 rfl ?_)
      exact r_lret (dc dkX13_on 32 rfl) rfl ⟨congrArg (fun z => some (vL z)) (by unfold spD; first | (rw [if_pos (by omega), if_pos (by omega)]; done) | (rw [if_pos (by omega), if_neg (by omega)]; done) | (rw [if_neg (by omega), if_pos (by omega)]; done) | (rw [if_neg (by omega), if_neg (by omega)]; done)), rfl⟩
    refine r_ldc2 (z := 27) (dc dkX13_on 22 rfl) ckX13_143 (by decide) (np 41 rfl ?_)
    refine r_lload (dc dkX13_on 23 rfl) rfl (np 43 rfl ?_)
    refine r_lmul (dc dkX13_on 24 rfl) (np 44 rfl ?_)
    refine r_iload (dc dkX13_on 25 rfl) rfl (np 46 rfl ?_)
    refine r_i2l (dc dkX13_on 26 rfl) (by first | assumption | decide | omega) (np 47 rfl ?_)
    refine r_ladd (dc dkX13_on 27 rfl) (np 48 rfl ?_)
    refine r_ldc2 (z := 96) (dc dkX13_on 28 rfl) ckX13_145 (by decide) (np 51 rfl ?_)
    refine r_lsub (dc dkX13_on 29 rfl) (np 52 rfl ?_)
    refine r_goto (tgt := 57) (dc dkX13_on 30 rfl) rfl ?_
    exact r_lret (dc dkX13_on 32 rfl) rfl ⟨congrArg (fun z => some (vL z)) (by unfold spD; first | (rw [if_pos (by omega), if_pos (by omega)]; done) | (rw [if_pos (by omega), if_neg (by omega)]; done) | (rw [if_neg (by omega), if_pos (by omega)]; done) | (rw [if_neg (by omega), if_neg (by omega)]; done)), rfl⟩
  refine r_ldc2 (z := 27) (dc dkX13_on 11 rfl) ckX13_143 (by decide) (np 21 rfl ?_)
  refine r_lload (dc dkX13_on 12 rfl) rfl (np 23 rfl ?_)
  refine r_lmul (dc dkX13_on 13 rfl) (np 24 rfl ?_)
  refine r_iload_n (dc dkX13_on 14 rfl) rfl (np 25 rfl ?_)
  refine r_i2l (dc dkX13_on 15 rfl) (by first | assumption | decide | omega) (np 26 rfl ?_)
  refine r_ladd (dc dkX13_on 16 rfl) (np 27 rfl ?_)
  refine r_ldc2 (z := 96) (dc dkX13_on 17 rfl) ckX13_145 (by decide) (np 30 rfl ?_)
  refine r_lsub (dc dkX13_on 18 rfl) (np 31 rfl ?_)
  refine r_lstore (lv' := [(5, _), (0, _), (2, _), (3, _), (4, _)]) (dc dkX13_on 19 rfl) (Nat.le_of_ble_eq_true rfl) rfl (np 33 rfl ?_)
  refine r_iload (dc dkX13_on 20 rfl) rfl (np 35 rfl ?_)
  refine r_if_le (tgt := 55) (dc dkX13_on 21 rfl) rfl (by first | assumption | decide | omega) (fun h35 => ?_) (fun h35 => (np 38 rfl ?_))
  · skip
    refine r_lload (dc dkX13_on 31 rfl) rfl (np 57 rfl ?_)
    exact r_lret (dc dkX13_on 32 rfl) rfl ⟨congrArg (fun z => some (vL z)) (by unfold spD; first | (rw [if_pos (by omega), if_pos (by omega)]; done) | (rw [if_pos (by omega), if_neg (by omega)]; done) | (rw [if_neg (by omega), if_pos (by omega)]; done) | (rw [if_neg (by omega), if_neg (by omega)]; done)), rfl⟩
  refine r_ldc2 (z := 27) (dc dkX13_on 22 rfl) ckX13_143 (by decide) (np 41 rfl ?_)
  refine r_lload (dc dkX13_on 23 rfl) rfl (np 43 rfl ?_)
  refine r_lmul (dc dkX13_on 24 rfl) (np 44 rfl ?_)
  refine r_iload (dc dkX13_on 25 rfl) rfl (np 46 rfl ?_)
  refine r_i2l (dc dkX13_on 26 rfl) (by first | assumption | decide | omega) (np 47 rfl ?_)
  refine r_ladd (dc dkX13_on 27 rfl) (np 48 rfl ?_)
  refine r_ldc2 (z := 96) (dc dkX13_on 28 rfl) ckX13_145 (by decide) (np 51 rfl ?_)
  refine r_lsub (dc dkX13_on 29 rfl) (np 52 rfl ?_)
  refine r_goto (tgt := 57) (dc dkX13_on 30 rfl) rfl ?_
  exact r_lret (dc dkX13_on 32 rfl) rfl ⟨congrArg (fun z => some (vL z)) (by unfold spD; first | (rw [if_pos (by omega), if_pos (by omega)]; done) | (rw [if_pos (by omega), if_neg (by omega)]; done) | (rw [if_neg (by omega), if_pos (by omega)]; done) | (rw [if_neg (by omega), if_neg (by omega)]; done)), rfl⟩
set_option maxRecDepth 100000 in
set_option maxHeartbeats 4000000 in
theorem c_X13_wordOf {σ : jS} {k : Int} (hk : 0 ≤ k ∧ k ≤ 16) : Jp 2 miX13_wordOf [vI k] σ (vL (wc k)) := by
  refine jm_ofF (Po := (jP (vL (wc k)) σ)) (plainFor_of_name (by decide)) (Nat.le_of_ble_eq_true rfl) (lv := [(0, _)]) rfl ?_
  refine r_iload_n (dc dkX13_wordOf 0 rfl) rfl (np 1 rfl ?_)
  by_cases hs0 : k = 0
  · skip
    refine r_tableIn (tgt := 80) (off := 79) (dc dkX13_wordOf 1 rfl) (by omega) (by omega) (by omega) (by rw [show ((k) - (0) : Int).toNat = 0 by omega]; rfl) rfl ?_
    refine r_bipush (dc dkX13_wordOf 2 rfl) bp_98 (np 82 rfl ?_)
    refine r_bipush (dc dkX13_wordOf 3 rfl) bp_111 (np 84 rfl ?_)
    refine r_bipush (dc dkX13_wordOf 4 rfl) bp_97 (np 86 rfl ?_)
    refine r_bipush (dc dkX13_wordOf 5 rfl) bp_114 (np 88 rfl ?_)
    refine r_pS4 (y' := miX13_spelt) (dc dkX13_wordOf 6 rfl) mlX13_147 seX13_spelt (Nat.le_of_ble_eq_true rfl) (Nat.le_of_ble_eq_true rfl) (c_X13_spelt (by decide) (by decide) (by decide) (by decide)) (np 91 rfl ?_)
    refine r_bipush (dc dkX13_wordOf 7 rfl) bp_100 (np 93 rfl ?_)
    refine r_iconst (dc dkX13_wordOf 8 rfl) (np 94 rfl ?_)
    refine r_iconst (dc dkX13_wordOf 9 rfl) (np 95 rfl ?_)
    refine r_pS4 (y' := miX13_on) (dc dkX13_wordOf 10 rfl) mlX13_151 seX13_on (Nat.le_of_ble_eq_true rfl) (Nat.le_of_ble_eq_true rfl) (c_X13_on (by decide) (by decide) (by decide)) (np 98 rfl ?_)
    exact r_lret (dc dkX13_wordOf 11 rfl) rfl ⟨congrArg (fun z => some (vL z)) (by rw [show k = 0 by omega]; decide), rfl⟩
  by_cases hs1 : k = 1
  · skip
    refine r_tableIn (tgt := 99) (off := 98) (dc dkX13_wordOf 1 rfl) (by omega) (by omega) (by omega) (by rw [show ((k) - (0) : Int).toNat = 1 by omega]; rfl) rfl ?_
    refine r_bipush (dc dkX13_wordOf 12 rfl) bp_98 (np 101 rfl ?_)
    refine r_bipush (dc dkX13_wordOf 13 rfl) bp_101 (np 103 rfl ?_)
    refine r_bipush (dc dkX13_wordOf 14 rfl) bp_108 (np 105 rfl ?_)
    refine r_bipush (dc dkX13_wordOf 15 rfl) bp_108 (np 107 rfl ?_)
    refine r_pS4 (y' := miX13_spelt) (dc dkX13_wordOf 16 rfl) mlX13_147 seX13_spelt (Nat.le_of_ble_eq_true rfl) (Nat.le_of_ble_eq_true rfl) (c_X13_spelt (by decide) (by decide) (by decide) (by decide)) (np 110 rfl ?_)
    exact r_lret (dc dkX13_wordOf 17 rfl) rfl ⟨congrArg (fun z => some (vL z)) (by rw [show k = 1 by omega]; decide), rfl⟩
  by_cases hs2 : k = 2
  · skip
    refine r_tableIn (tgt := 111) (off := 110) (dc dkX13_wordOf 1 rfl) (by omega) (by omega) (by omega) (by rw [show ((k) - (0) : Int).toNat = 2 by omega]; rfl) rfl ?_
    refine r_bipush (dc dkX13_wordOf 18 rfl) bp_111 (np 113 rfl ?_)
    refine r_bipush (dc dkX13_wordOf 19 rfl) bp_117 (np 115 rfl ?_)
    refine r_bipush (dc dkX13_wordOf 20 rfl) bp_116 (np 117 rfl ?_)
    refine r_iconst (dc dkX13_wordOf 21 rfl) (np 118 rfl ?_)
    refine r_pS4 (y' := miX13_spelt) (dc dkX13_wordOf 22 rfl) mlX13_147 seX13_spelt (Nat.le_of_ble_eq_true rfl) (Nat.le_of_ble_eq_true rfl) (c_X13_spelt (by decide) (by decide) (by decide) (by decide)) (np 121 rfl ?_)
    exact r_lret (dc dkX13_wordOf 23 rfl) rfl ⟨congrArg (fun z => some (vL z)) (by rw [show k = 2 by omega]; decide), rfl⟩
  by_cases hs3 : k = 3
  · skip
    refine r_tableIn (tgt := 122) (off := 121) (dc dkX13_wordOf 1 rfl) (by omega) (by omega) (by omega) (by rw [show ((k) - (0) : Int).toNat = 3 by omega]; rfl) rfl ?_
    refine r_bipush (dc dkX13_wordOf 24 rfl) bp_98 (np 124 rfl ?_)
    refine r_bipush (dc dkX13_wordOf 25 rfl) bp_97 (np 126 rfl ?_)
    refine r_bipush (dc dkX13_wordOf 26 rfl) bp_110 (np 128 rfl ?_)
    refine r_bipush (dc dkX13_wordOf 27 rfl) bp_100 (np 130 rfl ?_)
    refine r_pS4 (y' := miX13_spelt) (dc dkX13_wordOf 28 rfl) mlX13_147 seX13_spelt (Nat.le_of_ble_eq_true rfl) (Nat.le_of_ble_eq_true rfl) (c_X13_spelt (by decide) (by decide) (by decide) (by decide)) (np 133 rfl ?_)
    exact r_lret (dc dkX13_wordOf 29 rfl) rfl ⟨congrArg (fun z => some (vL z)) (by rw [show k = 3 by omega]; decide), rfl⟩
  by_cases hs4 : k = 4
  · skip
    refine r_tableIn (tgt := 134) (off := 133) (dc dkX13_wordOf 1 rfl) (by omega) (by omega) (by omega) (by rw [show ((k) - (0) : Int).toNat = 4 by omega]; rfl) rfl ?_
    refine r_bipush (dc dkX13_wordOf 30 rfl) bp_97 (np 136 rfl ?_)
    refine r_bipush (dc dkX13_wordOf 31 rfl) bp_116 (np 138 rfl ?_)
    refine r_iconst (dc dkX13_wordOf 32 rfl) (np 139 rfl ?_)
    refine r_iconst (dc dkX13_wordOf 33 rfl) (np 140 rfl ?_)
    refine r_pS4 (y' := miX13_spelt) (dc dkX13_wordOf 34 rfl) mlX13_147 seX13_spelt (Nat.le_of_ble_eq_true rfl) (Nat.le_of_ble_eq_true rfl) (c_X13_spelt (by decide) (by decide) (by decide) (by decide)) (np 143 rfl ?_)
    exact r_lret (dc dkX13_wordOf 35 rfl) rfl ⟨congrArg (fun z => some (vL z)) (by rw [show k = 4 by omega]; decide), rfl⟩
  by_cases hs5 : k = 5
  · skip
    refine r_tableIn (tgt := 144) (off := 143) (dc dkX13_wordOf 1 rfl) (by omega) (by omega) (by omega) (by rw [show ((k) - (0) : Int).toNat = 5 by omega]; rfl) rfl ?_
    refine r_bipush (dc dkX13_wordOf 36 rfl) bp_98 (np 146 rfl ?_)
    refine r_bipush (dc dkX13_wordOf 37 rfl) bp_121 (np 148 rfl ?_)
    refine r_iconst (dc dkX13_wordOf 38 rfl) (np 149 rfl ?_)
    refine r_iconst (dc dkX13_wordOf 39 rfl) (np 150 rfl ?_)
    refine r_pS4 (y' := miX13_spelt) (dc dkX13_wordOf 40 rfl) mlX13_147 seX13_spelt (Nat.le_of_ble_eq_true rfl) (Nat.le_of_ble_eq_true rfl) (c_X13_spelt (by decide) (by decide) (by decide) (by decide)) (np 153 rfl ?_)
    exact r_lret (dc dkX13_wordOf 41 rfl) rfl ⟨congrArg (fun z => some (vL z)) (by rw [show k = 5 by omega]; decide), rfl⟩
  by_cases hs6 : k = 6
  · skip
    refine r_tableIn (tgt := 154) (off := 153) (dc dkX13_wordOf 1 rfl) (by omega) (by omega) (by omega) (by rw [show ((k) - (0) : Int).toNat = 6 by omega]; rfl) rfl ?_
    refine r_bipush (dc dkX13_wordOf 42 rfl) bp_111 (np 156 rfl ?_)
    refine r_bipush (dc dkX13_wordOf 43 rfl) bp_114 (np 158 rfl ?_)
    refine r_iconst (dc dkX13_wordOf 44 rfl) (np 159 rfl ?_)
    refine r_iconst (dc dkX13_wordOf 45 rfl) (np 160 rfl ?_)
    refine r_pS4 (y' := miX13_spelt) (dc dkX13_wordOf 46 rfl) mlX13_147 seX13_spelt (Nat.le_of_ble_eq_true rfl) (Nat.le_of_ble_eq_true rfl) (c_X13_spelt (by decide) (by decide) (by decide) (by decide)) (np 163 rfl ?_)
    exact r_lret (dc dkX13_wordOf 47 rfl) rfl ⟨congrArg (fun z => some (vL z)) (by rw [show k = 6 by omega]; decide), rfl⟩
  by_cases hs7 : k = 7
  · skip
    refine r_tableIn (tgt := 164) (off := 163) (dc dkX13_wordOf 1 rfl) (by omega) (by omega) (by omega) (by rw [show ((k) - (0) : Int).toNat = 7 by omega]; rfl) rfl ?_
    refine r_bipush (dc dkX13_wordOf 48 rfl) bp_97 (np 166 rfl ?_)
    refine r_bipush (dc dkX13_wordOf 49 rfl) bp_110 (np 168 rfl ?_)
    refine r_bipush (dc dkX13_wordOf 50 rfl) bp_100 (np 170 rfl ?_)
    refine r_iconst (dc dkX13_wordOf 51 rfl) (np 171 rfl ?_)
    refine r_pS4 (y' := miX13_spelt) (dc dkX13_wordOf 52 rfl) mlX13_147 seX13_spelt (Nat.le_of_ble_eq_true rfl) (Nat.le_of_ble_eq_true rfl) (c_X13_spelt (by decide) (by decide) (by decide) (by decide)) (np 174 rfl ?_)
    exact r_lret (dc dkX13_wordOf 53 rfl) rfl ⟨congrArg (fun z => some (vL z)) (by rw [show k = 7 by omega]; decide), rfl⟩
  by_cases hs8 : k = 8
  · skip
    refine r_tableIn (tgt := 175) (off := 174) (dc dkX13_wordOf 1 rfl) (by omega) (by omega) (by omega) (by rw [show ((k) - (0) : Int).toNat = 8 by omega]; rfl) rfl ?_
    refine r_bipush (dc dkX13_wordOf 54 rfl) bp_110 (np 177 rfl ?_)
    refine r_bipush (dc dkX13_wordOf 55 rfl) bp_111 (np 179 rfl ?_)
    refine r_bipush (dc dkX13_wordOf 56 rfl) bp_116 (np 181 rfl ?_)
    refine r_iconst (dc dkX13_wordOf 57 rfl) (np 182 rfl ?_)
    refine r_pS4 (y' := miX13_spelt) (dc dkX13_wordOf 58 rfl) mlX13_147 seX13_spelt (Nat.le_of_ble_eq_true rfl) (Nat.le_of_ble_eq_true rfl) (c_X13_spelt (by decide) (by decide) (by decide) (by decide)) (np 185 rfl ?_)
    exact r_lret (dc dkX13_wordOf 59 rfl) rfl ⟨congrArg (fun z => some (vL z)) (by rw [show k = 8 by omega]; decide), rfl⟩
  by_cases hs9 : k = 9
  · skip
    refine r_tableIn (tgt := 186) (off := 185) (dc dkX13_wordOf 1 rfl) (by omega) (by omega) (by omega) (by rw [show ((k) - (0) : Int).toNat = 9 by omega]; rfl) rfl ?_
    refine r_bipush (dc dkX13_wordOf 60 rfl) bp_105 (np 188 rfl ?_)
    refine r_bipush (dc dkX13_wordOf 61 rfl) bp_110 (np 190 rfl ?_)
    refine r_iconst (dc dkX13_wordOf 62 rfl) (np 191 rfl ?_)
    refine r_iconst (dc dkX13_wordOf 63 rfl) (np 192 rfl ?_)
    refine r_pS4 (y' := miX13_spelt) (dc dkX13_wordOf 64 rfl) mlX13_147 seX13_spelt (Nat.le_of_ble_eq_true rfl) (Nat.le_of_ble_eq_true rfl) (c_X13_spelt (by decide) (by decide) (by decide) (by decide)) (np 195 rfl ?_)
    exact r_lret (dc dkX13_wordOf 65 rfl) rfl ⟨congrArg (fun z => some (vL z)) (by rw [show k = 9 by omega]; decide), rfl⟩
  by_cases hs10 : k = 10
  · skip
    refine r_tableIn (tgt := 196) (off := 195) (dc dkX13_wordOf 1 rfl) (by omega) (by omega) (by omega) (by rw [show ((k) - (0) : Int).toNat = 10 by omega]; rfl) rfl ?_
    refine r_bipush (dc dkX13_wordOf 66 rfl) bp_97 (np 198 rfl ?_)
    refine r_bipush (dc dkX13_wordOf 67 rfl) bp_108 (np 200 rfl ?_)
    refine r_bipush (dc dkX13_wordOf 68 rfl) bp_105 (np 202 rfl ?_)
    refine r_bipush (dc dkX13_wordOf 69 rfl) bp_107 (np 204 rfl ?_)
    refine r_pS4 (y' := miX13_spelt) (dc dkX13_wordOf 70 rfl) mlX13_147 seX13_spelt (Nat.le_of_ble_eq_true rfl) (Nat.le_of_ble_eq_true rfl) (c_X13_spelt (by decide) (by decide) (by decide) (by decide)) (np 207 rfl ?_)
    refine r_bipush (dc dkX13_wordOf 71 rfl) bp_101 (np 209 rfl ?_)
    refine r_iconst (dc dkX13_wordOf 72 rfl) (np 210 rfl ?_)
    refine r_iconst (dc dkX13_wordOf 73 rfl) (np 211 rfl ?_)
    refine r_pS4 (y' := miX13_on) (dc dkX13_wordOf 74 rfl) mlX13_151 seX13_on (Nat.le_of_ble_eq_true rfl) (Nat.le_of_ble_eq_true rfl) (c_X13_on (by decide) (by decide) (by decide)) (np 214 rfl ?_)
    exact r_lret (dc dkX13_wordOf 75 rfl) rfl ⟨congrArg (fun z => some (vL z)) (by rw [show k = 10 by omega]; decide), rfl⟩
  by_cases hs11 : k = 11
  · skip
    refine r_tableIn (tgt := 215) (off := 214) (dc dkX13_wordOf 1 rfl) (by omega) (by omega) (by omega) (by rw [show ((k) - (0) : Int).toNat = 11 by omega]; rfl) rfl ?_
    refine r_bipush (dc dkX13_wordOf 76 rfl) bp_98 (np 217 rfl ?_)
    refine r_bipush (dc dkX13_wordOf 77 rfl) bp_101 (np 219 rfl ?_)
    refine r_bipush (dc dkX13_wordOf 78 rfl) bp_110 (np 221 rfl ?_)
    refine r_bipush (dc dkX13_wordOf 79 rfl) bp_116 (np 223 rfl ?_)
    refine r_pS4 (y' := miX13_spelt) (dc dkX13_wordOf 80 rfl) mlX13_147 seX13_spelt (Nat.le_of_ble_eq_true rfl) (Nat.le_of_ble_eq_true rfl) (c_X13_spelt (by decide) (by decide) (by decide) (by decide)) (np 226 rfl ?_)
    exact r_lret (dc dkX13_wordOf 81 rfl) rfl ⟨congrArg (fun z => some (vL z)) (by rw [show k = 11 by omega]; decide), rfl⟩
  by_cases hs12 : k = 12
  · skip
    refine r_tableIn (tgt := 227) (off := 226) (dc dkX13_wordOf 1 rfl) (by omega) (by omega) (by omega) (by rw [show ((k) - (0) : Int).toNat = 12 by omega]; rfl) rfl ?_
    refine r_bipush (dc dkX13_wordOf 82 rfl) bp_97 (np 229 rfl ?_)
    refine r_bipush (dc dkX13_wordOf 83 rfl) bp_114 (np 231 rfl ?_)
    refine r_bipush (dc dkX13_wordOf 84 rfl) bp_101 (np 233 rfl ?_)
    refine r_bipush (dc dkX13_wordOf 85 rfl) bp_97 (np 235 rfl ?_)
    refine r_pS4 (y' := miX13_spelt) (dc dkX13_wordOf 86 rfl) mlX13_147 seX13_spelt (Nat.le_of_ble_eq_true rfl) (Nat.le_of_ble_eq_true rfl) (c_X13_spelt (by decide) (by decide) (by decide) (by decide)) (np 238 rfl ?_)
    exact r_lret (dc dkX13_wordOf 87 rfl) rfl ⟨congrArg (fun z => some (vL z)) (by rw [show k = 12 by omega]; decide), rfl⟩
  by_cases hs13 : k = 13
  · skip
    refine r_tableIn (tgt := 239) (off := 238) (dc dkX13_wordOf 1 rfl) (by omega) (by omega) (by omega) (by rw [show ((k) - (0) : Int).toNat = 13 by omega]; rfl) rfl ?_
    refine r_bipush (dc dkX13_wordOf 88 rfl) bp_111 (np 241 rfl ?_)
    refine r_bipush (dc dkX13_wordOf 89 rfl) bp_110 (np 243 rfl ?_)
    refine r_iconst (dc dkX13_wordOf 90 rfl) (np 244 rfl ?_)
    refine r_iconst (dc dkX13_wordOf 91 rfl) (np 245 rfl ?_)
    refine r_pS4 (y' := miX13_spelt) (dc dkX13_wordOf 92 rfl) mlX13_147 seX13_spelt (Nat.le_of_ble_eq_true rfl) (Nat.le_of_ble_eq_true rfl) (c_X13_spelt (by decide) (by decide) (by decide) (by decide)) (np 248 rfl ?_)
    exact r_lret (dc dkX13_wordOf 93 rfl) rfl ⟨congrArg (fun z => some (vL z)) (by rw [show k = 13 by omega]; decide), rfl⟩
  by_cases hs14 : k = 14
  · skip
    refine r_tableIn (tgt := 249) (off := 248) (dc dkX13_wordOf 1 rfl) (by omega) (by omega) (by omega) (by rw [show ((k) - (0) : Int).toNat = 14 by omega]; rfl) rfl ?_
    refine r_bipush (dc dkX13_wordOf 94 rfl) bp_119 (np 251 rfl ?_)
    refine r_bipush (dc dkX13_wordOf 95 rfl) bp_105 (np 253 rfl ?_)
    refine r_bipush (dc dkX13_wordOf 96 rfl) bp_116 (np 255 rfl ?_)
    refine r_bipush (dc dkX13_wordOf 97 rfl) bp_104 (np 257 rfl ?_)
    refine r_pS4 (y' := miX13_spelt) (dc dkX13_wordOf 98 rfl) mlX13_147 seX13_spelt (Nat.le_of_ble_eq_true rfl) (Nat.le_of_ble_eq_true rfl) (c_X13_spelt (by decide) (by decide) (by decide) (by decide)) (np 260 rfl ?_)
    refine r_bipush (dc dkX13_wordOf 99 rfl) bp_105 (np 262 rfl ?_)
    refine r_bipush (dc dkX13_wordOf 100 rfl) bp_110 (np 264 rfl ?_)
    refine r_iconst (dc dkX13_wordOf 101 rfl) (np 265 rfl ?_)
    refine r_pS4 (y' := miX13_on) (dc dkX13_wordOf 102 rfl) mlX13_151 seX13_on (Nat.le_of_ble_eq_true rfl) (Nat.le_of_ble_eq_true rfl) (c_X13_on (by decide) (by decide) (by decide)) (np 268 rfl ?_)
    exact r_lret (dc dkX13_wordOf 103 rfl) rfl ⟨congrArg (fun z => some (vL z)) (by rw [show k = 14 by omega]; decide), rfl⟩
  by_cases hs15 : k = 15
  · skip
    refine r_tableIn (tgt := 269) (off := 268) (dc dkX13_wordOf 1 rfl) (by omega) (by omega) (by omega) (by rw [show ((k) - (0) : Int).toNat = 15 by omega]; rfl) rfl ?_
    refine r_bipush (dc dkX13_wordOf 104 rfl) bp_99 (np 271 rfl ?_)
    refine r_bipush (dc dkX13_wordOf 105 rfl) bp_111 (np 273 rfl ?_)
    refine r_bipush (dc dkX13_wordOf 106 rfl) bp_114 (np 275 rfl ?_)
    refine r_bipush (dc dkX13_wordOf 107 rfl) bp_110 (np 277 rfl ?_)
    refine r_pS4 (y' := miX13_spelt) (dc dkX13_wordOf 108 rfl) mlX13_147 seX13_spelt (Nat.le_of_ble_eq_true rfl) (Nat.le_of_ble_eq_true rfl) (c_X13_spelt (by decide) (by decide) (by decide) (by decide)) (np 280 rfl ?_)
    refine r_bipush (dc dkX13_wordOf 109 rfl) bp_101 (np 282 rfl ?_)
    refine r_bipush (dc dkX13_wordOf 110 rfl) bp_114 (np 284 rfl ?_)
    refine r_bipush (dc dkX13_wordOf 111 rfl) bp_115 (np 286 rfl ?_)
    refine r_pS4 (y' := miX13_on) (dc dkX13_wordOf 112 rfl) mlX13_151 seX13_on (Nat.le_of_ble_eq_true rfl) (Nat.le_of_ble_eq_true rfl) (c_X13_on (by decide) (by decide) (by decide)) (np 289 rfl ?_)
    exact r_lret (dc dkX13_wordOf 113 rfl) rfl ⟨congrArg (fun z => some (vL z)) (by rw [show k = 15 by omega]; decide), rfl⟩
  refine r_tableOut (tgt := 290) (dc dkX13_wordOf 1 rfl) (by first | assumption | decide | omega) (by omega) rfl ?_
  refine r_bipush (dc dkX13_wordOf 114 rfl) bp_114 (np 292 rfl ?_)
  refine r_bipush (dc dkX13_wordOf 115 rfl) bp_105 (np 294 rfl ?_)
  refine r_bipush (dc dkX13_wordOf 116 rfl) bp_103 (np 296 rfl ?_)
  refine r_bipush (dc dkX13_wordOf 117 rfl) bp_104 (np 298 rfl ?_)
  refine r_pS4 (y' := miX13_spelt) (dc dkX13_wordOf 118 rfl) mlX13_147 seX13_spelt (Nat.le_of_ble_eq_true rfl) (Nat.le_of_ble_eq_true rfl) (c_X13_spelt (by decide) (by decide) (by decide) (by decide)) (np 301 rfl ?_)
  refine r_bipush (dc dkX13_wordOf 119 rfl) bp_116 (np 303 rfl ?_)
  refine r_iconst (dc dkX13_wordOf 120 rfl) (np 304 rfl ?_)
  refine r_iconst (dc dkX13_wordOf 121 rfl) (np 305 rfl ?_)
  refine r_pS4 (y' := miX13_on) (dc dkX13_wordOf 122 rfl) mlX13_151 seX13_on (Nat.le_of_ble_eq_true rfl) (Nat.le_of_ble_eq_true rfl) (c_X13_on (by decide) (by decide) (by decide)) (np 308 rfl ?_)
  exact r_lret (dc dkX13_wordOf 123 rfl) rfl ⟨congrArg (fun z => some (vL z)) (by rw [show k = 16 by omega]; decide), rfl⟩
set_option maxRecDepth 100000 in
set_option maxHeartbeats 4000000 in
theorem c_X13_isWord {σ : jS} {t : Int → Int} {L m q : Int} (hM : md t L m q σ) {k : Int} (hk : 0 ≤ k ∧ k ≤ 16) : Jp 3 miX13_isWord [.ref 111, vI k] σ (vI (bI (tK t L m q = 100 + k))) := by
  have m7 := hM.2.2.2.2.2.2.2.2.1
  have kb := kM_b (t := t) (L := L) (m := m) (q := q)
  have tb := tK_b (t := t) (L := L) (m := m) (p := q)
  have q6 := hM.2.2.2.2.2.1
  refine jm_ofF (Po := (jP (vI (bI (tK t L m q = 100 + k))) σ)) (plainFor_of_name (by decide)) (Nat.le_of_ble_eq_true rfl) (lv := [(0, _), (1, _)]) rfl ?_
  refine r_aload_n (dc dkX13_isWord 0 rfl) rfl (np 1 rfl ?_)
  refine r_gI 7 (dc dkX13_isWord 1 rfl) flX13_120 fd_111_7 rfl (np 4 rfl ?_)
  refine r_iconst (dc dkX13_isWord 2 rfl) (np 5 rfl ?_)
  refine r_icmp_ne (tgt := 24) (dc dkX13_isWord 3 rfl) rfl (by first | assumption | decide | omega) (by first | assumption | decide | omega) (fun h5 => ?_) (fun h5 => (np 8 rfl ?_))
  · skip
    refine r_iconst (dc dkX13_isWord 12 rfl) (np 25 rfl ?_)
    exact r_zret (dc dkX13_isWord 13 rfl) rfl (by first | exact Or.inl rfl | exact Or.inr rfl) ⟨congrArg (fun z => some (vI z)) (by first | exact bT (ki.mpr (by have := jcmp_0.mp h17; omega)) | exact bF (fun z => h17 (jcmp_0.mpr (by have := ki.mp z; omega))) | exact bF (fun z => by have : kM (tK t L m q) = 2 := (by unfold kM; rw [if_neg (by omega), if_neg (by omega), if_neg (by omega), if_pos (by omega)]); omega)), rfl⟩
  have kw : tK t L m q = 3 ∨ 100 ≤ tK t L m q := by unfold kM at m7; split at m7 <;> (try split at m7) <;> (try split at m7) <;> (try split at m7) <;> omega
  have mw := hM.2.2.2.2.2.2.2.2.2.2.1 kw
  have wb := wQ_b q6.2 kw
  have cb := wc_bb hk
  have ki := kdW_iff (w := wQ t L m q) hk
  rw [← wb.2.2] at ki
  refine r_aload_n (dc dkX13_isWord 4 rfl) rfl (np 9 rfl ?_)
  refine r_gL 13 (dc dkX13_isWord 5 rfl) flX13_133 fd_111_13 rfl (np 12 rfl ?_)
  refine r_iload_n (dc dkX13_isWord 6 rfl) rfl (np 13 rfl ?_)
  refine r_pS1 (y' := miX13_wordOf) (dc dkX13_isWord 7 rfl) mlX13_155 seX13_wordOf (Nat.le_of_ble_eq_true rfl) (Nat.le_of_ble_eq_true rfl) (c_X13_wordOf (by omega)) (np 16 rfl ?_)
  refine r_lcmp (dc dkX13_isWord 8 rfl) (by first | assumption | decide | omega) (by first | assumption | decide | omega) (np 17 rfl ?_)
  refine r_if_ne (tgt := 24) (dc dkX13_isWord 9 rfl) rfl (jcmp_R _ _) (fun h17 => ?_) (fun h17 => (np 20 rfl ?_))
  · skip
    refine r_iconst (dc dkX13_isWord 12 rfl) (np 25 rfl ?_)
    exact r_zret (dc dkX13_isWord 13 rfl) rfl (by first | exact Or.inl rfl | exact Or.inr rfl) ⟨congrArg (fun z => some (vI z)) (by first | exact bT (ki.mpr (by have := jcmp_0.mp h17; omega)) | exact bF (fun z => h17 (jcmp_0.mpr (by have := ki.mp z; omega))) | exact bF (fun z => by have : kM (tK t L m q) = 2 := (by unfold kM; rw [if_neg (by omega), if_neg (by omega), if_neg (by omega), if_pos (by omega)]); omega)), rfl⟩
  refine r_iconst (dc dkX13_isWord 10 rfl) (np 21 rfl ?_)
  refine r_goto (tgt := 25) (dc dkX13_isWord 11 rfl) rfl ?_
  exact r_zret (dc dkX13_isWord 13 rfl) rfl (by first | exact Or.inl rfl | exact Or.inr rfl) ⟨congrArg (fun z => some (vI z)) (by first | exact bT (ki.mpr (by have := jcmp_0.mp h17; omega)) | exact bF (fun z => h17 (jcmp_0.mpr (by have := ki.mp z; omega))) | exact bF (fun z => by have : kM (tK t L m q) = 2 := (by unfold kM; rw [if_neg (by omega), if_neg (by omega), if_neg (by omega), if_pos (by omega)]); omega)), rfl⟩
set_option maxRecDepth 100000 in
set_option maxHeartbeats 4000000 in
theorem c_X13_isSign {σ : jS} {t : Int → Int} {L m q : Int} (hM : md t L m q σ) {c : Int} (hc : 40 ≤ c ∧ c ≤ 62) : Jp 1 miX13_isSign [.ref 111, vI c] σ (vI (bI (tK t L m q = c))) := by
  have m7 := hM.2.2.2.2.2.2.2.2.1
  have kb := kM_b (t := t) (L := L) (m := m) (q := q)
  have tb := tK_b (t := t) (L := L) (m := m) (p := q)
  have q6 := hM.2.2.2.2.2.1
  refine jm_ofF (Po := (jP (vI (bI (tK t L m q = c))) σ)) (plainFor_of_name (by decide)) (Nat.le_of_ble_eq_true rfl) (lv := [(0, _), (1, _)]) rfl ?_
  refine r_aload_n (dc dkX13_isSign 0 rfl) rfl (np 1 rfl ?_)
  refine r_gI 7 (dc dkX13_isSign 1 rfl) flX13_120 fd_111_7 rfl (np 4 rfl ?_)
  refine r_iconst (dc dkX13_isSign 2 rfl) (np 5 rfl ?_)
  refine r_icmp_ne (tgt := 20) (dc dkX13_isSign 3 rfl) rfl (by first | assumption | decide | omega) (by first | assumption | decide | omega) (fun h5 => ?_) (fun h5 => (np 8 rfl ?_))
  · skip
    refine r_iconst (dc dkX13_isSign 10 rfl) (np 21 rfl ?_)
    exact r_zret (dc dkX13_isSign 11 rfl) rfl (by first | exact Or.inl rfl | exact Or.inr rfl) ⟨congrArg (fun z => some (vI z)) (by first | exact bT (by omega) | exact bF (by omega) | exact bF (fun z => by have := kM_s (k := tK t L m q) (by omega); omega)), rfl⟩
  have kw : 40 ≤ tK t L m q ∧ tK t L m q ≤ 62 := by unfold kM at m7; split at m7 <;> (try split at m7) <;> (try split at m7) <;> (try split at m7) <;> omega
  have mw := hM.2.2.2.2.2.2.2.2.2.2.2.1 kw
  refine r_aload_n (dc dkX13_isSign 4 rfl) rfl (np 9 rfl ?_)
  refine r_gI 9 (dc dkX13_isSign 5 rfl) flX13_130 fd_111_9 rfl (np 12 rfl ?_)
  refine r_iload_n (dc dkX13_isSign 6 rfl) rfl (np 13 rfl ?_)
  refine r_icmp_ne (tgt := 20) (dc dkX13_isSign 7 rfl) rfl (by first | assumption | decide | omega) (by first | assumption | decide | omega) (fun h13 => ?_) (fun h13 => (np 16 rfl ?_))
  · skip
    refine r_iconst (dc dkX13_isSign 10 rfl) (np 21 rfl ?_)
    exact r_zret (dc dkX13_isSign 11 rfl) rfl (by first | exact Or.inl rfl | exact Or.inr rfl) ⟨congrArg (fun z => some (vI z)) (by first | exact bT (by omega) | exact bF (by omega) | exact bF (fun z => by have := kM_s (k := tK t L m q) (by omega); omega)), rfl⟩
  refine r_iconst (dc dkX13_isSign 8 rfl) (np 17 rfl ?_)
  refine r_goto (tgt := 21) (dc dkX13_isSign 9 rfl) rfl ?_
  exact r_zret (dc dkX13_isSign 11 rfl) rfl (by first | exact Or.inl rfl | exact Or.inr rfl) ⟨congrArg (fun z => some (vI z)) (by first | exact bT (by omega) | exact bF (by omega) | exact bF (fun z => by have := kM_s (k := tK t L m q) (by omega); omega)), rfl⟩
set_option maxRecDepth 100000 in
set_option maxHeartbeats 4000000 in
theorem c_X13_isName {σ : jS} {t : Int → Int} {L m q : Int} (hM : md t L m q σ) : Jp 3 miX13_isName [.ref 111] σ (vI (bI (tK t L m q = 3))) := by
  have m7 := hM.2.2.2.2.2.2.2.2.1
  have kb := kM_b (t := t) (L := L) (m := m) (q := q)
  have tb := tK_b (t := t) (L := L) (m := m) (p := q)
  have q6 := hM.2.2.2.2.2.1
  refine jm_ofF (Po := (jP (vI (bI (tK t L m q = 3))) σ)) (plainFor_of_name (by decide)) (Nat.le_of_ble_eq_true rfl) (lv := [(0, _)]) rfl ?_
  refine r_aload_n (dc dkX13_isName 0 rfl) rfl (np 1 rfl ?_)
  refine r_gI 7 (dc dkX13_isName 1 rfl) flX13_120 fd_111_7 rfl (np 4 rfl ?_)
  refine r_iconst (dc dkX13_isName 2 rfl) (np 5 rfl ?_)
  refine r_icmp_eq (tgt := 10) (dc dkX13_isName 3 rfl) rfl (by first | assumption | decide | omega) (by first | assumption | decide | omega) (fun h5 => ?_) (fun h5 => (np 8 rfl ?_))
  · skip
    have kw : tK t L m q = 3 ∨ 100 ≤ tK t L m q := by unfold kM at m7; split at m7 <;> (try split at m7) <;> (try split at m7) <;> (try split at m7) <;> omega
    have mw := hM.2.2.2.2.2.2.2.2.2.2.1 kw
    have wb := wQ_b q6.2 kw
    have k3 := kdW_3 (w := wQ t L m q)
    rw [← wb.2.2] at k3
    refine r_iconst (dc dkX13_isName 6 rfl) (np 11 rfl ?_)
    refine r_istore_n (lv' := [(1, _), (0, _)]) (dc dkX13_isName 7 rfl) (Nat.le_of_ble_eq_true rfl) rfl (np 12 rfl ?_)
    refine r_pick [1, 0] (lv' := [(0, _), (1, _)]) rfl ?_
    refine jlp1 (P := fun (i : Int) => jR _ _ _ 12 [(0, .ref 111), (1, vI i)] [] σ) (I := fun (i : Int) => (0 ≤ i ∧ i ≤ 17) ∧ ∀ j, 0 ≤ j → j < i → ¬ wc j = wQ t L m q) (fun (i : Int) => (17 - i).toNat) ?_ _ ⟨by omega, fun j _ _ => by omega⟩
    intro i hI12 ih12
    refine r_iload_n (dc dkX13_isName 8 rfl) rfl (np 13 rfl ?_)
    refine r_bipush (dc dkX13_isName 9 rfl) bp_16 (np 15 rfl ?_)
    refine r_icmp_gt (tgt := 38) (dc dkX13_isName 10 rfl) rfl (by first | assumption | decide | omega) (by first | assumption | decide | omega) (fun h15 => ?_) (fun h15 => (np 18 rfl ?_))
    · skip
      refine r_iconst (dc dkX13_isName 21 rfl) (np 39 rfl ?_)
      exact r_zret (dc dkX13_isName 22 rfl) rfl (by first | exact Or.inl rfl | exact Or.inr rfl) ⟨congrArg (fun z => some (vI z)) (bT (k3.mpr (fun j z0 z1 z2 => hI12.2 j z0 (by omega) z2))), rfl⟩
    have cb := wc_bb (k := i) (by omega)
    refine r_aload_n (dc dkX13_isName 11 rfl) rfl (np 19 rfl ?_)
    refine r_gL 13 (dc dkX13_isName 12 rfl) flX13_133 fd_111_13 rfl (np 22 rfl ?_)
    refine r_iload_n (dc dkX13_isName 13 rfl) rfl (np 23 rfl ?_)
    refine r_pS1 (y' := miX13_wordOf) (dc dkX13_isName 14 rfl) mlX13_155 seX13_wordOf (Nat.le_of_ble_eq_true rfl) (Nat.le_of_ble_eq_true rfl) (c_X13_wordOf (by omega)) (np 26 rfl ?_)
    refine r_lcmp (dc dkX13_isName 15 rfl) (by first | assumption | decide | omega) (by first | assumption | decide | omega) (np 27 rfl ?_)
    refine r_if_ne (tgt := 32) (dc dkX13_isName 16 rfl) rfl (jcmp_R _ _) (fun h27 => ?_) (fun h27 => (np 30 rfl ?_))
    · skip
      refine r_iinc (lv' := [(1, _), (0, _)]) (dc dkX13_isName 19 rfl) (Nat.le_of_ble_eq_true rfl) rfl rfl (np 35 rfl ?_)
      refine r_goto (tgt := 12) (dc dkX13_isName 20 rfl) rfl ?_
      refine r_pick [1, 0] rfl ?_
      exact ih12 _ ⟨by omega, fun j z0 z1 z2 => by rcases (show j < i ∨ j = i by omega) with z | z; exact hI12.2 j z0 z z2; subst z; exact h27 (jcmp_0.mpr (by omega))⟩ (by omega)
    refine r_iconst (dc dkX13_isName 17 rfl) (np 31 rfl ?_)
    exact r_zret (dc dkX13_isName 18 rfl) rfl (by first | exact Or.inl rfl | exact Or.inr rfl) ⟨congrArg (fun z => some (vI z)) (bF (fun z => k3.mp z i (by omega) (by omega) (by have := jcmp_0.mp h27; omega))), rfl⟩
  refine r_iconst (dc dkX13_isName 4 rfl) (np 9 rfl ?_)
  exact r_zret (dc dkX13_isName 5 rfl) rfl (by first | exact Or.inl rfl | exact Or.inr rfl) ⟨congrArg (fun z => some (vI z)) (bF (fun z => by have : kM (tK t L m q) = 2 := (by unfold kM; rw [if_neg (by omega), if_neg (by omega), if_neg (by omega), if_pos (by omega)]); omega)), rfl⟩
set_option maxRecDepth 100000 in
set_option maxHeartbeats 4000000 in
theorem c_X13_bad {σ : jS} {t : Int → Int} {L m q : Int} (hM : md t L m q σ) {k : Int} (hk : 1 ≤ k ∧ k ≤ 5) (h1 : tK t L m q = 1 → k = 1) : Jm 1 miX13_bad [.ref 111, vI k] σ (fun r τ => r = some (vI 0) ∧ mdS [10, 11] σ τ ∧ mR t L m (flR t L m k (0, q)) τ) := by
  have m7 := hM.2.2.2.2.2.2.2.2.1
  have kb := kM_b (t := t) (L := L) (m := m) (q := q)
  have tb := tK_b (t := t) (L := L) (m := m) (p := q)
  have q6 := hM.2.2.2.2.2.1
  have m6 := hM.2.2.2.2.2.2.2.1
  refine jm_ofF (Po := (fun r τ => r = some (vI 0) ∧ mdS [10, 11] σ τ ∧ mR t L m (flR t L m k (0, q)) τ)) (plainFor_of_name (by decide)) (Nat.le_of_ble_eq_true rfl) (lv := [(0, _), (1, _)]) rfl ?_
  refine r_aload_n (dc dkX13_bad 0 rfl) rfl (np 1 rfl ?_)
  refine r_aload_n (dc dkX13_bad 1 rfl) rfl (np 2 rfl ?_)
  refine r_gI 7 (dc dkX13_bad 2 rfl) flX13_120 fd_111_7 rfl (np 5 rfl ?_)
  refine r_iconst (dc dkX13_bad 3 rfl) (np 6 rfl ?_)
  refine r_icmp_ne (tgt := 13) (dc dkX13_bad 4 rfl) rfl (by first | assumption | decide | omega) (by first | assumption | decide | omega) (fun h6 => ?_) (fun h6 => (np 9 rfl ?_))
  · skip
    refine r_iload_n (dc dkX13_bad 7 rfl) rfl (np 14 rfl ?_)
    refine r_pI 10 (dc dkX13_bad 8 rfl) fpX13_159 fd_111_10 rfl (np 17 rfl ?_)
    refine r_aload_n (dc dkX13_bad 9 rfl) rfl (np 18 rfl ?_)
    refine r_aload_n (dc dkX13_bad 10 rfl) rfl (np 19 rfl ?_)
    refine r_gI 6 (dc dkX13_bad 11 rfl) flX13_114 fd_111_6 rfl (np 22 rfl ?_)
    refine r_pI 11 (dc dkX13_bad 12 rfl) fpX13_162 fd_111_11 rfl (np 25 rfl ?_)
    refine r_iconst (dc dkX13_bad 13 rfl) (np 26 rfl ?_)
    exact r_zret (dc dkX13_bad 14 rfl) rfl (by first | exact Or.inl rfl | exact Or.inr rfl) (by
        rw [flR_y rfl]
        refine ⟨rfl, ((mdS.refl _ _).put (by decide)).put (by decide), fun z => absurd z (by show ¬ k = 0; omega), fun _ => ⟨?_, ?_⟩⟩
        · rw [ju_ne (by decide)]
          refine (ju_at _ _ _ _).trans ?_
          first | rfl | (exact (h1 (by unfold kM at m7; split at m7 <;> (try split at m7) <;> (try split at m7) <;> (try split at m7) <;> omega)).symm)
        · rw [ju_at, ju_ne (by decide)]; exact m6)
  refine r_iconst (dc dkX13_bad 5 rfl) (np 10 rfl ?_)
  refine r_goto (tgt := 14) (dc dkX13_bad 6 rfl) rfl ?_
  refine r_pI 10 (dc dkX13_bad 8 rfl) fpX13_159 fd_111_10 rfl (np 17 rfl ?_)
  refine r_aload_n (dc dkX13_bad 9 rfl) rfl (np 18 rfl ?_)
  refine r_aload_n (dc dkX13_bad 10 rfl) rfl (np 19 rfl ?_)
  refine r_gI 6 (dc dkX13_bad 11 rfl) flX13_114 fd_111_6 rfl (np 22 rfl ?_)
  refine r_pI 11 (dc dkX13_bad 12 rfl) fpX13_162 fd_111_11 rfl (np 25 rfl ?_)
  refine r_iconst (dc dkX13_bad 13 rfl) (np 26 rfl ?_)
  exact r_zret (dc dkX13_bad 14 rfl) rfl (by first | exact Or.inl rfl | exact Or.inr rfl) (by
      rw [flR_y rfl]
      refine ⟨rfl, ((mdS.refl _ _).put (by decide)).put (by decide), fun z => absurd z (by show ¬ k = 0; omega), fun _ => ⟨?_, ?_⟩⟩
      · rw [ju_ne (by decide)]
        refine (ju_at _ _ _ _).trans ?_
        first | rfl | (exact (h1 (by unfold kM at m7; split at m7 <;> (try split at m7) <;> (try split at m7) <;> (try split at m7) <;> omega)).symm)
      · rw [ju_at, ju_ne (by decide)]; exact m6)
set_option maxRecDepth 100000 in
set_option maxHeartbeats 4000000 in
theorem c_X13_isNumber {σ : jS} {t : Int → Int} {L m q : Int} (hM : md t L m q σ) {a b : Int} (ha : iR a) (hb : iR b) : Jm 2 miX13_isNumber [.ref 111, vI a, vI b] σ (fun r τ => r = some (vI (bI ((ckR t L m a b (0, q)).1 = 0))) ∧ mdS [5, 6, 7, 8, 9, 10, 11, 13, 14] σ τ ∧ mR t L m (ckR t L m a b (0, q)) τ ∧ ((ckR t L m a b (0, q)).1 = 0 → τ 111 14 = nQ t L m q)) := by
  have m7 := hM.2.2.2.2.2.2.2.2.1
  have kb := kM_b (t := t) (L := L) (m := m) (q := q)
  have tb := tK_b (t := t) (L := L) (m := m) (p := q)
  have q6 := hM.2.2.2.2.2.1
  refine jm_ofF (Po := (fun r τ => r = some (vI (bI ((ckR t L m a b (0, q)).1 = 0))) ∧ mdS [5, 6, 7, 8, 9, 10, 11, 13, 14] σ τ ∧ mR t L m (ckR t L m a b (0, q)) τ ∧ ((ckR t L m a b (0, q)).1 = 0 → τ 111 14 = nQ t L m q))) (plainFor_of_name (by decide)) (Nat.le_of_ble_eq_true rfl) (lv := [(0, _), (1, _), (2, _)]) rfl ?_
  refine r_aload_n (dc dkX13_isNumber 0 rfl) rfl (np 1 rfl ?_)
  refine r_gI 7 (dc dkX13_isNumber 1 rfl) flX13_120 fd_111_7 rfl (np 4 rfl ?_)
  refine r_iconst (dc dkX13_isNumber 2 rfl) (np 5 rfl ?_)
  refine r_icmp_eq (tgt := 14) (dc dkX13_isNumber 3 rfl) rfl (by first | assumption | decide | omega) (by first | assumption | decide | omega) (fun h5 => ?_) (fun h5 => (np 8 rfl ?_))
  · skip
    have k2 : tK t L m q = 2 := by unfold kM at m7; split at m7 <;> (try split at m7) <;> (try split at m7) <;> (try split at m7) <;> omega
    have ks : snR t L m 2 (0, q) := ⟨rfl, k2⟩
    have m8 := hM.2.2.2.2.2.2.2.2.2.1 k2
    have nb := nQ_b q6.2 k2
    refine r_aload_n (dc dkX13_isNumber 8 rfl) rfl (np 15 rfl ?_)
    refine r_gI 8 (dc dkX13_isNumber 9 rfl) flX13_137 fd_111_8 rfl (np 18 rfl ?_)
    refine r_iload_n (dc dkX13_isNumber 10 rfl) rfl (np 19 rfl ?_)
    refine r_iload_n (dc dkX13_isNumber 11 rfl) rfl (np 20 rfl ?_)
    refine r_pS3 (y' := miX13_isIn) (dc dkX13_isNumber 12 rfl) mlX13_168 seX13_isIn (Nat.le_of_ble_eq_true rfl) (Nat.le_of_ble_eq_true rfl) (c_X13_isIn (by first | assumption | decide | omega) (by first | assumption | decide | omega) (by first | assumption | decide | omega)) (np 23 rfl ?_)
    refine r_bn (tgt := 32) (dc dkX13_isNumber 13 rfl) rfl (fun h23 => ?_) (fun h23 => (np 26 rfl ?_))
    · skip
      refine r_aload_n (dc dkX13_isNumber 18 rfl) rfl (np 33 rfl ?_)
      refine r_aload_n (dc dkX13_isNumber 19 rfl) rfl (np 34 rfl ?_)
      refine r_gI 8 (dc dkX13_isNumber 20 rfl) flX13_137 fd_111_8 rfl (np 37 rfl ?_)
      refine r_pI 14 (dc dkX13_isNumber 21 rfl) fpX13_172 fd_111_14 rfl (np 40 rfl ?_)
      refine r_iconst (dc dkX13_isNumber 22 rfl) (np 41 rfl ?_)
      exact r_zret (dc dkX13_isNumber 23 rfl) rfl (by first | exact Or.inl rfl | exact Or.inr rfl) (by rw [ckR_y ks (by show ¬ (nQ t L m q < a ∨ b < nQ t L m q); omega)]; exact ⟨by rw [bI_t rfl], (mdS.refl _ _).put (by decide), ⟨fun _ => md_t hM ((mdS.refl [14] _).put (by decide)) (by decide) (by decide) (by decide) (by decide) (by decide) (by decide) (by decide) (by decide) (by decide), fun z => absurd rfl z⟩, fun _ => by rw [ju_at]; exact m8⟩)
    refine r_aload_n (dc dkX13_isNumber 14 rfl) rfl (np 27 rfl ?_)
    refine r_iconst (dc dkX13_isNumber 15 rfl) (np 28 rfl ?_)
    refine r_cV1 (y' := miX13_bad) (dc dkX13_isNumber 16 rfl) mlX13_165 ceX13_bad ob_111 (Nat.le_of_ble_eq_true rfl) (Nat.le_of_ble_eq_true rfl) (c_X13_bad (by assumption) (by decide) (by omega)) (fun r τ2 hp2 => (np 31 rfl ?_))
    obtain ⟨rfl, hs2, hM2⟩ := hp2
    exact r_zret (dc dkX13_isNumber 17 rfl) rfl (by first | exact Or.inl rfl | exact Or.inr rfl) (by rw [ckR_o ks (by show nQ t L m q < a ∨ b < nQ t L m q; omega)]; exact ⟨by rw [bI_f (flR_f (by decide))], hs2.wide (by decide), hM2, fun z => absurd z (flR_f (by decide))⟩)
  have kn : ¬ snR t L m 2 (0, q) := fun z => by have := z.2; have : kM (tK t L m q) = 3 := (by rw [this]; rfl); omega
  refine r_aload_n (dc dkX13_isNumber 4 rfl) rfl (np 9 rfl ?_)
  refine r_iconst (dc dkX13_isNumber 5 rfl) (np 10 rfl ?_)
  refine r_cV1 (y' := miX13_bad) (dc dkX13_isNumber 6 rfl) mlX13_165 ceX13_bad ob_111 (Nat.le_of_ble_eq_true rfl) (Nat.le_of_ble_eq_true rfl) (c_X13_bad (by assumption) (by decide) (by omega)) (fun r τ2 hp2 => (np 13 rfl ?_))
  obtain ⟨rfl, hs2, hM2⟩ := hp2
  exact r_zret (dc dkX13_isNumber 7 rfl) rfl (by first | exact Or.inl rfl | exact Or.inr rfl) (by rw [ckR_n kn]; exact ⟨by rw [bI_f (flR_f (by decide))], hs2.wide (by decide), hM2, fun z => absurd z (flR_f (by decide))⟩)
set_option maxRecDepth 100000 in
set_option maxHeartbeats 4000000 in
theorem c_X13_readNumber {σ : jS} {t : Int → Int} {L m q : Int} (hM : md t L m q σ) {a b : Int} (ha : iR a) (hb : iR b) : Jm 3 miX13_readNumber [.ref 111, vI a, vI b] σ (fun r τ => r = some (vI (bI ((nmR t L m a b (0, q)).1 = 0))) ∧ mdS [5, 6, 7, 8, 9, 10, 11, 13, 14] σ τ ∧ mR t L m (nmR t L m a b (0, q)) τ ∧ ((nmR t L m a b (0, q)).1 = 0 → τ 111 14 = nQ t L m q)) := by
  refine jm_ofF (Po := (fun r τ => r = some (vI (bI ((nmR t L m a b (0, q)).1 = 0))) ∧ mdS [5, 6, 7, 8, 9, 10, 11, 13, 14] σ τ ∧ mR t L m (nmR t L m a b (0, q)) τ ∧ ((nmR t L m a b (0, q)).1 = 0 → τ 111 14 = nQ t L m q))) (plainFor_of_name (by decide)) (Nat.le_of_ble_eq_true rfl) (lv := [(0, _), (1, _), (2, _)]) rfl ?_
  refine r_aload_n (dc dkX13_readNumber 0 rfl) rfl (np 1 rfl ?_)
  refine r_iload_n (dc dkX13_readNumber 1 rfl) rfl (np 2 rfl ?_)
  refine r_iload_n (dc dkX13_readNumber 2 rfl) rfl (np 3 rfl ?_)
  refine r_cV2 (y' := miX13_isNumber) (dc dkX13_readNumber 3 rfl) mlX13_175 ceX13_isNumber ob_111 (Nat.le_of_ble_eq_true rfl) (Nat.le_of_ble_eq_true rfl) (c_X13_isNumber (by assumption) (by omega) (by omega)) (fun r τ2 hp2 => (np 6 rfl ?_))
  obtain ⟨rfl, hs2, hM2, ht2⟩ := hp2
  refine r_bn (tgt := 11) (dc dkX13_readNumber 4 rfl) rfl (fun h6 => ?_) (fun h6 => (np 9 rfl ?_))
  · skip
    refine r_aload_n (dc dkX13_readNumber 7 rfl) rfl (np 12 rfl ?_)
    refine r_cV0 (y' := miX13_go) (dc dkX13_readNumber 8 rfl) mlX13_179 ceX13_go ob_111 (Nat.le_of_ble_eq_true rfl) (Nat.le_of_ble_eq_true rfl) (c_X13_go (hM2.1 h6)) (fun r τ3 hp3 => (np 15 rfl ?_))
    obtain ⟨rfl, hs3, hM3⟩ := hp3
    refine r_iconst (dc dkX13_readNumber 9 rfl) (np 16 rfl ?_)
    exact r_zret (dc dkX13_readNumber 10 rfl) rfl (by first | exact Or.inl rfl | exact Or.inr rfl) (by rw [nmR, stR_y h6]; exact ⟨by rw [bI_t rfl], hs2.tr (hs3.wide (by decide)), ⟨fun _ => hM3, fun z => absurd rfl z⟩, fun _ => by rw [hs3.2 14 (by decide)]; exact ht2 h6⟩)
  refine r_iconst (dc dkX13_readNumber 5 rfl) (np 10 rfl ?_)
  exact r_zret (dc dkX13_readNumber 6 rfl) rfl (by first | exact Or.inl rfl | exact Or.inr rfl) (by rw [nmR, stR_n h6]; exact ⟨by rw [bI_f h6], hs2, hM2, ht2⟩)
set_option maxRecDepth 100000 in
set_option maxHeartbeats 4000000 in
theorem c_X13_readEnd {σ : jS} {t : Int → Int} {L m q : Int} (hM : md t L m q σ) : Jm 3 miX13_readEnd [.ref 111] σ (fun r τ => r = some (vI (bI ((xpR t L m 59 (0, q)).1 = 0))) ∧ mdS [5, 6, 7, 8, 9, 10, 11, 13, 14] σ τ ∧ mR t L m (xpR t L m 59 (0, q)) τ) := by
  refine jm_ofF (Po := (fun r τ => r = some (vI (bI ((xpR t L m 59 (0, q)).1 = 0))) ∧ mdS [5, 6, 7, 8, 9, 10, 11, 13, 14] σ τ ∧ mR t L m (xpR t L m 59 (0, q)) τ)) (plainFor_of_name (by decide)) (Nat.le_of_ble_eq_true rfl) (lv := [(0, _)]) rfl ?_
  refine r_aload_n (dc dkX13_readEnd 0 rfl) rfl (np 1 rfl ?_)
  refine r_bipush (dc dkX13_readEnd 1 rfl) bp_59 (np 3 rfl ?_)
  refine r_pV1 (y' := miX13_isSign) (dc dkX13_readEnd 2 rfl) mlX13_182 ceX13_isSign ob_111 (Nat.le_of_ble_eq_true rfl) (Nat.le_of_ble_eq_true rfl) (c_X13_isSign (by assumption) (by decide)) (np 6 rfl ?_)
  refine r_bn (tgt := 15) (dc dkX13_readEnd 3 rfl) rfl (fun h6 => ?_) (fun h6 => (np 9 rfl ?_))
  · skip
    refine r_aload_n (dc dkX13_readEnd 8 rfl) rfl (np 16 rfl ?_)
    refine r_cV0 (y' := miX13_go) (dc dkX13_readEnd 9 rfl) mlX13_179 ceX13_go ob_111 (Nat.le_of_ble_eq_true rfl) (Nat.le_of_ble_eq_true rfl) (c_X13_go (by assumption)) (fun r τ2 hp2 => (np 19 rfl ?_))
    obtain ⟨rfl, hs2, hM2⟩ := hp2
    refine r_iconst (dc dkX13_readEnd 10 rfl) (np 20 rfl ?_)
    exact r_zret (dc dkX13_readEnd 11 rfl) rfl (by first | exact Or.inl rfl | exact Or.inr rfl) (by rw [xpR_y ⟨rfl, h6⟩, stR_y rfl]; exact ⟨by rw [bI_t rfl], hs2.wide (by decide), ⟨fun _ => hM2, fun z => absurd rfl z⟩⟩)
  refine r_aload_n (dc dkX13_readEnd 4 rfl) rfl (np 10 rfl ?_)
  refine r_iconst (dc dkX13_readEnd 5 rfl) (np 11 rfl ?_)
  refine r_cV1 (y' := miX13_bad) (dc dkX13_readEnd 6 rfl) mlX13_165 ceX13_bad ob_111 (Nat.le_of_ble_eq_true rfl) (Nat.le_of_ble_eq_true rfl) (c_X13_bad (by assumption) (by decide) (by omega)) (fun r τ2 hp2 => (np 14 rfl ?_))
  obtain ⟨rfl, hs2, hM2⟩ := hp2
  exact r_zret (dc dkX13_readEnd 7 rfl) rfl (by first | exact Or.inl rfl | exact Or.inr rfl) (by rw [xpR_n (fun z => h6 z.2)]; exact ⟨by rw [bI_f (flR_f (by decide))], hs2.wide (by decide), hM2⟩)
set_option maxRecDepth 100000 in
set_option maxHeartbeats 4000000 in
theorem c_X13_take {σ : jS} : Jm 1 miX13_take [.ref 111] σ (fun r τ => r = some (vI (σ 111 2)) ∧ τ = ju σ 111 2 0) := by
  refine jm_ofF (Po := (fun r τ => r = some (vI (σ 111 2)) ∧ τ = ju σ 111 2 0)) (plainFor_of_name (by decide)) (Nat.le_of_ble_eq_true rfl) (lv := [(0, _)]) rfl ?_
  refine r_aload_n (dc dkX13_take 0 rfl) rfl (np 1 rfl ?_)
  refine r_gI 2 (dc dkX13_take 1 rfl) flX13_98 fd_111_2 rfl (np 4 rfl ?_)
  refine r_istore_n (lv' := [(1, _), (0, _)]) (dc dkX13_take 2 rfl) (Nat.le_of_ble_eq_true rfl) rfl (np 5 rfl ?_)
  refine r_aload_n (dc dkX13_take 3 rfl) rfl (np 6 rfl ?_)
  refine r_iconst (dc dkX13_take 4 rfl) (np 7 rfl ?_)
  refine r_pI 2 (dc dkX13_take 5 rfl) fpX13_98 fd_111_2 rfl (np 10 rfl ?_)
  refine r_iload_n (dc dkX13_take 6 rfl) rfl (np 11 rfl ?_)
  exact r_iret (dc dkX13_take 7 rfl) rfl ⟨rfl, rfl⟩
set_option maxRecDepth 100000 in
set_option maxHeartbeats 4000000 in
theorem c_X13_begin {σ : jS} {t : Int → Int} {L k : Int} (hk : cB 640 k) (hL : σ 111 2 = L) (hL2 : cB 640 L) (hT : mTp t L σ) : Jm 3 miX13_begin [.ref 111, vI k] σ (fun r τ => r = none ∧ mdS [0, 2, 3, 4, 5, 6, 7, 8, 9, 10, 13] σ τ ∧ τ 111 0 = 0 ∧ τ 111 2 = 0 ∧ τ 111 10 = 0 ∧ md t L k 0 τ) := by
  refine jm_ofF (Po := (fun r τ => r = none ∧ mdS [0, 2, 3, 4, 5, 6, 7, 8, 9, 10, 13] σ τ ∧ τ 111 0 = 0 ∧ τ 111 2 = 0 ∧ τ 111 10 = 0 ∧ md t L k 0 τ)) (plainFor_of_name (by decide)) (Nat.le_of_ble_eq_true rfl) (lv := [(0, _), (1, _)]) rfl ?_
  refine r_aload_n (dc dkX13_begin 0 rfl) rfl (np 1 rfl ?_)
  refine r_iconst (dc dkX13_begin 1 rfl) (np 2 rfl ?_)
  refine r_pI 0 (dc dkX13_begin 2 rfl) fpX13_94 fd_111_0 rfl (np 5 rfl ?_)
  refine r_aload_n (dc dkX13_begin 3 rfl) rfl (np 6 rfl ?_)
  refine r_aload_n (dc dkX13_begin 4 rfl) rfl (np 7 rfl ?_)
  refine r_cV0 (y' := miX13_take) (dc dkX13_begin 5 rfl) mlX13_185 ceX13_take ob_111 (Nat.le_of_ble_eq_true rfl) (Nat.le_of_ble_eq_true rfl) (c_X13_take ) (fun r τ2 hp2 => (np 10 rfl ?_))
  obtain ⟨rfl, hp3⟩ := hp2
  refine r_pI 3 (dc dkX13_begin 6 rfl) fpX13_109 fd_111_3 rfl (np 13 rfl ?_)
  subst hp3
  refine r_aload_n (dc dkX13_begin 7 rfl) rfl (np 14 rfl ?_)
  refine r_iload_n (dc dkX13_begin 8 rfl) rfl (np 15 rfl ?_)
  refine r_pI 4 (dc dkX13_begin 9 rfl) fpX13_117 fd_111_4 rfl (np 18 rfl ?_)
  refine r_aload_n (dc dkX13_begin 10 rfl) rfl (np 19 rfl ?_)
  refine r_iconst (dc dkX13_begin 11 rfl) (np 20 rfl ?_)
  refine r_pI 10 (dc dkX13_begin 12 rfl) fpX13_159 fd_111_10 rfl (np 23 rfl ?_)
  refine r_aload_n (dc dkX13_begin 13 rfl) rfl (np 24 rfl ?_)
  refine r_iconst (dc dkX13_begin 14 rfl) (np 25 rfl ?_)
  refine r_pI 5 (dc dkX13_begin 15 rfl) fpX13_111 fd_111_5 rfl (np 28 rfl ?_)
  refine r_abs (fun ρ => mdS [0, 2, 3, 4, 5, 6, 7, 8, 9, 10, 13] σ ρ ∧ ρ 111 0 = 0 ∧ ρ 111 2 = 0 ∧ ρ 111 10 = 0 ∧ ρ 111 3 = L ∧ ρ 111 4 = k ∧ ρ 111 5 = 0) ⟨?_, rfl, rfl, rfl, ?_, rfl, rfl⟩ ?_
  · exact ((((((mdS.refl _ _).put (by decide)).put (by decide)).put (by decide)).put (by decide)).put (by decide)).put (by decide)
  · exact hL
  intro ρ hF
  obtain ⟨F1, F0, F2, F10, F3, F4, F5⟩ := hF
  refine r_aload_n (dc dkX13_begin 16 rfl) rfl (np 29 rfl ?_)
  refine r_cV0 (y' := miX13_go) (dc dkX13_begin 17 rfl) mlX13_179 ceX13_go ob_111 (Nat.le_of_ble_eq_true rfl) (Nat.le_of_ble_eq_true rfl) (c_X13_go0 (p := 0) (by intro i z0 z1; rw [F1.1 112 (by decide)]; exact hT i z0 z1) F3 F4 hL2 hk (by omega) F5 F10) (fun r τ3 hp3 => (np 32 rfl ?_))
  obtain ⟨rfl, hs3, hM3⟩ := hp3
  exact r_vret (dc dkX13_begin 18 rfl) rfl ⟨rfl, F1.tr (hs3.wide (by decide)), by rw [hs3.2 0 (by decide)]; exact F0, by rw [hs3.2 2 (by decide)]; exact F2, by rw [hs3.2 10 (by decide)]; exact F10, hM3⟩
