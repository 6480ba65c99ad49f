/-! ===== bits of longs; the class' board ===== -/
def bt (z i : Int) : Prop := (Int64.ofInt z).toBitVec.getLsbD i.toNat = true
theorem bx_c : ∀ k, k < 64 → (((Int32.ofInt (k : Nat)).toInt64 &&& 63).toBitVec.smod 64).toNat = k := by decide +kernel
theorem lshr_bv {z i : Int} (h : 0 ≤ i ∧ i < 64) : (Int64.ofInt z >>> ((Int32.ofInt i).toInt64 &&& 63)).toBitVec = (Int64.ofInt z).toBitVec.sshiftRight i.toNat := by
  obtain ⟨k, rfl⟩ := Int.eq_ofNat_of_zero_le h.1
  rw [Int64.toBitVec_shiftRight, BitVec.sshiftRight_eq', bx_c k (by omega), Int.toNat_natCast]
theorem lshl_bv {z i : Int} (h : 0 ≤ i ∧ i < 64) : (Int64.ofInt z <<< ((Int32.ofInt i).toInt64 &&& 63)).toBitVec = (Int64.ofInt z).toBitVec <<< i.toNat := by
  obtain ⟨k, rfl⟩ := Int.eq_ofNat_of_zero_le h.1
  rw [Int64.toBitVec_shiftLeft, BitVec.shiftLeft_eq', bx_c k (by omega), Int.toNat_natCast]
theorem ofInt_toInt64 (x : Int64) : Int64.ofInt x.toInt = x := Int64.ofInt_toInt x
theorem lbit {z i : Int} (h : 0 ≤ i ∧ i < 64) : lAnd (lShr z i) 1 = bI (bt z i) := by
  unfold lAnd lShr
  rw [ofInt_toInt64]
  have e : (Int64.ofInt z >>> ((Int32.ofInt i).toInt64 &&& 63) &&& Int64.ofInt 1).toBitVec = BitVec.setWidth 64 (BitVec.ofBool ((Int64.ofInt z).toBitVec.getLsbD i.toNat)) := by
    rw [Int64.toBitVec_and, lshr_bv h, show (Int64.ofInt 1).toBitVec = 1#64 by decide, BitVec.and_one_eq_setWidth_ofBool_getLsbD, BitVec.getLsbD_sshiftRight]
    congr 2
    rw [if_pos (by omega)]
    simp
  show BitVec.toInt _ = _
  rw [e]
  unfold bt
  cases (Int64.ofInt z).toBitVec.getLsbD i.toNat with
  | false => rw [bI_f (by simp)]; decide
  | true => rw [bI_t rfl]; decide
theorem bt_or {z i j : Int} (h : 0 ≤ i ∧ i < 64) (hj : 0 ≤ j ∧ j < 64) : bt (lOr z (lShl 1 i)) j ↔ bt z j ∨ j = i := by
  unfold bt lOr lShl
  rw [ofInt_toInt64, ofInt_toInt64, Int64.toBitVec_or, BitVec.getLsbD_or, lshl_bv h, show (Int64.ofInt 1).toBitVec = 1#64 by decide, BitVec.getLsbD_shiftLeft]
  have : (1#64).getLsbD (j.toNat - i.toNat) = decide (j.toNat - i.toNat = 0) := by
    rw [BitVec.getLsbD_one]; simp
  rw [this]
  have h1 : j.toNat < 64 := by omega
  simp only [h1, decide_true, Bool.true_and, Bool.or_eq_true, Bool.and_eq_true, Bool.not_eq_true', decide_eq_false_iff_not, decide_eq_true_eq]
  constructor
  · rintro (q | q)
    · exact Or.inl q
    · exact Or.inr (by omega)
  · rintro (q | q)
    · exact Or.inl q
    · exact Or.inr (by omega)
theorem bt_0 {i : Int} : ¬ bt 0 i := by unfold bt; rw [show (Int64.ofInt 0).toBitVec = 0#64 by decide]; simp
theorem jcmp_b {P : Prop} : jcmp (bI P) 0 = 0 ↔ ¬ P := by
  by_cases h : P
  · rw [bI_t h]; exact ⟨fun q => absurd q (by decide), fun q => absurd h q⟩
  · rw [bI_f h]; exact ⟨fun _ => h, fun _ => by decide⟩
def outB (σ : jS) (k : Nat) (p : Int) : Prop := if p < 64 then bt (σ k 4) p else bt (σ k 5) (p - 64)
/-- pegs of a board by its width, height and places out -/
noncomputable def pkG (w h : Int) (o : Int → Prop) (p : Int) : Int := if 0 ≤ p ∧ p % 10 < w ∧ p / 10 < h then bite (o p) 0 1 else -1
noncomputable def pkC (σ : jS) (k : Nat) (p : Int) : Int := pkG (σ k 0) (σ k 1) (outB σ k) p
def plG (w h x y : Int) : Int := if 0 ≤ x ∧ 0 ≤ y ∧ x < w ∧ y < h then 10 * y + x else -1
theorem pkR_G (σ : jS) (a : Nat) : pkR σ a = pkG (σ a 0) (σ a 1) (fun p => ¬ σ a (5 + p) = 0) := by
  funext p
  unfold pkR pkG
  split
  · by_cases h : σ a (5 + p) = 0
    · rw [if_pos h, bite_f (fun q => q h)]
    · rw [if_neg h, bite_t h]
  · rfl
theorem pkG_b (w h : Int) (o : Int → Prop) (p : Int) : -1 ≤ pkG w h o p ∧ pkG w h o p ≤ 1 := by
  unfold pkG bite
  split
  · split <;> omega
  · omega
/-- a board's numbers -/
def okD (σ : jS) (k : Nat) : Prop := cB 10 (σ k 0) ∧ cB 10 (σ k 1) ∧ cB 1 (σ k 2) ∧ cB 12 (σ k 3) ∧ cB 8 (σ k 6) ∧ iR (σ k 7) ∧ ∀ j, 0 ≤ j → j < 8 → lR (σ (k + 1) j)
def rwP (σ : jS) (n : Int) (i : Int) : Int := σ 6 (i % n)
theorem pk_pg {w h : Int} {o : Int → Prop} {p : Int} (hw : cB 10 w) (hh : cB 10 h) (e : pkG w h o p = 1) : isPg p := by
  unfold pkG at e
  split at e
  · omega
  · omega
set_option maxRecDepth 100000 in
set_option maxHeartbeats 4000000 in
theorem c_X1_isTold {σ : jS} {k : Nat} (hk : isBoard k) (hD : okD σ k) : Jp 1 miX1_isTold [.ref k] σ (vI (bI (0 < σ k 0))) := by
  have w1 := hD.1
  refine jm_ofF (Po := (jP (vI (bI (0 < σ k 0))) σ)) (plainFor_of_name (by decide)) (Nat.le_of_ble_eq_true rfl) (lv := [(0, _)]) rfl ?_
  refine r_aload_n (dc dkX1_isTold 0 rfl) rfl (np 1 rfl ?_)
  refine r_gI 0 (dc dkX1_isTold 1 rfl) flX1_9 (fdBoard_0 hk) rfl (np 4 rfl ?_)
  refine r_if_le (tgt := 11) (dc dkX1_isTold 2 rfl) rfl (by first | assumption | decide | omega) (fun h4 => ?_) (fun h4 => (np 7 rfl ?_))
  · skip
    refine r_iconst (dc dkX1_isTold 5 rfl) (np 12 rfl ?_)
    exact r_zret (dc dkX1_isTold 6 rfl) rfl (by first | exact Or.inl rfl | exact Or.inr rfl) ⟨congrArg (fun z => some (vI z)) (by first | exact (bI_t (by omega)).symm | exact (bI_f (by omega)).symm), rfl⟩
  refine r_iconst (dc dkX1_isTold 3 rfl) (np 8 rfl ?_)
  refine r_goto (tgt := 12) (dc dkX1_isTold 4 rfl) rfl ?_
  exact r_zret (dc dkX1_isTold 6 rfl) rfl (by first | exact Or.inl rfl | exact Or.inr rfl) ⟨congrArg (fun z => some (vI z)) (by first | exact (bI_t (by omega)).symm | exact (bI_f (by omega)).symm), rfl⟩
set_option maxRecDepth 100000 in
set_option maxHeartbeats 4000000 in
theorem c_X1_isOut {σ : jS} {k : Nat} (hk : isBoard k) {p : Int} (hp : isPg p) : Jp 1 miX1_isOut [.ref k, vI p] σ (vI (bI (outB σ k p))) := by
  refine jm_ofF (Po := (jP (vI (bI (outB σ k p))) σ)) (plainFor_of_name (by decide)) (Nat.le_of_ble_eq_true rfl) (lv := [(0, _), (1, _)]) rfl ?_
  refine r_iload_n (dc dkX1_isOut 0 rfl) rfl (np 1 rfl ?_)
  refine r_bipush (dc dkX1_isOut 1 rfl) bp_64 (np 3 rfl ?_)
  refine r_icmp_ge (tgt := 15) (dc dkX1_isOut 2 rfl) rfl (by first | assumption | decide | omega) (by first | assumption | decide | omega) (fun h3 => ?_) (fun h3 => (np 6 rfl ?_))
  · skip
    refine r_aload_n (dc dkX1_isOut 8 rfl) rfl (np 16 rfl ?_)
    refine r_gL 5 (dc dkX1_isOut 9 rfl) flX1_29 (fdBoard_5 hk) rfl (np 19 rfl ?_)
    refine r_iload_n (dc dkX1_isOut 10 rfl) rfl (np 20 rfl ?_)
    refine r_bipush (dc dkX1_isOut 11 rfl) bp_64 (np 22 rfl ?_)
    refine r_isub (dc dkX1_isOut 12 rfl) (np 23 rfl ?_)
    refine r_lshr (dc dkX1_isOut 13 rfl) (np 24 rfl ?_)
    refine r_lconst (dc dkX1_isOut 14 rfl) lc_1 (np 25 rfl ?_)
    refine r_land (dc dkX1_isOut 15 rfl) (np 26 rfl ?_)
    refine r_eqL _ (lbit (by omega)) ?_
    refine r_lconst (dc dkX1_isOut 16 rfl) lc_0 (np 27 rfl ?_)
    refine r_lcmp (dc dkX1_isOut 17 rfl) (by have := bI_b (bt (σ k 4) p); have := bI_b (bt (σ k 5) (p - 64)); omega) (by decide) (np 28 rfl ?_)
    refine r_if_eq (tgt := 35) (dc dkX1_isOut 18 rfl) rfl (by unfold jcmp; omega) (fun h28 => ?_) (fun h28 => (np 31 rfl ?_))
    · skip
      refine r_iconst (dc dkX1_isOut 21 rfl) (np 36 rfl ?_)
      exact r_zret (dc dkX1_isOut 22 rfl) rfl (by first | exact Or.inl rfl | exact Or.inr rfl) ⟨congrArg (fun z => some (vI z)) (by unfold outB; first | (rw [if_pos (by omega)]; first | exact (bI_f (jcmp_b.mp h28)).symm | exact (bI_t (Classical.not_not.mp (fun q => h28 (jcmp_b.mpr q)))).symm) | (rw [if_neg (by omega)]; first | exact (bI_f (jcmp_b.mp h28)).symm | exact (bI_t (Classical.not_not.mp (fun q => h28 (jcmp_b.mpr q)))).symm)), rfl⟩
    refine r_iconst (dc dkX1_isOut 19 rfl) (np 32 rfl ?_)
    refine r_goto (tgt := 36) (dc dkX1_isOut 20 rfl) rfl ?_
    exact r_zret (dc dkX1_isOut 22 rfl) rfl (by first | exact Or.inl rfl | exact Or.inr rfl) ⟨congrArg (fun z => some (vI z)) (by unfold outB; first | (rw [if_pos (by omega)]; first | exact (bI_f (jcmp_b.mp h28)).symm | exact (bI_t (Classical.not_not.mp (fun q => h28 (jcmp_b.mpr q)))).symm) | (rw [if_neg (by omega)]; first | exact (bI_f (jcmp_b.mp h28)).symm | exact (bI_t (Classical.not_not.mp (fun q => h28 (jcmp_b.mpr q)))).symm)), rfl⟩
  refine r_aload_n (dc dkX1_isOut 3 rfl) rfl (np 7 rfl ?_)
  refine r_gL 4 (dc dkX1_isOut 4 rfl) flX1_25 (fdBoard_4 hk) rfl (np 10 rfl ?_)
  refine r_iload_n (dc dkX1_isOut 5 rfl) rfl (np 11 rfl ?_)
  refine r_lshr (dc dkX1_isOut 6 rfl) (np 12 rfl ?_)
  refine r_goto (tgt := 24) (dc dkX1_isOut 7 rfl) rfl ?_
  refine r_lconst (dc dkX1_isOut 14 rfl) lc_1 (np 25 rfl ?_)
  refine r_land (dc dkX1_isOut 15 rfl) (np 26 rfl ?_)
  refine r_eqL _ (lbit (by omega)) ?_
  refine r_lconst (dc dkX1_isOut 16 rfl) lc_0 (np 27 rfl ?_)
  refine r_lcmp (dc dkX1_isOut 17 rfl) (by have := bI_b (bt (σ k 4) p); have := bI_b (bt (σ k 5) (p - 64)); omega) (by decide) (np 28 rfl ?_)
  refine r_if_eq (tgt := 35) (dc dkX1_isOut 18 rfl) rfl (by unfold jcmp; omega) (fun h28 => ?_) (fun h28 => (np 31 rfl ?_))
  · skip
    refine r_iconst (dc dkX1_isOut 21 rfl) (np 36 rfl ?_)
    exact r_zret (dc dkX1_isOut 22 rfl) rfl (by first | exact Or.inl rfl | exact Or.inr rfl) ⟨congrArg (fun z => some (vI z)) (by unfold outB; first | (rw [if_pos (by omega)]; first | exact (bI_f (jcmp_b.mp h28)).symm | exact (bI_t (Classical.not_not.mp (fun q => h28 (jcmp_b.mpr q)))).symm) | (rw [if_neg (by omega)]; first | exact (bI_f (jcmp_b.mp h28)).symm | exact (bI_t (Classical.not_not.mp (fun q => h28 (jcmp_b.mpr q)))).symm)), rfl⟩
  refine r_iconst (dc dkX1_isOut 19 rfl) (np 32 rfl ?_)
  refine r_goto (tgt := 36) (dc dkX1_isOut 20 rfl) rfl ?_
  exact r_zret (dc dkX1_isOut 22 rfl) rfl (by first | exact Or.inl rfl | exact Or.inr rfl) ⟨congrArg (fun z => some (vI z)) (by unfold outB; first | (rw [if_pos (by omega)]; first | exact (bI_f (jcmp_b.mp h28)).symm | exact (bI_t (Classical.not_not.mp (fun q => h28 (jcmp_b.mpr q)))).symm) | (rw [if_neg (by omega)]; first | exact (bI_f (jcmp_b.mp h28)).symm | exact (bI_t (Classical.not_not.mp (fun q => h28 (jcmp_b.mpr q)))).symm)), rfl⟩
set_option maxRecDepth 100000 in
set_option maxHeartbeats 4000000 in
theorem c_X1_pegAt {σ : jS} {k : Nat} (hk : isBoard k) (hD : okD σ k) {p : Int} (hp : iR p) : Jp 2 miX1_pegAt [.ref k, vI p] σ (vI (pkC σ k p)) := by
  have w1 := hD.1
  have w2 := hD.2.1
  refine jm_ofF (Po := (jP (vI (pkC σ k p)) σ)) (plainFor_of_name (by decide)) (Nat.le_of_ble_eq_true rfl) (lv := [(0, _), (1, _)]) rfl ?_
  refine r_iload_n (dc dkX1_pegAt 0 rfl) rfl (np 1 rfl ?_)
  refine r_if_lt (tgt := 32) (dc dkX1_pegAt 1 rfl) rfl (by first | assumption | decide | omega) (fun h1 => ?_) (fun h1 => (np 4 rfl ?_))
  · skip
    refine r_iconst (dc dkX1_pegAt 17 rfl) (np 33 rfl ?_)
    exact r_iret (dc dkX1_pegAt 18 rfl) rfl ⟨congrArg (fun z => some (vI z)) (by unfold pkC pkG; rw [if_neg (by omega)]), rfl⟩
  refine r_iload_n (dc dkX1_pegAt 2 rfl) rfl (np 5 rfl ?_)
  refine r_bipush (dc dkX1_pegAt 3 rfl) bp_100 (np 7 rfl ?_)
  refine r_icmp_ge (tgt := 32) (dc dkX1_pegAt 4 rfl) rfl (by first | assumption | decide | omega) (by first | assumption | decide | omega) (fun h7 => ?_) (fun h7 => (np 10 rfl ?_))
  · skip
    refine r_iconst (dc dkX1_pegAt 17 rfl) (np 33 rfl ?_)
    exact r_iret (dc dkX1_pegAt 18 rfl) rfl ⟨congrArg (fun z => some (vI z)) (by unfold pkC pkG; rw [if_neg (by omega)]), rfl⟩
  refine r_iload_n (dc dkX1_pegAt 5 rfl) rfl (np 11 rfl ?_)
  refine r_bipush (dc dkX1_pegAt 6 rfl) bp_10 (np 13 rfl ?_)
  refine r_iremn (dc dkX1_pegAt 7 rfl) (by first | assumption | decide | omega) (by first | assumption | decide | omega) (np 14 rfl ?_)
  refine r_aload_n (dc dkX1_pegAt 8 rfl) rfl (np 15 rfl ?_)
  refine r_gI 0 (dc dkX1_pegAt 9 rfl) flX1_9 (fdBoard_0 hk) rfl (np 18 rfl ?_)
  refine r_icmp_ge (tgt := 32) (dc dkX1_pegAt 10 rfl) rfl (by first | assumption | decide | omega) (by first | assumption | decide | omega) (fun h18 => ?_) (fun h18 => (np 21 rfl ?_))
  · skip
    refine r_iconst (dc dkX1_pegAt 17 rfl) (np 33 rfl ?_)
    exact r_iret (dc dkX1_pegAt 18 rfl) rfl ⟨congrArg (fun z => some (vI z)) (by unfold pkC pkG; rw [if_neg (by omega)]), rfl⟩
  refine r_iload_n (dc dkX1_pegAt 11 rfl) rfl (np 22 rfl ?_)
  refine r_bipush (dc dkX1_pegAt 12 rfl) bp_10 (np 24 rfl ?_)
  refine r_idivn (dc dkX1_pegAt 13 rfl) (by first | assumption | decide | omega) (by first | assumption | decide | omega) (np 25 rfl ?_)
  refine r_aload_n (dc dkX1_pegAt 14 rfl) rfl (np 26 rfl ?_)
  refine r_gI 1 (dc dkX1_pegAt 15 rfl) flX1_15 (fdBoard_1 hk) rfl (np 29 rfl ?_)
  refine r_icmp_lt (tgt := 34) (dc dkX1_pegAt 16 rfl) rfl (by first | assumption | decide | omega) (by first | assumption | decide | omega) (fun h29 => ?_) (fun h29 => (np 32 rfl ?_))
  · skip
    refine r_aload_n (dc dkX1_pegAt 19 rfl) rfl (np 35 rfl ?_)
    refine r_iload_n (dc dkX1_pegAt 20 rfl) rfl (np 36 rfl ?_)
    refine r_pV1 (y' := miX1_isOut) (dc dkX1_pegAt 21 rfl) mlX1_59 ceX1_isOut (obBoard hk) (Nat.le_of_ble_eq_true rfl) (Nat.le_of_ble_eq_true rfl) (c_X1_isOut hk (by omega)) (np 39 rfl ?_)
    refine r_bz (tgt := 46) (dc dkX1_pegAt 22 rfl) rfl (fun h39 => ?_) (fun h39 => (np 42 rfl ?_))
    · skip
      refine r_iconst (dc dkX1_pegAt 25 rfl) (np 47 rfl ?_)
      exact r_iret (dc dkX1_pegAt 26 rfl) rfl ⟨congrArg (fun z => some (vI z)) (by unfold pkC pkG; rw [if_pos (by omega), bite_f h39]), rfl⟩
    refine r_iconst (dc dkX1_pegAt 23 rfl) (np 43 rfl ?_)
    refine r_goto (tgt := 47) (dc dkX1_pegAt 24 rfl) rfl ?_
    exact r_iret (dc dkX1_pegAt 26 rfl) rfl ⟨congrArg (fun z => some (vI z)) (by unfold pkC pkG; rw [if_pos (by omega), bite_t h39]), rfl⟩
  refine r_iconst (dc dkX1_pegAt 17 rfl) (np 33 rfl ?_)
  exact r_iret (dc dkX1_pegAt 18 rfl) rfl ⟨congrArg (fun z => some (vI z)) (by unfold pkC pkG; rw [if_neg (by omega)]), rfl⟩
set_option maxRecDepth 100000 in
set_option maxHeartbeats 4000000 in
theorem c_X1_takeOut {σ : jS} {k : Nat} (hk : isBoard k) {p : Int} (hp : isPg p) : Jm 1 miX1_takeOut [.ref k, vI p] σ (fun r τ => r = none ∧ τ = ju (if p < 64 then ju σ k 4 (lOr (σ k 4) (lShl 1 p)) else ju σ k 5 (lOr (σ k 5) (lShl 1 (p - 64)))) k 3 (σ k 3 + 1)) := by
  refine jm_ofF (Po := (fun r τ => r = none ∧ τ = ju (if p < 64 then ju σ k 4 (lOr (σ k 4) (lShl 1 p)) else ju σ k 5 (lOr (σ k 5) (lShl 1 (p - 64)))) k 3 (σ k 3 + 1))) (plainFor_of_name (by decide)) (Nat.le_of_ble_eq_true rfl) (lv := [(0, _), (1, _)]) rfl ?_
  refine r_iload_n (dc dkX1_takeOut 0 rfl) rfl (np 1 rfl ?_)
  refine r_bipush (dc dkX1_takeOut 1 rfl) bp_64 (np 3 rfl ?_)
  refine r_icmp_ge (tgt := 21) (dc dkX1_takeOut 2 rfl) rfl (by first | assumption | decide | omega) (by first | assumption | decide | omega) (fun h3 => ?_) (fun h3 => (np 6 rfl ?_))
  · skip
    refine r_aload_n (dc dkX1_takeOut 12 rfl) rfl (np 22 rfl ?_)
    refine r_dup (dc dkX1_takeOut 13 rfl) rfl (np 23 rfl ?_)
    refine r_gL 5 (dc dkX1_takeOut 14 rfl) flX1_29 (fdBoard_5 hk) rfl (np 26 rfl ?_)
    refine r_lconst (dc dkX1_takeOut 15 rfl) lc_1 (np 27 rfl ?_)
    refine r_iload_n (dc dkX1_takeOut 16 rfl) rfl (np 28 rfl ?_)
    refine r_bipush (dc dkX1_takeOut 17 rfl) bp_64 (np 30 rfl ?_)
    refine r_isub (dc dkX1_takeOut 18 rfl) (np 31 rfl ?_)
    refine r_lshl (dc dkX1_takeOut 19 rfl) (np 32 rfl ?_)
    refine r_lor (dc dkX1_takeOut 20 rfl) (np 33 rfl ?_)
    refine r_pL 5 (dc dkX1_takeOut 21 rfl) fpX1_29 (fdBoard_5 hk) rfl (np 36 rfl ?_)
    refine r_aload_n (dc dkX1_takeOut 22 rfl) rfl (np 37 rfl ?_)
    refine r_dup (dc dkX1_takeOut 23 rfl) rfl (np 38 rfl ?_)
    refine r_gI 3 (dc dkX1_takeOut 24 rfl) flX1_22 (fdBoard_3 hk) rfl (np 41 rfl ?_)
    refine r_iconst (dc dkX1_takeOut 25 rfl) (np 42 rfl ?_)
    refine r_iadd (dc dkX1_takeOut 26 rfl) (np 43 rfl ?_)
    refine r_pI 3 (dc dkX1_takeOut 27 rfl) fpX1_22 (fdBoard_3 hk) rfl (np 46 rfl ?_)
    exact r_vret (dc dkX1_takeOut 28 rfl) rfl ⟨rfl, by first | (rw [if_pos (by omega)]; congr 1; simp [ju]; done) | (rw [if_neg (by omega)]; congr 1; simp [ju]; done)⟩
  refine r_aload_n (dc dkX1_takeOut 3 rfl) rfl (np 7 rfl ?_)
  refine r_dup (dc dkX1_takeOut 4 rfl) rfl (np 8 rfl ?_)
  refine r_gL 4 (dc dkX1_takeOut 5 rfl) flX1_25 (fdBoard_4 hk) rfl (np 11 rfl ?_)
  refine r_lconst (dc dkX1_takeOut 6 rfl) lc_1 (np 12 rfl ?_)
  refine r_iload_n (dc dkX1_takeOut 7 rfl) rfl (np 13 rfl ?_)
  refine r_lshl (dc dkX1_takeOut 8 rfl) (np 14 rfl ?_)
  refine r_lor (dc dkX1_takeOut 9 rfl) (np 15 rfl ?_)
  refine r_pL 4 (dc dkX1_takeOut 10 rfl) fpX1_25 (fdBoard_4 hk) rfl (np 18 rfl ?_)
  refine r_goto (tgt := 36) (dc dkX1_takeOut 11 rfl) rfl ?_
  refine r_aload_n (dc dkX1_takeOut 22 rfl) rfl (np 37 rfl ?_)
  refine r_dup (dc dkX1_takeOut 23 rfl) rfl (np 38 rfl ?_)
  refine r_gI 3 (dc dkX1_takeOut 24 rfl) flX1_22 (fdBoard_3 hk) rfl (np 41 rfl ?_)
  refine r_iconst (dc dkX1_takeOut 25 rfl) (np 42 rfl ?_)
  refine r_iadd (dc dkX1_takeOut 26 rfl) (np 43 rfl ?_)
  refine r_pI 3 (dc dkX1_takeOut 27 rfl) fpX1_22 (fdBoard_3 hk) rfl (np 46 rfl ?_)
  exact r_vret (dc dkX1_takeOut 28 rfl) rfl ⟨rfl, by first | (rw [if_pos (by omega)]; congr 1; simp [ju]; done) | (rw [if_neg (by omega)]; congr 1; simp [ju]; done)⟩
set_option maxRecDepth 100000 in
set_option maxHeartbeats 4000000 in
theorem c_X1_place {σ : jS} {k : Nat} (hk : isBoard k) (hD : okD σ k) {x y : Int} (hx : lR x) (hy : lR y) : Jp 1 miX1_place [.ref k, vL x, vL y] σ (vI (plG (σ k 0) (σ k 1) x y)) := by
  have w1 := hD.1
  have w2 := hD.2.1
  refine jm_ofF (Po := (jP (vI (plG (σ k 0) (σ k 1) x y)) σ)) (plainFor_of_name (by decide)) (Nat.le_of_ble_eq_true rfl) (lv := [(0, _), (1, _), (3, _)]) rfl ?_
  refine r_lload_n (dc dkX1_place 0 rfl) rfl (np 1 rfl ?_)
  refine r_lconst (dc dkX1_place 1 rfl) lc_0 (np 2 rfl ?_)
  refine r_lcmp (dc dkX1_place 2 rfl) (by first | assumption | decide | omega) (by first | assumption | decide | omega) (np 3 rfl ?_)
  refine r_if_lt (tgt := 32) (dc dkX1_place 3 rfl) rfl (by unfold jcmp; omega) (fun h3 => ?_) (fun h3 => (np 6 rfl ?_))
  · skip
    refine r_iconst (dc dkX1_place 20 rfl) (np 33 rfl ?_)
    refine r_goto (tgt := 44) (dc dkX1_place 21 rfl) rfl ?_
    exact r_iret (dc dkX1_place 28 rfl) rfl ⟨congrArg (fun z => some (vI z)) (by unfold plG; unfold jcmp at *; first | (rw [if_neg (by omega)]; done) | rw [if_pos (by omega)]), rfl⟩
  refine r_lload_n (dc dkX1_place 4 rfl) rfl (np 7 rfl ?_)
  refine r_aload_n (dc dkX1_place 5 rfl) rfl (np 8 rfl ?_)
  refine r_gI 0 (dc dkX1_place 6 rfl) flX1_9 (fdBoard_0 hk) rfl (np 11 rfl ?_)
  refine r_i2l (dc dkX1_place 7 rfl) (by first | assumption | decide | omega) (np 12 rfl ?_)
  refine r_lcmp (dc dkX1_place 8 rfl) (by first | assumption | decide | omega) (by first | assumption | decide | omega) (np 13 rfl ?_)
  refine r_if_ge (tgt := 32) (dc dkX1_place 9 rfl) rfl (by unfold jcmp; omega) (fun h13 => ?_) (fun h13 => (np 16 rfl ?_))
  · skip
    refine r_iconst (dc dkX1_place 20 rfl) (np 33 rfl ?_)
    refine r_goto (tgt := 44) (dc dkX1_place 21 rfl) rfl ?_
    exact r_iret (dc dkX1_place 28 rfl) rfl ⟨congrArg (fun z => some (vI z)) (by unfold plG; unfold jcmp at *; first | (rw [if_neg (by omega)]; done) | rw [if_pos (by omega)]), rfl⟩
  refine r_lload_n (dc dkX1_place 10 rfl) rfl (np 17 rfl ?_)
  refine r_lconst (dc dkX1_place 11 rfl) lc_0 (np 18 rfl ?_)
  refine r_lcmp (dc dkX1_place 12 rfl) (by first | assumption | decide | omega) (by first | assumption | decide | omega) (np 19 rfl ?_)
  refine r_if_lt (tgt := 32) (dc dkX1_place 13 rfl) rfl (by unfold jcmp; omega) (fun h19 => ?_) (fun h19 => (np 22 rfl ?_))
  · skip
    refine r_iconst (dc dkX1_place 20 rfl) (np 33 rfl ?_)
    refine r_goto (tgt := 44) (dc dkX1_place 21 rfl) rfl ?_
    exact r_iret (dc dkX1_place 28 rfl) rfl ⟨congrArg (fun z => some (vI z)) (by unfold plG; unfold jcmp at *; first | (rw [if_neg (by omega)]; done) | rw [if_pos (by omega)]), rfl⟩
  refine r_lload_n (dc dkX1_place 14 rfl) rfl (np 23 rfl ?_)
  refine r_aload_n (dc dkX1_place 15 rfl) rfl (np 24 rfl ?_)
  refine r_gI 1 (dc dkX1_place 16 rfl) flX1_15 (fdBoard_1 hk) rfl (np 27 rfl ?_)
  refine r_i2l (dc dkX1_place 17 rfl) (by first | assumption | decide | omega) (np 28 rfl ?_)
  refine r_lcmp (dc dkX1_place 18 rfl) (by first | assumption | decide | omega) (by first | assumption | decide | omega) (np 29 rfl ?_)
  refine r_if_lt (tgt := 36) (dc dkX1_place 19 rfl) rfl (by unfold jcmp; omega) (fun h29 => ?_) (fun h29 => (np 32 rfl ?_))
  · skip
    refine r_ldc2 (z := 10) (dc dkX1_place 22 rfl) ckX1_63 (by decide) (np 39 rfl ?_)
    refine r_lload_n (dc dkX1_place 23 rfl) rfl (np 40 rfl ?_)
    refine r_lmul (dc dkX1_place 24 rfl) (np 41 rfl ?_)
    refine r_lload_n (dc dkX1_place 25 rfl) rfl (np 42 rfl ?_)
    refine r_ladd (dc dkX1_place 26 rfl) (np 43 rfl ?_)
    refine r_l2i (dc dkX1_place 27 rfl) (np 44 rfl ?_)
    exact r_iret (dc dkX1_place 28 rfl) rfl ⟨congrArg (fun z => some (vI z)) (by unfold plG; unfold jcmp at *; first | (rw [if_neg (by omega)]; done) | rw [if_pos (by omega)]), rfl⟩
  refine r_iconst (dc dkX1_place 20 rfl) (np 33 rfl ?_)
  refine r_goto (tgt := 44) (dc dkX1_place 21 rfl) rfl ?_
  exact r_iret (dc dkX1_place 28 rfl) rfl ⟨congrArg (fun z => some (vI z)) (by unfold plG; unfold jcmp at *; first | (rw [if_neg (by omega)]; done) | rw [if_pos (by omega)]), rfl⟩
set_option maxRecDepth 100000 in
set_option maxHeartbeats 4000000 in
theorem c_X1_idOf {σ : jS} {k : Nat} (hk : isBoard k) (hD : okD σ k) {w : Int} (hw : lR w) : Jp 1 miX1_idOf [.ref k, vL w] σ (vI (fi (fun i => σ (k + 1) i = w) (σ k 6))) := by
  have m1 := hD.2.2.2.2.1
  refine jm_ofF (Po := (jP (vI (fi (fun i => σ (k + 1) i = w) (σ k 6))) σ)) (plainFor_of_name (by decide)) (Nat.le_of_ble_eq_true rfl) (lv := [(0, _), (1, _)]) rfl ?_
  refine r_iconst (dc dkX1_idOf 0 rfl) (np 1 rfl ?_)
  refine r_istore_n (lv' := [(3, _), (0, _), (1, _)]) (dc dkX1_idOf 1 rfl) (Nat.le_of_ble_eq_true rfl) rfl (np 2 rfl ?_)
  refine r_pick [1, 2, 0] (lv' := [(0, _), (1, _), (3, _)]) rfl ?_
  refine jlp1 (P := fun (i : Int) => jR _ _ _ 2 [(0, .ref k), (1, vL w), (3, vI i)] [] σ) (I := fun (i : Int) => 0 ≤ i ∧ i ≤ σ k 6 ∧ fi (fun b => σ (k + 1) b = w) (σ k 6) = fiF (fun b => σ (k + 1) b = w) (σ k 6 - i).toNat i) (fun (i : Int) => (σ k 6 - i).toNat) ?_ _ ⟨by omega, by omega, fi_def _ _⟩
  intro i hI2 ih2
  refine r_iload_n (dc dkX1_idOf 2 rfl) rfl (np 3 rfl ?_)
  refine r_aload_n (dc dkX1_idOf 3 rfl) rfl (np 4 rfl ?_)
  refine r_gI 6 (dc dkX1_idOf 4 rfl) flX1_32 (fdBoard_6 hk) rfl (np 7 rfl ?_)
  refine r_icmp_ge (tgt := 35) (dc dkX1_idOf 5 rfl) rfl (by first | assumption | decide | omega) (by first | assumption | decide | omega) (fun h7 => ?_) (fun h7 => (np 10 rfl ?_))
  · skip
    refine r_iconst (dc dkX1_idOf 20 rfl) (np 36 rfl ?_)
    exact r_iret (dc dkX1_idOf 21 rfl) rfl ⟨congrArg (fun z => some (vI z)) (by rw [hI2.2.2, fiF_e (by omega)]), rfl⟩
  refine r_iload_n (dc dkX1_idOf 6 rfl) rfl (np 11 rfl ?_)
  refine r_bipush (dc dkX1_idOf 7 rfl) bp_8 (np 13 rfl ?_)
  refine r_icmp_ge (tgt := 35) (dc dkX1_idOf 8 rfl) rfl (by first | assumption | decide | omega) (by first | assumption | decide | omega) (fun h13 => ?_) (fun h13 => (np 16 rfl ?_))
  · skip
    refine r_iconst (dc dkX1_idOf 20 rfl) (np 36 rfl ?_)
    exact r_iret (dc dkX1_idOf 21 rfl) rfl ⟨congrArg (fun z => some (vI z)) (by rw [hI2.2.2, fiF_e (by omega)]), rfl⟩
  refine r_aload_n (dc dkX1_idOf 9 rfl) rfl (np 17 rfl ?_)
  refine r_getR (dc dkX1_idOf 10 rfl) flX1_38 (fdBoard_8 hk) (np 20 rfl ?_)
  refine r_iload_n (dc dkX1_idOf 11 rfl) rfl (np 21 rfl ?_)
  refine r_lald (dc dkX1_idOf 12 rfl) (arBoard_8 hk) (by omega) (np 22 rfl ?_)
  refine r_lload_n (dc dkX1_idOf 13 rfl) rfl (np 23 rfl ?_)
  refine r_lcmp (dc dkX1_idOf 14 rfl) (hD.2.2.2.2.2.2 i (by omega) (by omega)) hw (np 24 rfl ?_)
  refine r_if_ne (tgt := 29) (dc dkX1_idOf 15 rfl) rfl (by unfold jcmp; omega) (fun h24 => ?_) (fun h24 => (np 27 rfl ?_))
  · skip
    replace h24 : ¬ σ (k + 1) i = w := by unfold jcmp at h24; omega
    refine r_iinc (lv' := [(3, _), (0, _), (1, _)]) (dc dkX1_idOf 18 rfl) (Nat.le_of_ble_eq_true rfl) rfl rfl (np 32 rfl ?_)
    refine r_goto (tgt := 2) (dc dkX1_idOf 19 rfl) rfl ?_
    refine r_pick [1, 2, 0] rfl ?_
    exact ih2 _ ⟨by omega, by omega, by rw [hI2.2.2, fiF_n (P := fun b => σ (k + 1) b = w) (by omega) h24]⟩ (by omega)
  replace h24 : σ (k + 1) i = w := by unfold jcmp at h24; omega
  refine r_iload_n (dc dkX1_idOf 16 rfl) rfl (np 28 rfl ?_)
  exact r_iret (dc dkX1_idOf 17 rfl) rfl ⟨congrArg (fun z => some (vI z)) (by rw [hI2.2.2, fiF_t (P := fun b => σ (k + 1) b = w) (by omega) h24]), rfl⟩
theorem rwP_n {σ : jS} {n i : Int} (h0 : 0 ≤ i) (h1 : i < n) : rwP σ n i = σ 6 i := by unfold rwP; rw [Int.emod_eq_of_lt h0 h1]
set_option maxRecDepth 100000 in
set_option maxHeartbeats 4000000 in
theorem c_X1_isKnotted {σ : jS} {n : Int} (hn : 3 ≤ n ∧ n ≤ 8) (hpg : ∀ i, 0 ≤ i → i < n → isPg (σ 6 i)) : Jp 3 miX1_isKnotted [.ref 6, vI n] σ (vI (bI (E4 n (rwP σ n)))) := by
  refine jm_ofF (Po := (jP (vI (bI (E4 n (rwP σ n)))) σ)) (plainFor_of_name (by decide)) (Nat.le_of_ble_eq_true rfl) (lv := [(0, _), (1, _)]) rfl ?_
  refine r_iconst (dc dkX1_isKnotted 0 rfl) (np 1 rfl ?_)
  refine r_istore_n (lv' := [(2, _), (0, _), (1, _)]) (dc dkX1_isKnotted 1 rfl) (Nat.le_of_ble_eq_true rfl) rfl (np 2 rfl ?_)
  refine r_pick [1, 2, 0] (lv' := [(0, _), (1, _), (2, _)]) rfl ?_
  refine jlp1 (P := fun (i : Int) => jR _ _ _ 2 [(0, .ref 6), (1, vI n), (2, vI i)] [] σ) (I := fun (i : Int) => 0 ≤ i ∧ i ≤ n ∧ ∀ z j, 0 ≤ z → z < i → z + 2 ≤ j → j < n → ¬ (z = 0 ∧ j = n - 1) → mt (rwP σ n z) (rwP σ n (z + 1)) (rwP σ n j) (rwP σ n (j + 1)) = 0) (fun (i : Int) => (n - i).toNat) ?_ _ ⟨by omega, by omega, fun z j _ _ => by omega⟩
  intro i hI2 ih2
  refine r_iload_n (dc dkX1_isKnotted 2 rfl) rfl (np 3 rfl ?_)
  refine r_iload_n (dc dkX1_isKnotted 3 rfl) rfl (np 4 rfl ?_)
  refine r_icmp_ge (tgt := 77) (dc dkX1_isKnotted 4 rfl) rfl (by first | assumption | decide | omega) (by first | assumption | decide | omega) (fun h4 => ?_) (fun h4 => (np 7 rfl ?_))
  · skip
    refine r_iconst (dc dkX1_isKnotted 51 rfl) (np 78 rfl ?_)
    exact r_zret (dc dkX1_isKnotted 52 rfl) rfl (by first | exact Or.inl rfl | exact Or.inr rfl) ⟨congrArg (fun z => some (vI z)) ((bI_f (fun ⟨z, q, g, e⟩ => e (hI2.2.2 z q g.1 (by omega) g.2.1 g.2.2.1 g.2.2.2))).symm), rfl⟩
  refine r_iload_n (dc dkX1_isKnotted 5 rfl) rfl (np 8 rfl ?_)
  refine r_iconst (dc dkX1_isKnotted 6 rfl) (np 9 rfl ?_)
  refine r_iadd (dc dkX1_isKnotted 7 rfl) (np 10 rfl ?_)
  refine r_istore_n (lv' := [(3, _), (0, _), (1, _), (2, _)]) (dc dkX1_isKnotted 8 rfl) (Nat.le_of_ble_eq_true rfl) rfl (np 11 rfl ?_)
  refine r_pick [1, 2, 3, 0] (lv' := [(0, _), (1, _), (2, _), (3, _)]) rfl ?_
  refine jlp1 (P := fun (j : Int) => jR _ _ _ 11 [(0, .ref 6), (1, vI n), (2, vI i), (3, vI j)] [] σ) (I := fun (j : Int) => i + 2 ≤ j ∧ (j ≤ n ∨ j = i + 2) ∧ ∀ q, i + 2 ≤ q → q < j → ¬ (i = 0 ∧ q = n - 1) → mt (rwP σ n i) (rwP σ n (i + 1)) (rwP σ n q) (rwP σ n (q + 1)) = 0) (fun (j : Int) => (n - j).toNat) ?_ _ ⟨by omega, by omega, fun q _ _ => by omega⟩
  intro j hI11 ih11
  refine r_iload_n (dc dkX1_isKnotted 9 rfl) rfl (np 12 rfl ?_)
  refine r_iload_n (dc dkX1_isKnotted 10 rfl) rfl (np 13 rfl ?_)
  refine r_icmp_ge (tgt := 71) (dc dkX1_isKnotted 11 rfl) rfl (by first | assumption | decide | omega) (by first | assumption | decide | omega) (fun h13 => ?_) (fun h13 => (np 16 rfl ?_))
  · skip
    refine r_iinc (lv' := [(2, _), (0, _), (1, _), (3, _)]) (dc dkX1_isKnotted 49 rfl) (Nat.le_of_ble_eq_true rfl) rfl rfl (np 74 rfl ?_)
    refine r_goto (tgt := 2) (dc dkX1_isKnotted 50 rfl) rfl ?_
    refine r_pick [1, 2, 0] rfl ?_
    exact ih2 _ ⟨by omega, by omega, fun z q g0 g1 g2 g3 g4 => by rcases (show z < i ∨ z = i by omega) with r | r; exact hI2.2.2 z q g0 r g2 g3 g4; subst r; exact hI11.2.2 q g2 (by omega) g4⟩ (by omega)
  refine r_iload_n (dc dkX1_isKnotted 12 rfl) rfl (np 17 rfl ?_)
  refine r_if_ne (tgt := 31) (dc dkX1_isKnotted 13 rfl) rfl (by first | assumption | decide | omega) (fun h17 => ?_) (fun h17 => (np 20 rfl ?_))
  · skip
    refine r_iconst (dc dkX1_isKnotted 21 rfl) (np 32 rfl ?_)
    refine r_istore (lv' := [(4, _), (0, _), (1, _), (2, _), (3, _)]) (dc dkX1_isKnotted 22 rfl) (Nat.le_of_ble_eq_true rfl) rfl (np 34 rfl ?_)
    refine r_iload (dc dkX1_isKnotted 23 rfl) rfl (np 36 rfl ?_)
    refine r_if_ne (tgt := 65) (dc dkX1_isKnotted 24 rfl) rfl (by first | assumption | decide | omega) (fun h36 => ?_) (fun h36 => (np 39 rfl ?_))
    · exact absurd h36 (by decide)
    have em := em_b (i := j + 1) hn
    refine r_aload_n (dc dkX1_isKnotted 25 rfl) rfl (np 40 rfl ?_)
    refine r_iload_n (dc dkX1_isKnotted 26 rfl) rfl (np 41 rfl ?_)
    refine r_iald (dc dkX1_isKnotted 27 rfl) ar_6 (by omega) (np 42 rfl ?_)
    refine r_aload_n (dc dkX1_isKnotted 28 rfl) rfl (np 43 rfl ?_)
    refine r_iload_n (dc dkX1_isKnotted 29 rfl) rfl (np 44 rfl ?_)
    refine r_iconst (dc dkX1_isKnotted 30 rfl) (np 45 rfl ?_)
    refine r_iadd (dc dkX1_isKnotted 31 rfl) (np 46 rfl ?_)
    refine r_iald (dc dkX1_isKnotted 32 rfl) ar_6 (by omega) (np 47 rfl ?_)
    refine r_aload_n (dc dkX1_isKnotted 33 rfl) rfl (np 48 rfl ?_)
    refine r_iload_n (dc dkX1_isKnotted 34 rfl) rfl (np 49 rfl ?_)
    refine r_iald (dc dkX1_isKnotted 35 rfl) ar_6 (by omega) (np 50 rfl ?_)
    refine r_aload_n (dc dkX1_isKnotted 36 rfl) rfl (np 51 rfl ?_)
    refine r_iload_n (dc dkX1_isKnotted 37 rfl) rfl (np 52 rfl ?_)
    refine r_iconst (dc dkX1_isKnotted 38 rfl) (np 53 rfl ?_)
    refine r_iadd (dc dkX1_isKnotted 39 rfl) (np 54 rfl ?_)
    refine r_iload_n (dc dkX1_isKnotted 40 rfl) rfl (np 55 rfl ?_)
    refine r_iremn (dc dkX1_isKnotted 41 rfl) (by first | assumption | decide | omega) (by first | assumption | decide | omega) (np 56 rfl ?_)
    refine r_iald (dc dkX1_isKnotted 42 rfl) ar_6 (by omega) (np 57 rfl ?_)
    refine r_pS4 (y' := miX7_meet) (dc dkX1_isKnotted 43 rfl) mlX1_87 seX7_meet (Nat.le_of_ble_eq_true rfl) (Nat.le_of_ble_eq_true rfl) (c_X7_meet (hpg _ (by omega) (by omega)) (hpg _ (by omega) (by omega)) (hpg _ (by omega) (by omega)) (hpg _ (em_b hn).1.1 (em_b hn).2)) (np 60 rfl ?_)
    refine r_if_eq (tgt := 65) (dc dkX1_isKnotted 44 rfl) rfl (by have := mt_b (σ 6 i) (σ 6 (i + 1)) (σ 6 j) (σ 6 ((j + 1) % n)); omega) (fun h60 => ?_) (fun h60 => (np 63 rfl ?_))
    · skip
      refine r_iinc (lv' := [(3, _), (4, _), (0, _), (1, _), (2, _)]) (dc dkX1_isKnotted 47 rfl) (Nat.le_of_ble_eq_true rfl) rfl rfl (np 68 rfl ?_)
      refine r_goto (tgt := 11) (dc dkX1_isKnotted 48 rfl) rfl ?_
      refine r_pick [2, 3, 4, 0] rfl ?_
      exact ih11 _ ⟨by omega, by omega, fun q g0 g1 g2 => by rcases (show q < j ∨ q = j by omega) with r | r; exact hI11.2.2 q g0 r g2; subst r; first | omega | (rw [rwP_n (by omega) (by omega), rwP_n (by omega) (by omega), rwP_n (by omega) (by omega)]; exact h60)⟩ (by omega)
    refine r_iconst (dc dkX1_isKnotted 45 rfl) (np 64 rfl ?_)
    exact r_zret (dc dkX1_isKnotted 46 rfl) rfl (by first | exact Or.inl rfl | exact Or.inr rfl) ⟨congrArg (fun z => some (vI z)) ((bI_t ⟨i, j, by omega, by rw [rwP_n (by omega) (by omega), rwP_n (by omega) (by omega), rwP_n (by omega) (by omega)]; exact h60⟩).symm), rfl⟩
  refine r_iload_n (dc dkX1_isKnotted 14 rfl) rfl (np 21 rfl ?_)
  refine r_iload_n (dc dkX1_isKnotted 15 rfl) rfl (np 22 rfl ?_)
  refine r_iconst (dc dkX1_isKnotted 16 rfl) (np 23 rfl ?_)
  refine r_isub (dc dkX1_isKnotted 17 rfl) (np 24 rfl ?_)
  refine r_icmp_ne (tgt := 31) (dc dkX1_isKnotted 18 rfl) rfl (by first | assumption | decide | omega) (by first | assumption | decide | omega) (fun h24 => ?_) (fun h24 => (np 27 rfl ?_))
  · skip
    refine r_iconst (dc dkX1_isKnotted 21 rfl) (np 32 rfl ?_)
    refine r_istore (lv' := [(4, _), (0, _), (1, _), (2, _), (3, _)]) (dc dkX1_isKnotted 22 rfl) (Nat.le_of_ble_eq_true rfl) rfl (np 34 rfl ?_)
    refine r_iload (dc dkX1_isKnotted 23 rfl) rfl (np 36 rfl ?_)
    refine r_if_ne (tgt := 65) (dc dkX1_isKnotted 24 rfl) rfl (by first | assumption | decide | omega) (fun h36 => ?_) (fun h36 => (np 39 rfl ?_))
    · exact absurd h36 (by decide)
    have em := em_b (i := j + 1) hn
    refine r_aload_n (dc dkX1_isKnotted 25 rfl) rfl (np 40 rfl ?_)
    refine r_iload_n (dc dkX1_isKnotted 26 rfl) rfl (np 41 rfl ?_)
    refine r_iald (dc dkX1_isKnotted 27 rfl) ar_6 (by omega) (np 42 rfl ?_)
    refine r_aload_n (dc dkX1_isKnotted 28 rfl) rfl (np 43 rfl ?_)
    refine r_iload_n (dc dkX1_isKnotted 29 rfl) rfl (np 44 rfl ?_)
    refine r_iconst (dc dkX1_isKnotted 30 rfl) (np 45 rfl ?_)
    refine r_iadd (dc dkX1_isKnotted 31 rfl) (np 46 rfl ?_)
    refine r_iald (dc dkX1_isKnotted 32 rfl) ar_6 (by omega) (np 47 rfl ?_)
    refine r_aload_n (dc dkX1_isKnotted 33 rfl) rfl (np 48 rfl ?_)
    refine r_iload_n (dc dkX1_isKnotted 34 rfl) rfl (np 49 rfl ?_)
    refine r_iald (dc dkX1_isKnotted 35 rfl) ar_6 (by omega) (np 50 rfl ?_)
    refine r_aload_n (dc dkX1_isKnotted 36 rfl) rfl (np 51 rfl ?_)
    refine r_iload_n (dc dkX1_isKnotted 37 rfl) rfl (np 52 rfl ?_)
    refine r_iconst (dc dkX1_isKnotted 38 rfl) (np 53 rfl ?_)
    refine r_iadd (dc dkX1_isKnotted 39 rfl) (np 54 rfl ?_)
    refine r_iload_n (dc dkX1_isKnotted 40 rfl) rfl (np 55 rfl ?_)
    refine r_iremn (dc dkX1_isKnotted 41 rfl) (by first | assumption | decide | omega) (by first | assumption | decide | omega) (np 56 rfl ?_)
    refine r_iald (dc dkX1_isKnotted 42 rfl) ar_6 (by omega) (np 57 rfl ?_)
    refine r_pS4 (y' := miX7_meet) (dc dkX1_isKnotted 43 rfl) mlX1_87 seX7_meet (Nat.le_of_ble_eq_true rfl) (Nat.le_of_ble_eq_true rfl) (c_X7_meet (hpg _ (by omega) (by omega)) (hpg _ (by omega) (by omega)) (hpg _ (by omega) (by omega)) (hpg _ (em_b hn).1.1 (em_b hn).2)) (np 60 rfl ?_)
    refine r_if_eq (tgt := 65) (dc dkX1_isKnotted 44 rfl) rfl (by have := mt_b (σ 6 i) (σ 6 (i + 1)) (σ 6 j) (σ 6 ((j + 1) % n)); omega) (fun h60 => ?_) (fun h60 => (np 63 rfl ?_))
    · skip
      refine r_iinc (lv' := [(3, _), (4, _), (0, _), (1, _), (2, _)]) (dc dkX1_isKnotted 47 rfl) (Nat.le_of_ble_eq_true rfl) rfl rfl (np 68 rfl ?_)
      refine r_goto (tgt := 11) (dc dkX1_isKnotted 48 rfl) rfl ?_
      refine r_pick [2, 3, 4, 0] rfl ?_
      exact ih11 _ ⟨by omega, by omega, fun q g0 g1 g2 => by rcases (show q < j ∨ q = j by omega) with r | r; exact hI11.2.2 q g0 r g2; subst r; first | omega | (rw [rwP_n (by omega) (by omega), rwP_n (by omega) (by omega), rwP_n (by omega) (by omega)]; exact h60)⟩ (by omega)
    refine r_iconst (dc dkX1_isKnotted 45 rfl) (np 64 rfl ?_)
    exact r_zret (dc dkX1_isKnotted 46 rfl) rfl (by first | exact Or.inl rfl | exact Or.inr rfl) ⟨congrArg (fun z => some (vI z)) ((bI_t ⟨i, j, by omega, by rw [rwP_n (by omega) (by omega), rwP_n (by omega) (by omega), rwP_n (by omega) (by omega)]; exact h60⟩).symm), rfl⟩
  refine r_iconst (dc dkX1_isKnotted 19 rfl) (np 28 rfl ?_)
  refine r_goto (tgt := 32) (dc dkX1_isKnotted 20 rfl) rfl ?_
  refine r_istore (lv' := [(4, _), (0, _), (1, _), (2, _), (3, _)]) (dc dkX1_isKnotted 22 rfl) (Nat.le_of_ble_eq_true rfl) rfl (np 34 rfl ?_)
  refine r_iload (dc dkX1_isKnotted 23 rfl) rfl (np 36 rfl ?_)
  refine r_if_ne (tgt := 65) (dc dkX1_isKnotted 24 rfl) rfl (by first | assumption | decide | omega) (fun h36 => ?_) (fun h36 => (np 39 rfl ?_))
  · skip
    refine r_iinc (lv' := [(3, _), (4, _), (0, _), (1, _), (2, _)]) (dc dkX1_isKnotted 47 rfl) (Nat.le_of_ble_eq_true rfl) rfl rfl (np 68 rfl ?_)
    refine r_goto (tgt := 11) (dc dkX1_isKnotted 48 rfl) rfl ?_
    refine r_pick [2, 3, 4, 0] rfl ?_
    exact ih11 _ ⟨by omega, by omega, fun q g0 g1 g2 => by rcases (show q < j ∨ q = j by omega) with r | r; exact hI11.2.2 q g0 r g2; subst r; first | omega | (rw [rwP_n (by omega) (by omega), rwP_n (by omega) (by omega), rwP_n (by omega) (by omega)]; exact h60)⟩ (by omega)
  exact absurd h36 (by decide)
set_option maxRecDepth 100000 in
set_option maxHeartbeats 4000000 in
theorem c_X1_wrongAlone {σ : jS} {k : Nat} (hk : isBoard k) (hD : okD σ k) {n : Int} (hn : 3 ≤ n ∧ n ≤ 8) (hr : ∀ i, 0 ≤ i → i < n → iR (σ 6 i)) : Jp 4 miX1_wrongAlone [.ref k, .ref 6, vI n] σ (vI (wrA n (rwP σ n) (pkC σ k))) := by
  have w1 := hD.1
  have w2 := hD.2.1
  refine jm_ofF (Po := (jP (vI (wrA n (rwP σ n) (pkC σ k))) σ)) (plainFor_of_name (by decide)) (Nat.le_of_ble_eq_true rfl) (lv := [(0, _), (1, _), (2, _)]) rfl ?_
  refine r_iload_n (dc dkX1_wrongAlone 0 rfl) rfl (np 1 rfl ?_)
  refine r_iconst (dc dkX1_wrongAlone 1 rfl) (np 2 rfl ?_)
  refine r_icmp_lt (tgt := 11) (dc dkX1_wrongAlone 2 rfl) rfl (by first | assumption | decide | omega) (by first | assumption | decide | omega) (fun h2 => ?_) (fun h2 => (np 5 rfl ?_))
  · skip
    omega
  refine r_iload_n (dc dkX1_wrongAlone 3 rfl) rfl (np 6 rfl ?_)
  refine r_aload_n (dc dkX1_wrongAlone 4 rfl) rfl (np 7 rfl ?_)
  refine r_alen (dc dkX1_wrongAlone 5 rfl) ar_6 (Nat.le_of_ble_eq_true rfl) (np 8 rfl ?_)
  refine r_icmp_le (tgt := 13) (dc dkX1_wrongAlone 6 rfl) rfl (by first | assumption | decide | omega) (by first | assumption | decide | omega) (fun h8 => ?_) (fun h8 => (np 11 rfl ?_))
  · skip
    refine r_iconst (dc dkX1_wrongAlone 9 rfl) (np 14 rfl ?_)
    refine r_istore_n (lv' := [(3, _), (0, _), (1, _), (2, _)]) (dc dkX1_wrongAlone 10 rfl) (Nat.le_of_ble_eq_true rfl) rfl (np 15 rfl ?_)
    refine r_pick [1, 2, 3, 0] (lv' := [(0, _), (1, _), (2, _), (3, _)]) rfl ?_
    refine jlp1 (P := fun (i : Int) => jR _ _ _ 15 [(0, .ref k), (1, .ref 6), (2, vI n), (3, vI i)] [] σ) (I := fun (i : Int) => 0 ≤ i ∧ i ≤ n ∧ ∀ j, 0 ≤ j → j < i → pkC σ k (σ 6 j) = 1) (fun (i : Int) => (n - i).toNat) ?_ _ ⟨by omega, by omega, fun j _ _ => by omega⟩
    intro i hI15 ih15
    refine r_iload_n (dc dkX1_wrongAlone 11 rfl) rfl (np 16 rfl ?_)
    refine r_iload_n (dc dkX1_wrongAlone 12 rfl) rfl (np 17 rfl ?_)
    refine r_icmp_ge (tgt := 39) (dc dkX1_wrongAlone 13 rfl) rfl (by first | assumption | decide | omega) (by first | assumption | decide | omega) (fun h17 => ?_) (fun h17 => (np 20 rfl ?_))
    · skip
      have n1 : ¬ E1 n (rwP σ n) (pkC σ k) := fun ⟨j, g, z⟩ => z (by rw [rwP_n g.1 g.2]; exact hI15.2.2 j g.1 (by omega))
      have hpg : ∀ j, 0 ≤ j → j < n → isPg (σ 6 j) := fun j g0 g1 => pk_pg w1 w2 (hI15.2.2 j g0 (by omega))
      refine r_iconst (dc dkX1_wrongAlone 25 rfl) (np 40 rfl ?_)
      refine r_istore_n (lv' := [(3, _), (0, _), (1, _), (2, _)]) (dc dkX1_wrongAlone 26 rfl) (Nat.le_of_ble_eq_true rfl) rfl (np 41 rfl ?_)
      refine r_pick [1, 2, 3, 0] (lv' := [(0, _), (1, _), (2, _), (3, _)]) rfl ?_
      refine jlp1 (P := fun (i : Int) => jR _ _ _ 41 [(0, .ref k), (1, .ref 6), (2, vI n), (3, vI i)] [] σ) (I := fun (i : Int) => 0 ≤ i ∧ i ≤ n ∧ ∀ z j, 0 ≤ j → j < z → z < i → ¬ σ 6 z = σ 6 j) (fun (i : Int) => (n - i).toNat) ?_ _ ⟨by omega, by omega, fun z j _ _ _ => by omega⟩
      intro i hI41 ih41
      refine r_iload_n (dc dkX1_wrongAlone 27 rfl) rfl (np 42 rfl ?_)
      refine r_iload_n (dc dkX1_wrongAlone 28 rfl) rfl (np 43 rfl ?_)
      refine r_icmp_ge (tgt := 79) (dc dkX1_wrongAlone 29 rfl) rfl (by first | assumption | decide | omega) (by first | assumption | decide | omega) (fun h43 => ?_) (fun h43 => (np 46 rfl ?_))
      · skip
        have n2 : ¬ E2 n (rwP σ n) := fun ⟨z, q, g, e⟩ => hI41.2.2 z q g.1 g.2.1 (by omega) (by rw [rwP_n (by omega) (by omega), rwP_n (by omega) (by omega)] at e; exact e)
        refine r_iconst (dc dkX1_wrongAlone 48 rfl) (np 80 rfl ?_)
        refine r_istore_n (lv' := [(3, _), (0, _), (1, _), (2, _)]) (dc dkX1_wrongAlone 49 rfl) (Nat.le_of_ble_eq_true rfl) rfl (np 81 rfl ?_)
        refine r_pick [1, 2, 3, 0] (lv' := [(0, _), (1, _), (2, _), (3, _)]) rfl ?_
        refine jlp1 (P := fun (i : Int) => jR _ _ _ 81 [(0, .ref k), (1, .ref 6), (2, vI n), (3, vI i)] [] σ) (I := fun (i : Int) => 0 ≤ i ∧ i ≤ n ∧ ∀ j, 0 ≤ j → j < i → ¬ tn (σ 6 j) (σ 6 ((j + 1) % n)) (σ 6 ((j + 2) % n)) = 0) (fun (i : Int) => (n - i).toNat) ?_ _ ⟨by omega, by omega, fun j _ _ => by omega⟩
        intro i hI81 ih81
        refine r_iload_n (dc dkX1_wrongAlone 50 rfl) rfl (np 82 rfl ?_)
        refine r_iload_n (dc dkX1_wrongAlone 51 rfl) rfl (np 83 rfl ?_)
        refine r_icmp_ge (tgt := 117) (dc dkX1_wrongAlone 52 rfl) rfl (by first | assumption | decide | omega) (by first | assumption | decide | omega) (fun h83 => ?_) (fun h83 => (np 86 rfl ?_))
        · skip
          have n3 : ¬ E3 n (rwP σ n) := fun ⟨j, g, e⟩ => hI81.2.2 j g.1 (by omega) (by rw [rwP_n (by omega) (by omega)] at e; exact e)
          refine r_aload_n (dc dkX1_wrongAlone 76 rfl) rfl (np 118 rfl ?_)
          refine r_iload_n (dc dkX1_wrongAlone 77 rfl) rfl (np 119 rfl ?_)
          refine r_pS2 (y' := miX1_isKnotted) (dc dkX1_wrongAlone 78 rfl) mlX1_83 seX1_isKnotted (Nat.le_of_ble_eq_true rfl) (Nat.le_of_ble_eq_true rfl) (c_X1_isKnotted (by omega) (by assumption)) (np 122 rfl ?_)
          refine r_bz (tgt := 129) (dc dkX1_wrongAlone 79 rfl) rfl (fun h122 => ?_) (fun h122 => (np 125 rfl ?_))
          · skip
            refine r_iconst (dc dkX1_wrongAlone 82 rfl) (np 130 rfl ?_)
            exact r_iret (dc dkX1_wrongAlone 83 rfl) rfl ⟨congrArg (fun z => some (vI z)) (by first | exact (wrA_4 n1 n2 n3 h122).symm | exact (wrA_0 n1 n2 n3 h122).symm), rfl⟩
          refine r_iconst (dc dkX1_wrongAlone 80 rfl) (np 126 rfl ?_)
          refine r_goto (tgt := 130) (dc dkX1_wrongAlone 81 rfl) rfl ?_
          exact r_iret (dc dkX1_wrongAlone 83 rfl) rfl ⟨congrArg (fun z => some (vI z)) (by first | exact (wrA_4 n1 n2 n3 h122).symm | exact (wrA_0 n1 n2 n3 h122).symm), rfl⟩
        refine r_aload_n (dc dkX1_wrongAlone 53 rfl) rfl (np 87 rfl ?_)
        refine r_iload_n (dc dkX1_wrongAlone 54 rfl) rfl (np 88 rfl ?_)
        refine r_iald (dc dkX1_wrongAlone 55 rfl) ar_6 (by omega) (np 89 rfl ?_)
        refine r_aload_n (dc dkX1_wrongAlone 56 rfl) rfl (np 90 rfl ?_)
        refine r_iload_n (dc dkX1_wrongAlone 57 rfl) rfl (np 91 rfl ?_)
        refine r_iconst (dc dkX1_wrongAlone 58 rfl) (np 92 rfl ?_)
        refine r_iadd (dc dkX1_wrongAlone 59 rfl) (np 93 rfl ?_)
        refine r_iload_n (dc dkX1_wrongAlone 60 rfl) rfl (np 94 rfl ?_)
        refine r_iremn (dc dkX1_wrongAlone 61 rfl) (by first | assumption | decide | omega) (by first | assumption | decide | omega) (np 95 rfl ?_)
        refine r_iald (dc dkX1_wrongAlone 62 rfl) ar_6 (by have := em_b (i := i + 1) hn; omega) (np 96 rfl ?_)
        refine r_aload_n (dc dkX1_wrongAlone 63 rfl) rfl (np 97 rfl ?_)
        refine r_iload_n (dc dkX1_wrongAlone 64 rfl) rfl (np 98 rfl ?_)
        refine r_iconst (dc dkX1_wrongAlone 65 rfl) (np 99 rfl ?_)
        refine r_iadd (dc dkX1_wrongAlone 66 rfl) (np 100 rfl ?_)
        refine r_iload_n (dc dkX1_wrongAlone 67 rfl) rfl (np 101 rfl ?_)
        refine r_iremn (dc dkX1_wrongAlone 68 rfl) (by first | assumption | decide | omega) (by first | assumption | decide | omega) (np 102 rfl ?_)
        refine r_iald (dc dkX1_wrongAlone 69 rfl) ar_6 (by have := em_b (i := i + 2) hn; omega) (np 103 rfl ?_)
        refine r_pS3 (y' := miX7_turn) (dc dkX1_wrongAlone 70 rfl) mlX1_77 seX7_turn (Nat.le_of_ble_eq_true rfl) (Nat.le_of_ble_eq_true rfl) (c_X7_turn (hpg _ (by omega) (by omega)) (hpg _ (em_b hn).1.1 (em_b hn).2) (hpg _ (em_b hn).1.1 (em_b hn).2)) (np 106 rfl ?_)
        refine r_if_ne (tgt := 111) (dc dkX1_wrongAlone 71 rfl) rfl (tn_R (hpg _ (by omega) (by omega)) (hpg _ (em_b hn).1.1 (em_b hn).2) (hpg _ (em_b hn).1.1 (em_b hn).2)) (fun h106 => ?_) (fun h106 => (np 109 rfl ?_))
        · skip
          refine r_iinc (lv' := [(3, _), (0, _), (1, _), (2, _)]) (dc dkX1_wrongAlone 74 rfl) (Nat.le_of_ble_eq_true rfl) rfl rfl (np 114 rfl ?_)
          refine r_goto (tgt := 81) (dc dkX1_wrongAlone 75 rfl) rfl ?_
          refine r_pick [1, 2, 3, 0] rfl ?_
          exact ih81 _ ⟨by omega, by omega, fun j g0 g1 => by rcases (show j < i ∨ j = i by omega) with r | r; exact hI81.2.2 j g0 r; subst r; exact h106⟩ (by omega)
        refine r_iconst (dc dkX1_wrongAlone 72 rfl) (np 110 rfl ?_)
        exact r_iret (dc dkX1_wrongAlone 73 rfl) rfl ⟨congrArg (fun z => some (vI z)) ((wrA_3 n1 n2 ⟨i, by omega, by rw [rwP_n (by omega) (by omega)]; exact h106⟩).symm), rfl⟩
      refine r_iconst (dc dkX1_wrongAlone 30 rfl) (np 47 rfl ?_)
      refine r_istore (lv' := [(4, _), (0, _), (1, _), (2, _), (3, _)]) (dc dkX1_wrongAlone 31 rfl) (Nat.le_of_ble_eq_true rfl) rfl (np 49 rfl ?_)
      refine r_pick [1, 2, 3, 4, 0] (lv' := [(0, _), (1, _), (2, _), (3, _), (4, _)]) rfl ?_
      refine jlp1 (P := fun (j : Int) => jR _ _ _ 49 [(0, .ref k), (1, .ref 6), (2, vI n), (3, vI i), (4, vI j)] [] σ) (I := fun (j : Int) => 0 ≤ j ∧ j ≤ i ∧ ∀ q, 0 ≤ q → q < j → ¬ σ 6 i = σ 6 q) (fun (j : Int) => (i - j).toNat) ?_ _ ⟨by omega, by omega, fun q _ _ => by omega⟩
      intro j hI49 ih49
      refine r_iload (dc dkX1_wrongAlone 32 rfl) rfl (np 51 rfl ?_)
      refine r_iload_n (dc dkX1_wrongAlone 33 rfl) rfl (np 52 rfl ?_)
      refine r_icmp_ge (tgt := 73) (dc dkX1_wrongAlone 34 rfl) rfl (by first | assumption | decide | omega) (by first | assumption | decide | omega) (fun h52 => ?_) (fun h52 => (np 55 rfl ?_))
      · skip
        refine r_iinc (lv' := [(3, _), (0, _), (1, _), (2, _), (4, _)]) (dc dkX1_wrongAlone 46 rfl) (Nat.le_of_ble_eq_true rfl) rfl rfl (np 76 rfl ?_)
        refine r_goto (tgt := 41) (dc dkX1_wrongAlone 47 rfl) rfl ?_
        refine r_pick [1, 2, 3, 0] rfl ?_
        exact ih41 _ ⟨by omega, by omega, fun z q g0 g1 g2 => by rcases (show z < i ∨ z = i by omega) with r | r; exact hI41.2.2 z q g0 g1 r; subst r; exact hI49.2.2 q g0 (by omega)⟩ (by omega)
      refine r_aload_n (dc dkX1_wrongAlone 35 rfl) rfl (np 56 rfl ?_)
      refine r_iload_n (dc dkX1_wrongAlone 36 rfl) rfl (np 57 rfl ?_)
      refine r_iald (dc dkX1_wrongAlone 37 rfl) ar_6 (by omega) (np 58 rfl ?_)
      refine r_aload_n (dc dkX1_wrongAlone 38 rfl) rfl (np 59 rfl ?_)
      refine r_iload (dc dkX1_wrongAlone 39 rfl) rfl (np 61 rfl ?_)
      refine r_iald (dc dkX1_wrongAlone 40 rfl) ar_6 (by omega) (np 62 rfl ?_)
      refine r_icmp_ne (tgt := 67) (dc dkX1_wrongAlone 41 rfl) rfl (hr i (by omega) (by omega)) (hr j (by omega) (by omega)) (fun h62 => ?_) (fun h62 => (np 65 rfl ?_))
      · skip
        refine r_iinc (lv' := [(4, _), (0, _), (1, _), (2, _), (3, _)]) (dc dkX1_wrongAlone 44 rfl) (Nat.le_of_ble_eq_true rfl) rfl rfl (np 70 rfl ?_)
        refine r_goto (tgt := 49) (dc dkX1_wrongAlone 45 rfl) rfl ?_
        refine r_pick [1, 2, 3, 4, 0] rfl ?_
        exact ih49 _ ⟨by omega, by omega, fun q g0 g1 => by rcases (show q < j ∨ q = j by omega) with r | r; exact hI49.2.2 q g0 r; subst r; exact h62⟩ (by omega)
      refine r_iconst (dc dkX1_wrongAlone 42 rfl) (np 66 rfl ?_)
      exact r_iret (dc dkX1_wrongAlone 43 rfl) rfl ⟨congrArg (fun z => some (vI z)) ((wrA_2 n1 ⟨i, j, by omega, by rw [rwP_n (by omega) (by omega), rwP_n (by omega) (by omega)]; exact h62⟩).symm), rfl⟩
    refine r_aload_n (dc dkX1_wrongAlone 14 rfl) rfl (np 21 rfl ?_)
    refine r_aload_n (dc dkX1_wrongAlone 15 rfl) rfl (np 22 rfl ?_)
    refine r_iload_n (dc dkX1_wrongAlone 16 rfl) rfl (np 23 rfl ?_)
    refine r_iald (dc dkX1_wrongAlone 17 rfl) ar_6 (by omega) (np 24 rfl ?_)
    refine r_pV1 (y' := miX1_pegAt) (dc dkX1_wrongAlone 18 rfl) mlX1_73 ceX1_pegAt (obBoard hk) (Nat.le_of_ble_eq_true rfl) (Nat.le_of_ble_eq_true rfl) (c_X1_pegAt hk (by assumption) (hr i (by omega) (by omega))) (np 27 rfl ?_)
    refine r_iconst (dc dkX1_wrongAlone 19 rfl) (np 28 rfl ?_)
    refine r_icmp_eq (tgt := 33) (dc dkX1_wrongAlone 20 rfl) rfl (by have := pkG_b (σ k 0) (σ k 1) (outB σ k) (σ 6 i); unfold pkC; omega) (by first | assumption | decide | omega) (fun h28 => ?_) (fun h28 => (np 31 rfl ?_))
    · skip
      refine r_iinc (lv' := [(3, _), (0, _), (1, _), (2, _)]) (dc dkX1_wrongAlone 23 rfl) (Nat.le_of_ble_eq_true rfl) rfl rfl (np 36 rfl ?_)
      refine r_goto (tgt := 15) (dc dkX1_wrongAlone 24 rfl) rfl ?_
      refine r_pick [1, 2, 3, 0] rfl ?_
      exact ih15 _ ⟨by omega, by omega, fun j g0 g1 => by rcases (show j < i ∨ j = i by omega) with r | r; exact hI15.2.2 j g0 r; subst r; exact h28⟩ (by omega)
    refine r_iconst (dc dkX1_wrongAlone 21 rfl) (np 32 rfl ?_)
    exact r_iret (dc dkX1_wrongAlone 22 rfl) rfl ⟨congrArg (fun z => some (vI z)) ((wrA_1 ⟨i, by omega, by rw [rwP_n (by omega) (by omega)]; exact h28⟩).symm), rfl⟩
  omega
set_option maxRecDepth 100000 in
set_option maxHeartbeats 4000000 in
theorem c_X1_meetsOthers {σ : jS} {k : Nat} (hk : isBoard k) (hB : okB σ (k + 2)) {n x : Int} (hn : 3 ≤ n ∧ n ≤ 8) (hx : iR x) (hpg : ∀ i, 0 ≤ i → i < n → isPg (σ 6 i)) : Jp 4 miX1_meetsOthers [.ref k, .ref 6, vI n, vI x] σ (vI (bI (E5 n (rwP σ n) (σ (k + 2) 0) x (σ (k + 2 + 2)) (bAt σ (k + 2))))) := by
  have hm := hB.1
  refine jm_ofF (Po := (jP (vI (bI (E5 n (rwP σ n) (σ (k + 2) 0) x (σ (k + 2 + 2)) (bAt σ (k + 2))))) σ)) (plainFor_of_name (by decide)) (Nat.le_of_ble_eq_true rfl) (lv := [(0, _), (1, _), (2, _), (3, _)]) rfl ?_
  refine r_iconst (dc dkX1_meetsOthers 0 rfl) (np 1 rfl ?_)
  refine r_istore (lv' := [(4, _), (0, _), (1, _), (2, _), (3, _)]) (dc dkX1_meetsOthers 1 rfl) (Nat.le_of_ble_eq_true rfl) rfl (np 3 rfl ?_)
  refine r_pick [1, 2, 3, 4, 0] (lv' := [(0, _), (1, _), (2, _), (3, _), (4, _)]) rfl ?_
  refine jlp1 (P := fun (o : Int) => jR _ _ _ 3 [(0, .ref k), (1, .ref 6), (2, vI n), (3, vI x), (4, vI o)] [] σ) (I := fun (o : Int) => 0 ≤ o ∧ o ≤ σ (k + 2) 0 ∧ ∀ z i j, 0 ≤ z → z < o → ¬ z = x → (0 ≤ i ∧ i < n) → (0 ≤ j ∧ j < σ (k + 2 + 2) z) → mt (rwP σ n i) (rwP σ n (i + 1)) (bAt σ (k + 2) z j) (bAt σ (k + 2) z (j + 1)) = 0) (fun (o : Int) => (σ (k + 2) 0 - o).toNat) ?_ _ ⟨by omega, by omega, fun z i j _ _ => by omega⟩
  intro o hI3 ih3
  refine r_iload (dc dkX1_meetsOthers 2 rfl) rfl (np 5 rfl ?_)
  refine r_aload_n (dc dkX1_meetsOthers 3 rfl) rfl (np 6 rfl ?_)
  refine r_getR (dc dkX1_meetsOthers 4 rfl) flX1_45 (fdBoard_9 hk) (np 9 rfl ?_)
  refine r_gI 0 (dc dkX1_meetsOthers 5 rfl) flX1_91 (fdBands_0 (isBoard_9 hk)) rfl (np 12 rfl ?_)
  refine r_icmp_ge (tgt := 113) (dc dkX1_meetsOthers 6 rfl) rfl (by first | assumption | decide | omega) (by first | assumption | decide | omega) (fun h12 => ?_) (fun h12 => (np 15 rfl ?_))
  · skip
    refine r_iconst (dc dkX1_meetsOthers 57 rfl) (np 114 rfl ?_)
    exact r_zret (dc dkX1_meetsOthers 58 rfl) rfl (by first | exact Or.inl rfl | exact Or.inr rfl) ⟨congrArg (fun z => some (vI z)) ((bI_f (fun ⟨z, i, j, g0, g1, g2, e⟩ => e (hI3.2.2 z i j g0.1 (by omega) g0.2.2 g1 g2))).symm), rfl⟩
  refine r_iconst (dc dkX1_meetsOthers 7 rfl) (np 16 rfl ?_)
  refine r_istore (lv' := [(5, _), (0, _), (1, _), (2, _), (3, _), (4, _)]) (dc dkX1_meetsOthers 8 rfl) (Nat.le_of_ble_eq_true rfl) rfl (np 18 rfl ?_)
  refine r_pick [1, 2, 3, 4, 5, 0] (lv' := [(0, _), (1, _), (2, _), (3, _), (4, _), (5, _)]) rfl ?_
  refine jlp1 (P := fun (i : Int) => jR _ _ _ 18 [(0, .ref k), (1, .ref 6), (2, vI n), (3, vI x), (4, vI o), (5, vI i)] [] σ) (I := fun (i : Int) => 0 ≤ i ∧ i ≤ n ∧ ∀ z j, 0 ≤ z → z < i → (0 ≤ j ∧ j < σ (k + 2 + 2) o) → mt (rwP σ n z) (rwP σ n (z + 1)) (bAt σ (k + 2) o j) (bAt σ (k + 2) o (j + 1)) = 0) (fun (i : Int) => (n - i).toNat) ?_ _ ⟨by omega, by omega, fun z j _ _ => by omega⟩
  intro i hI18 ih18
  refine r_iload (dc dkX1_meetsOthers 9 rfl) rfl (np 20 rfl ?_)
  refine r_iload_n (dc dkX1_meetsOthers 10 rfl) rfl (np 21 rfl ?_)
  refine r_icmp_ge (tgt := 107) (dc dkX1_meetsOthers 11 rfl) rfl (by first | assumption | decide | omega) (by first | assumption | decide | omega) (fun h21 => ?_) (fun h21 => (np 24 rfl ?_))
  · skip
    refine r_iinc (lv' := [(4, _), (0, _), (1, _), (2, _), (3, _), (5, _)]) (dc dkX1_meetsOthers 55 rfl) (Nat.le_of_ble_eq_true rfl) rfl rfl (np 110 rfl ?_)
    refine r_goto (tgt := 3) (dc dkX1_meetsOthers 56 rfl) rfl ?_
    refine r_pick [1, 2, 3, 4, 0] rfl ?_
    exact ih3 _ ⟨by omega, by omega, fun z i j g0 g1 g2 g3 g4 => by rcases (show z < o ∨ z = o by omega) with r | r; exact hI3.2.2 z i j g0 r g2 g3 g4; subst r; first | omega | exact hI18.2.2 i j g3.1 (by omega) g4⟩ (by omega)
  refine r_iload (dc dkX1_meetsOthers 12 rfl) rfl (np 26 rfl ?_)
  refine r_iload_n (dc dkX1_meetsOthers 13 rfl) rfl (np 27 rfl ?_)
  refine r_icmp_eq (tgt := 107) (dc dkX1_meetsOthers 14 rfl) rfl (by first | assumption | decide | omega) (by first | assumption | decide | omega) (fun h27 => ?_) (fun h27 => (np 30 rfl ?_))
  · skip
    refine r_iinc (lv' := [(4, _), (0, _), (1, _), (2, _), (3, _), (5, _)]) (dc dkX1_meetsOthers 55 rfl) (Nat.le_of_ble_eq_true rfl) rfl rfl (np 110 rfl ?_)
    refine r_goto (tgt := 3) (dc dkX1_meetsOthers 56 rfl) rfl ?_
    refine r_pick [1, 2, 3, 4, 0] rfl ?_
    exact ih3 _ ⟨by omega, by omega, fun z i j g0 g1 g2 g3 g4 => by rcases (show z < o ∨ z = o by omega) with r | r; exact hI3.2.2 z i j g0 r g2 g3 g4; subst r; first | omega | exact hI18.2.2 i j g3.1 (by omega) g4⟩ (by omega)
  refine r_iconst (dc dkX1_meetsOthers 15 rfl) (np 31 rfl ?_)
  refine r_istore (lv' := [(6, _), (0, _), (1, _), (2, _), (3, _), (4, _), (5, _)]) (dc dkX1_meetsOthers 16 rfl) (Nat.le_of_ble_eq_true rfl) rfl (np 33 rfl ?_)
  refine r_pick [1, 2, 3, 4, 5, 6, 0] (lv' := [(0, _), (1, _), (2, _), (3, _), (4, _), (5, _), (6, _)]) rfl ?_
  refine jlp1 (P := fun (j : Int) => jR _ _ _ 33 [(0, .ref k), (1, .ref 6), (2, vI n), (3, vI x), (4, vI o), (5, vI i), (6, vI j)] [] σ) (I := fun (j : Int) => 0 ≤ j ∧ j ≤ σ (k + 2 + 2) o ∧ ∀ q, 0 ≤ q → q < j → mt (rwP σ n i) (rwP σ n (i + 1)) (bAt σ (k + 2) o q) (bAt σ (k + 2) o (q + 1)) = 0) (fun (j : Int) => (σ (k + 2 + 2) o - j).toNat) ?_ _ ⟨by omega, by have := hB.2.1 o (by omega) (by omega); omega, fun q _ _ => by omega⟩
  intro j hI33 ih33
  have hs := hB.2.1 o (by omega) (by omega)
  refine r_iload (dc dkX1_meetsOthers 17 rfl) rfl (np 35 rfl ?_)
  refine r_aload_n (dc dkX1_meetsOthers 18 rfl) rfl (np 36 rfl ?_)
  refine r_getR (dc dkX1_meetsOthers 19 rfl) flX1_45 (fdBoard_9 hk) (np 39 rfl ?_)
  refine r_iload (dc dkX1_meetsOthers 20 rfl) rfl (np 41 rfl ?_)
  refine r_pV1 (y' := miX0_sizeOf) (dc dkX1_meetsOthers 21 rfl) mlX1_94 ceX0_sizeOf (obBands (isBoard_9 hk)) (Nat.le_of_ble_eq_true rfl) (Nat.le_of_ble_eq_true rfl) (c_X0_sizeOf (isBoard_9 hk) (by omega) (by omega)) (np 44 rfl ?_)
  refine r_icmp_ge (tgt := 101) (dc dkX1_meetsOthers 22 rfl) rfl (by first | assumption | decide | omega) (by first | assumption | decide | omega) (fun h44 => ?_) (fun h44 => (np 47 rfl ?_))
  · skip
    refine r_iinc (lv' := [(5, _), (0, _), (1, _), (2, _), (3, _), (4, _), (6, _)]) (dc dkX1_meetsOthers 53 rfl) (Nat.le_of_ble_eq_true rfl) rfl rfl (np 104 rfl ?_)
    refine r_goto (tgt := 18) (dc dkX1_meetsOthers 54 rfl) rfl ?_
    refine r_pick [1, 2, 3, 4, 5, 0] rfl ?_
    exact ih18 _ ⟨by omega, by omega, fun z j g0 g1 g2 => by rcases (show z < i ∨ z = i by omega) with r | r; exact hI18.2.2 z j g0 r g2; subst r; exact hI33.2.2 j g2.1 (by omega)⟩ (by omega)
  have em := em_b (i := i + 1) hn
  refine r_aload_n (dc dkX1_meetsOthers 23 rfl) rfl (np 48 rfl ?_)
  refine r_iload (dc dkX1_meetsOthers 24 rfl) rfl (np 50 rfl ?_)
  refine r_iald (dc dkX1_meetsOthers 25 rfl) ar_6 (by omega) (np 51 rfl ?_)
  refine r_aload_n (dc dkX1_meetsOthers 26 rfl) rfl (np 52 rfl ?_)
  refine r_iload (dc dkX1_meetsOthers 27 rfl) rfl (np 54 rfl ?_)
  refine r_iconst (dc dkX1_meetsOthers 28 rfl) (np 55 rfl ?_)
  refine r_iadd (dc dkX1_meetsOthers 29 rfl) (np 56 rfl ?_)
  refine r_iload_n (dc dkX1_meetsOthers 30 rfl) rfl (np 57 rfl ?_)
  refine r_iremn (dc dkX1_meetsOthers 31 rfl) (by first | assumption | decide | omega) (by first | assumption | decide | omega) (np 58 rfl ?_)
  refine r_iald (dc dkX1_meetsOthers 32 rfl) ar_6 (by omega) (np 59 rfl ?_)
  refine r_aload_n (dc dkX1_meetsOthers 33 rfl) rfl (np 60 rfl ?_)
  refine r_getR (dc dkX1_meetsOthers 34 rfl) flX1_45 (fdBoard_9 hk) (np 63 rfl ?_)
  refine r_iload (dc dkX1_meetsOthers 35 rfl) rfl (np 65 rfl ?_)
  refine r_iload (dc dkX1_meetsOthers 36 rfl) rfl (np 67 rfl ?_)
  refine r_pV2 (y' := miX0_at) (dc dkX1_meetsOthers 37 rfl) mlX1_97 ceX0_at (obBands (isBoard_9 hk)) (Nat.le_of_ble_eq_true rfl) (Nat.le_of_ble_eq_true rfl) (c_X0_at (isBoard_9 hk) (by assumption) (by omega) (by omega) (by omega) (by omega)) (np 70 rfl ?_)
  refine r_aload_n (dc dkX1_meetsOthers 38 rfl) rfl (np 71 rfl ?_)
  refine r_getR (dc dkX1_meetsOthers 39 rfl) flX1_45 (fdBoard_9 hk) (np 74 rfl ?_)
  refine r_iload (dc dkX1_meetsOthers 40 rfl) rfl (np 76 rfl ?_)
  refine r_iload (dc dkX1_meetsOthers 41 rfl) rfl (np 78 rfl ?_)
  refine r_iconst (dc dkX1_meetsOthers 42 rfl) (np 79 rfl ?_)
  refine r_iadd (dc dkX1_meetsOthers 43 rfl) (np 80 rfl ?_)
  refine r_pV2 (y' := miX0_at) (dc dkX1_meetsOthers 44 rfl) mlX1_97 ceX0_at (obBands (isBoard_9 hk)) (Nat.le_of_ble_eq_true rfl) (Nat.le_of_ble_eq_true rfl) (c_X0_at (isBoard_9 hk) (by assumption) (by omega) (by omega) (by omega) (by omega)) (np 83 rfl ?_)
  refine r_pS4 (y' := miX7_meet) (dc dkX1_meetsOthers 45 rfl) mlX1_87 seX7_meet (Nat.le_of_ble_eq_true rfl) (Nat.le_of_ble_eq_true rfl) (c_X7_meet (hpg _ (by omega) (by omega)) (hpg _ (em_b hn).1.1 (em_b hn).2) (bAt_p hB (by omega) (by omega) (by omega) (by omega)) (bAt_p hB (by omega) (by omega) (by omega) (by omega))) (np 86 rfl ?_)
  refine r_istore (lv' := [(7, _), (0, _), (1, _), (2, _), (3, _), (4, _), (5, _), (6, _)]) (dc dkX1_meetsOthers 46 rfl) (Nat.le_of_ble_eq_true rfl) rfl (np 88 rfl ?_)
  refine r_iload (dc dkX1_meetsOthers 47 rfl) rfl (np 90 rfl ?_)
  refine r_if_eq (tgt := 95) (dc dkX1_meetsOthers 48 rfl) rfl (by have := mt_b (σ 6 i) (σ 6 ((i + 1) % n)) (bAt σ (k + 2) o j) (bAt σ (k + 2) o (j + 1)); omega) (fun h90 => ?_) (fun h90 => (np 93 rfl ?_))
  · skip
    refine r_iinc (lv' := [(6, _), (7, _), (0, _), (1, _), (2, _), (3, _), (4, _), (5, _)]) (dc dkX1_meetsOthers 51 rfl) (Nat.le_of_ble_eq_true rfl) rfl rfl (np 98 rfl ?_)
    refine r_goto (tgt := 33) (dc dkX1_meetsOthers 52 rfl) rfl ?_
    refine r_pick [2, 3, 4, 5, 6, 7, 0] rfl ?_
    exact ih33 _ ⟨by omega, by omega, fun q g0 g1 => by rcases (show q < j ∨ q = j by omega) with r | r; exact hI33.2.2 q g0 r; subst r; rw [rwP_n (by omega) (by omega)]; exact h90⟩ (by omega)
  refine r_iconst (dc dkX1_meetsOthers 49 rfl) (np 94 rfl ?_)
  exact r_zret (dc dkX1_meetsOthers 50 rfl) rfl (by first | exact Or.inl rfl | exact Or.inr rfl) ⟨congrArg (fun z => some (vI z)) ((bI_t ⟨o, i, j, by omega, by omega, by omega, by rw [rwP_n (by omega) (by omega)]; exact h90⟩).symm), rfl⟩
set_option maxRecDepth 100000 in
set_option maxHeartbeats 4000000 in
theorem c_X1_wrongOf {σ : jS} {k : Nat} (hk : isBoard k) (hD : okD σ k) (hB : okB σ (k + 2)) {n x : Int} (hn : 3 ≤ n ∧ n ≤ 8) (hx : iR x) (hr : ∀ i, 0 ≤ i → i < n → iR (σ 6 i)) : Jp 5 miX1_wrongOf [.ref k, .ref 6, vI n, vI x] σ (vI (wrF n (rwP σ n) (pkC σ k) (σ k 2) (σ (k + 2) 0) x (σ (k + 2 + 2)) (bAt σ (k + 2)))) := by
  have w1 := hD.1
  have w2 := hD.2.1
  have w3 := hD.2.2.1
  have hwb := wrA_b n (rwP σ n) (pkC σ k)
  refine jm_ofF (Po := (jP (vI (wrF n (rwP σ n) (pkC σ k) (σ k 2) (σ (k + 2) 0) x (σ (k + 2 + 2)) (bAt σ (k + 2)))) σ)) (plainFor_of_name (by decide)) (Nat.le_of_ble_eq_true rfl) (lv := [(0, _), (1, _), (2, _), (3, _)]) rfl ?_
  refine r_aload_n (dc dkX1_wrongOf 0 rfl) rfl (np 1 rfl ?_)
  refine r_aload_n (dc dkX1_wrongOf 1 rfl) rfl (np 2 rfl ?_)
  refine r_iload_n (dc dkX1_wrongOf 2 rfl) rfl (np 3 rfl ?_)
  refine r_pV2 (y' := miX1_wrongAlone) (dc dkX1_wrongOf 3 rfl) mlX1_65 ceX1_wrongAlone (obBoard hk) (Nat.le_of_ble_eq_true rfl) (Nat.le_of_ble_eq_true rfl) (c_X1_wrongAlone hk (by assumption) (by omega) (by assumption)) (np 6 rfl ?_)
  refine r_istore (lv' := [(4, _), (0, _), (1, _), (2, _), (3, _)]) (dc dkX1_wrongOf 4 rfl) (Nat.le_of_ble_eq_true rfl) rfl (np 8 rfl ?_)
  refine r_iload (dc dkX1_wrongOf 5 rfl) rfl (np 10 rfl ?_)
  refine r_if_ne (tgt := 32) (dc dkX1_wrongOf 6 rfl) rfl (by first | assumption | decide | omega) (fun h10 => ?_) (fun h10 => (np 13 rfl ?_))
  · skip
    refine r_iload (dc dkX1_wrongOf 18 rfl) rfl (np 34 rfl ?_)
    exact r_iret (dc dkX1_wrongOf 19 rfl) rfl ⟨congrArg (fun z => some (vI z)) (by first | exact (wrF_n rfl h10).symm | (rw [h10]; exact (wrF_0 h10 (fun q => by first | exact h17 q.1 | exact h27 q.2)).symm)), rfl⟩
  refine r_aload_n (dc dkX1_wrongOf 7 rfl) rfl (np 14 rfl ?_)
  refine r_gI 2 (dc dkX1_wrongOf 8 rfl) flX1_18 (fdBoard_2 hk) rfl (np 17 rfl ?_)
  refine r_if_ne (tgt := 32) (dc dkX1_wrongOf 9 rfl) rfl (by first | assumption | decide | omega) (fun h17 => ?_) (fun h17 => (np 20 rfl ?_))
  · skip
    refine r_iload (dc dkX1_wrongOf 18 rfl) rfl (np 34 rfl ?_)
    exact r_iret (dc dkX1_wrongOf 19 rfl) rfl ⟨congrArg (fun z => some (vI z)) (by first | exact (wrF_n rfl h10).symm | (rw [h10]; exact (wrF_0 h10 (fun q => by first | exact h17 q.1 | exact h27 q.2)).symm)), rfl⟩
  have hpg : ∀ j, 0 ≤ j → j < n → isPg (σ 6 j) := fun j g0 g1 => pk_pg (o := outB σ k) w1 w2 (Classical.not_not.mp (fun q => by have := wrA_1 (pk := pkC σ k) (P := rwP σ n) ⟨j, ⟨g0, g1⟩, by rw [rwP_n g0 g1]; exact q⟩; omega))
  refine r_aload_n (dc dkX1_wrongOf 10 rfl) rfl (np 21 rfl ?_)
  refine r_aload_n (dc dkX1_wrongOf 11 rfl) rfl (np 22 rfl ?_)
  refine r_iload_n (dc dkX1_wrongOf 12 rfl) rfl (np 23 rfl ?_)
  refine r_iload_n (dc dkX1_wrongOf 13 rfl) rfl (np 24 rfl ?_)
  refine r_pV3 (y' := miX1_meetsOthers) (dc dkX1_wrongOf 14 rfl) mlX1_69 ceX1_meetsOthers (obBoard hk) (Nat.le_of_ble_eq_true rfl) (Nat.le_of_ble_eq_true rfl) (c_X1_meetsOthers hk (by assumption) (by omega) (by omega) (by assumption)) (np 27 rfl ?_)
  refine r_bz (tgt := 32) (dc dkX1_wrongOf 15 rfl) rfl (fun h27 => ?_) (fun h27 => (np 30 rfl ?_))
  · skip
    refine r_iload (dc dkX1_wrongOf 18 rfl) rfl (np 34 rfl ?_)
    exact r_iret (dc dkX1_wrongOf 19 rfl) rfl ⟨congrArg (fun z => some (vI z)) (by first | exact (wrF_n rfl h10).symm | (rw [h10]; exact (wrF_0 h10 (fun q => by first | exact h17 q.1 | exact h27 q.2)).symm)), rfl⟩
  refine r_iconst (dc dkX1_wrongOf 16 rfl) (np 31 rfl ?_)
  exact r_iret (dc dkX1_wrongOf 17 rfl) rfl ⟨congrArg (fun z => some (vI z)) ((wrF_5 h10 ⟨h17, h27⟩).symm), rfl⟩
