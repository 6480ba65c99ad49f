/-! ===== tokens: of a tape t of L bytes, of which m may be ===== -/
abbrev isLt (c : Int) : Prop := 97 ≤ c ∧ c ≤ 122
abbrev isDg (c : Int) : Prop := 48 ≤ c ∧ c ≤ 57
abbrev isAn (c : Int) : Prop := isLt c ∨ isDg c
abbrev isSg (c : Int) : Prop := c = 59 ∨ c = 45 ∨ c = 60 ∨ c = 61 ∨ c = 62 ∨ c = 40 ∨ c = 41
abbrev isBk (c : Int) : Prop := c = 32 ∨ c = 10
def skF (t : Int → Int) : Nat → Int → Int
  | 0, p => p
  | n + 1, p => if isBk (t p) then skF t n (p + 1) else p
def rnF (t : Int → Int) : Nat → Int → Int
  | 0, p => p
  | n + 1, p => if isAn (t p) then rnF t n (p + 1) else p
/-- the first place that is no blank -/
def skp (t : Int → Int) (L p : Int) : Int := skF t (L - p).toNat p
/-- the end of a word or number -/
def rne (t : Int → Int) (L p : Int) : Int := rnF t (L - p).toNat p
theorem skF_y {t : Int → Int} {L p : Int} (h : p < L) (hb : isBk (t p)) : skF t (L - p).toNat p = skF t (L - (p + 1)).toNat (p + 1) := by
  rw [show (L - p).toNat = (L - (p + 1)).toNat + 1 by omega, skF, if_pos hb]
theorem skF_n {t : Int → Int} {L p : Int} (h : L ≤ p ∨ ¬ isBk (t p)) : skF t (L - p).toNat p = p := by
  by_cases hp : p < L
  · rw [show (L - p).toNat = (L - (p + 1)).toNat + 1 by omega, skF, if_neg (by omega)]
  · rw [show (L - p).toNat = 0 by omega, skF]
theorem rnF_y {t : Int → Int} {L p : Int} (h : p < L) (hb : isAn (t p)) : rnF t (L - p).toNat p = rnF t (L - (p + 1)).toNat (p + 1) := by
  rw [show (L - p).toNat = (L - (p + 1)).toNat + 1 by omega, rnF, if_pos hb]
theorem rnF_n {t : Int → Int} {L p : Int} (h : L ≤ p ∨ ¬ isAn (t p)) : rnF t (L - p).toNat p = p := by
  by_cases hp : p < L
  · rw [show (L - p).toNat = (L - (p + 1)).toNat + 1 by omega, rnF, if_neg (by omega)]
  · rw [show (L - p).toNat = 0 by omega, rnF]
theorem skF_b (t : Int → Int) : ∀ (n : Nat) (p : Int), p ≤ skF t n p ∧ skF t n p ≤ p + n
  | 0, p => by rw [skF]; omega
  | n + 1, p => by
    rw [skF]
    split
    · have := skF_b t n (p + 1); omega
    · omega
theorem rnF_b (t : Int → Int) : ∀ (n : Nat) (p : Int), p ≤ rnF t n p ∧ rnF t n p ≤ p + n
  | 0, p => by rw [rnF]; omega
  | n + 1, p => by
    rw [rnF]
    split
    · have := rnF_b t n (p + 1); omega
    · omega
/-- of the first n signs from s on: letters, digits, their word, their number -/
noncomputable def cL (t : Int → Int) (s n : Int) : Int := smI (fun j => bI (isLt (t (s + j)))) n
noncomputable def cD (t : Int → Int) (s n : Int) : Int := smI (fun j => bI (isDg (t (s + j)))) n
def vWN (t : Int → Int) (s : Int) : Nat → Int
  | 0 => 0
  | n + 1 => if isLt (t (s + n)) then vWN t s n * 27 + (t (s + n) - 97 + 1) else vWN t s n
def vNN (t : Int → Int) (s : Int) : Nat → Int
  | 0 => 0
  | n + 1 => if isLt (t (s + n)) then vNN t s n else vNN t s n * 10 + (t (s + n) - 48)
def vW (t : Int → Int) (s n : Int) : Int := vWN t s n.toNat
def vN (t : Int → Int) (s n : Int) : Int := vNN t s n.toNat
theorem vW_y {t : Int → Int} {s i : Int} (h : 0 ≤ i) (hl : isLt (t (s + i))) : vW t s (i + 1) = vW t s i * 27 + (t (s + i) - 97 + 1) := by
  unfold vW
  rw [show (i + 1).toNat = i.toNat + 1 by omega, vWN, Int.toNat_of_nonneg h, if_pos hl]
theorem vW_n {t : Int → Int} {s i : Int} (h : 0 ≤ i) (hl : ¬ isLt (t (s + i))) : vW t s (i + 1) = vW t s i := by
  unfold vW
  rw [show (i + 1).toNat = i.toNat + 1 by omega, vWN, Int.toNat_of_nonneg h, if_neg hl]
theorem vN_y {t : Int → Int} {s i : Int} (h : 0 ≤ i) (hl : ¬ isLt (t (s + i))) : vN t s (i + 1) = vN t s i * 10 + (t (s + i) - 48) := by
  unfold vN
  rw [show (i + 1).toNat = i.toNat + 1 by omega, vNN, Int.toNat_of_nonneg h, if_neg hl]
theorem vN_n {t : Int → Int} {s i : Int} (h : 0 ≤ i) (hl : isLt (t (s + i))) : vN t s (i + 1) = vN t s i := by
  unfold vN
  rw [show (i + 1).toNat = i.toNat + 1 by omega, vNN, Int.toNat_of_nonneg h, if_pos hl]
theorem vW_b {t : Int → Int} {s : Int} : ∀ n : Nat, 0 ≤ vWN t s n ∧ vWN t s n < 27 ^ n
  | 0 => by rw [vWN]; decide
  | n + 1 => by
    have h := vW_b (t := t) (s := s) n
    have hp : (27 : Int) ^ (n + 1) = 27 ^ n * 27 := Int.pow_succ 27 n
    rw [vWN, hp]
    split <;> omega
noncomputable def kdR (t : Int → Int) (s e : Int) : Int := if cD t s (e - s) = 0 ∧ cL t s (e - s) ≤ 7 then kdW (vW t s (e - s)) else if cL t s (e - s) = 0 ∧ cD t s (e - s) ≤ 3 then 2 else 1
def tLg (t : Int → Int) (L m p : Int) : Prop := m < L ∧ m ≤ skp t L p
noncomputable def tS (t : Int → Int) (L m p : Int) : Int := bite (tLg t L m p) m (skp t L p)
noncomputable def tK (t : Int → Int) (L m p : Int) : Int := bite (tLg t L m p) 1 (if L ≤ skp t L p then 0 else if isAn (t (skp t L p)) then kdR t (skp t L p) (rne t L (skp t L p)) else if isSg (t (skp t L p)) then t (skp t L p) else 1)
noncomputable def tN (t : Int → Int) (L m p : Int) : Int := bite (tLg t L m p) (skp t L p) (if L ≤ skp t L p then skp t L p else if isAn (t (skp t L p)) then rne t L (skp t L p) else skp t L p + 1)
/-- the token is a word or a number -/
def tR (t : Int → Int) (L m p : Int) : Prop := ¬ tLg t L m p ∧ skp t L p < L ∧ isAn (t (skp t L p))
/-- the class' tape -/
def tpe (σ : jS) (i : Int) : Int := σ 3 i % 256
theorem iAnd_255 (z : Int) : iAnd z 255 = z % 256 := by
  unfold iAnd
  show ((Int32.ofInt z &&& Int32.ofInt 255).toBitVec).toInt = _
  rw [Int32.toBitVec_and, show (Int32.ofInt z).toBitVec = BitVec.ofInt 32 z from rfl, show (Int32.ofInt 255).toBitVec = BitVec.ofNat 32 255 from rfl]
  have h2 : (BitVec.ofInt 32 z &&& BitVec.ofNat 32 255).toNat = (BitVec.ofInt 32 z).toNat % 256 := by
    rw [BitVec.toNat_and, show (BitVec.ofNat 32 255).toNat = 2 ^ 8 - 1 by decide, Nat.and_two_pow_sub_one_eq_mod]
  rw [BitVec.toInt_eq_toNat_of_lt (by rw [h2]; omega), h2, BitVec.toNat_ofInt]
  omega
def okY (σ : jS) (k : Nat) : Prop := 0 ≤ σ k 1 ∧ σ k 1 ≤ nBytes k
theorem nB_b {k : Nat} (h : isBytes k) : (k = 2 ∧ nBytes k = 640) ∨ (k = 4 ∧ nBytes k = 79) := by
  unfold isBytes at h
  revert k
  decide +kernel
set_option maxRecDepth 100000 in
set_option maxHeartbeats 4000000 in
theorem c_X2_hasRoom {σ : jS} {k : Nat} (hk : isBytes k) (hY : okY σ k) {i : Int} (hi : 0 ≤ i ∧ i ≤ 1000) : Jp 1 miX2_hasRoom [.ref k, vI i] σ (vI (bI (σ k 1 + i ≤ nBytes k))) := by
  have hn := nB_b hk
  unfold okY at hY
  refine jm_ofF (Po := (jP (vI (bI (σ k 1 + i ≤ nBytes k))) σ)) (plainFor_of_name (by decide)) (Nat.le_of_ble_eq_true rfl) (lv := [(0, _), (1, _)]) rfl ?_
  refine r_aload_n (dc dkX2_hasRoom 0 rfl) rfl (np 1 rfl ?_)
  refine r_gI 1 (dc dkX2_hasRoom 1 rfl) flX2_9 (fdBytes_1 hk) rfl (np 4 rfl ?_)
  refine r_iload_n (dc dkX2_hasRoom 2 rfl) rfl (np 5 rfl ?_)
  refine r_iadd (dc dkX2_hasRoom 3 rfl) (np 6 rfl ?_)
  refine r_aload_n (dc dkX2_hasRoom 4 rfl) rfl (np 7 rfl ?_)
  refine r_getR (dc dkX2_hasRoom 5 rfl) flX2_21 (fdBytes_0 hk) (np 10 rfl ?_)
  refine r_alen (dc dkX2_hasRoom 6 rfl) (arBytes_0 hk) (Nat.le_of_ble_eq_true rfl) (np 11 rfl ?_)
  refine r_icmp_gt (tgt := 18) (dc dkX2_hasRoom 7 rfl) rfl (by first | assumption | decide | omega) (by first | assumption | decide | omega) (fun h11 => ?_) (fun h11 => (np 14 rfl ?_))
  · skip
    refine r_iconst (dc dkX2_hasRoom 10 rfl) (np 19 rfl ?_)
    exact r_zret (dc dkX2_hasRoom 11 rfl) rfl (by first | exact Or.inl rfl | exact Or.inr rfl) ⟨congrArg (fun z => some (vI z)) (by first | exact bT (by omega) | exact bF (by omega)), rfl⟩
  refine r_iconst (dc dkX2_hasRoom 8 rfl) (np 15 rfl ?_)
  refine r_goto (tgt := 19) (dc dkX2_hasRoom 9 rfl) rfl ?_
  exact r_zret (dc dkX2_hasRoom 11 rfl) rfl (by first | exact Or.inl rfl | exact Or.inr rfl) ⟨congrArg (fun z => some (vI z)) (by first | exact bT (by omega) | exact bF (by omega)), rfl⟩
set_option maxRecDepth 100000 in
set_option maxHeartbeats 4000000 in
theorem c_X2_at {σ : jS} {k : Nat} (hk : isBytes k) (hY : okY σ k) {i : Int} (hi : iR i) : Jp 1 miX2_at [.ref k, vI i] σ (vI (if 0 ≤ i ∧ i < σ k 1 then σ (k + 1) i % 256 else -1)) := by
  have hn := nB_b hk
  unfold okY at hY
  refine jm_ofF (Po := (jP (vI (if 0 ≤ i ∧ i < σ k 1 then σ (k + 1) i % 256 else -1)) σ)) (plainFor_of_name (by decide)) (Nat.le_of_ble_eq_true rfl) (lv := [(0, _), (1, _)]) rfl ?_
  refine r_iload_n (dc dkX2_at 0 rfl) rfl (np 1 rfl ?_)
  refine r_if_lt (tgt := 21) (dc dkX2_at 1 rfl) rfl (by first | assumption | decide | omega) (fun h1 => ?_) (fun h1 => (np 4 rfl ?_))
  · skip
    refine r_iconst (dc dkX2_at 11 rfl) (np 22 rfl ?_)
    refine r_goto (tgt := 35) (dc dkX2_at 12 rfl) rfl ?_
    exact r_iret (dc dkX2_at 19 rfl) rfl ⟨congrArg (fun z => some (vI z)) (by first | (rw [if_neg (by omega)]; done) | (rw [if_pos (by omega), iAnd_255])), rfl⟩
  refine r_iload_n (dc dkX2_at 2 rfl) rfl (np 5 rfl ?_)
  refine r_aload_n (dc dkX2_at 3 rfl) rfl (np 6 rfl ?_)
  refine r_gI 1 (dc dkX2_at 4 rfl) flX2_9 (fdBytes_1 hk) rfl (np 9 rfl ?_)
  refine r_icmp_ge (tgt := 21) (dc dkX2_at 5 rfl) rfl (by first | assumption | decide | omega) (by first | assumption | decide | omega) (fun h9 => ?_) (fun h9 => (np 12 rfl ?_))
  · skip
    refine r_iconst (dc dkX2_at 11 rfl) (np 22 rfl ?_)
    refine r_goto (tgt := 35) (dc dkX2_at 12 rfl) rfl ?_
    exact r_iret (dc dkX2_at 19 rfl) rfl ⟨congrArg (fun z => some (vI z)) (by first | (rw [if_neg (by omega)]; done) | (rw [if_pos (by omega), iAnd_255])), rfl⟩
  refine r_iload_n (dc dkX2_at 6 rfl) rfl (np 13 rfl ?_)
  refine r_aload_n (dc dkX2_at 7 rfl) rfl (np 14 rfl ?_)
  refine r_getR (dc dkX2_at 8 rfl) flX2_21 (fdBytes_0 hk) (np 17 rfl ?_)
  refine r_alen (dc dkX2_at 9 rfl) (arBytes_0 hk) (Nat.le_of_ble_eq_true rfl) (np 18 rfl ?_)
  refine r_icmp_lt (tgt := 25) (dc dkX2_at 10 rfl) rfl (by first | assumption | decide | omega) (by first | assumption | decide | omega) (fun h18 => ?_) (fun h18 => (np 21 rfl ?_))
  · skip
    refine r_aload_n (dc dkX2_at 13 rfl) rfl (np 26 rfl ?_)
    refine r_getR (dc dkX2_at 14 rfl) flX2_21 (fdBytes_0 hk) (np 29 rfl ?_)
    refine r_iload_n (dc dkX2_at 15 rfl) rfl (np 30 rfl ?_)
    refine r_bald (dc dkX2_at 16 rfl) (arBytes_0 hk) (by omega) (np 31 rfl ?_)
    refine r_sipush (dc dkX2_at 17 rfl) sp_255 (np 34 rfl ?_)
    refine r_iand (dc dkX2_at 18 rfl) (np 35 rfl ?_)
    exact r_iret (dc dkX2_at 19 rfl) rfl ⟨congrArg (fun z => some (vI z)) (by first | (rw [if_neg (by omega)]; done) | (rw [if_pos (by omega), iAnd_255])), rfl⟩
  refine r_iconst (dc dkX2_at 11 rfl) (np 22 rfl ?_)
  refine r_goto (tgt := 35) (dc dkX2_at 12 rfl) rfl ?_
  exact r_iret (dc dkX2_at 19 rfl) rfl ⟨congrArg (fun z => some (vI z)) (by first | (rw [if_neg (by omega)]; done) | (rw [if_pos (by omega), iAnd_255])), rfl⟩
set_option maxRecDepth 100000 in
set_option maxHeartbeats 4000000 in
theorem c_X2_put {σ : jS} {k : Nat} (hk : isBytes k) (hY : okY σ k) (hf : σ k 1 < nBytes k) {c : Int} : Jm 1 miX2_put [.ref k, vI c] σ (fun r τ => r = none ∧ τ = ju (ju σ (k + 1) (σ k 1) ((c.bmod 256).bmod 256)) k 1 (σ k 1 + 1)) := by
  have hn := nB_b hk
  unfold okY at hY
  refine jm_ofF (Po := (fun r τ => r = none ∧ τ = ju (ju σ (k + 1) (σ k 1) ((c.bmod 256).bmod 256)) k 1 (σ k 1 + 1))) (plainFor_of_name (by decide)) (Nat.le_of_ble_eq_true rfl) (lv := [(0, _), (1, _)]) rfl ?_
  refine r_aload_n (dc dkX2_put 0 rfl) rfl (np 1 rfl ?_)
  refine r_gI 1 (dc dkX2_put 1 rfl) flX2_9 (fdBytes_1 hk) rfl (np 4 rfl ?_)
  refine r_if_lt (tgt := 40) (dc dkX2_put 2 rfl) rfl (by first | assumption | decide | omega) (fun h4 => ?_) (fun h4 => (np 7 rfl ?_))
  · skip
    omega
  refine r_aload_n (dc dkX2_put 3 rfl) rfl (np 8 rfl ?_)
  refine r_gI 1 (dc dkX2_put 4 rfl) flX2_9 (fdBytes_1 hk) rfl (np 11 rfl ?_)
  refine r_aload_n (dc dkX2_put 5 rfl) rfl (np 12 rfl ?_)
  refine r_getR (dc dkX2_put 6 rfl) flX2_21 (fdBytes_0 hk) (np 15 rfl ?_)
  refine r_alen (dc dkX2_put 7 rfl) (arBytes_0 hk) (Nat.le_of_ble_eq_true rfl) (np 16 rfl ?_)
  refine r_icmp_ge (tgt := 40) (dc dkX2_put 8 rfl) rfl (by first | assumption | decide | omega) (by first | assumption | decide | omega) (fun h16 => ?_) (fun h16 => (np 19 rfl ?_))
  · skip
    omega
  refine r_aload_n (dc dkX2_put 9 rfl) rfl (np 20 rfl ?_)
  refine r_getR (dc dkX2_put 10 rfl) flX2_21 (fdBytes_0 hk) (np 23 rfl ?_)
  refine r_aload_n (dc dkX2_put 11 rfl) rfl (np 24 rfl ?_)
  refine r_gI 1 (dc dkX2_put 12 rfl) flX2_9 (fdBytes_1 hk) rfl (np 27 rfl ?_)
  refine r_iload_n (dc dkX2_put 13 rfl) rfl (np 28 rfl ?_)
  refine r_i2b (dc dkX2_put 14 rfl) (np 29 rfl ?_)
  refine r_bast (dc dkX2_put 15 rfl) (arBytes_0 hk) (by omega) (np 30 rfl ?_)
  refine r_aload_n (dc dkX2_put 16 rfl) rfl (np 31 rfl ?_)
  refine r_dup (dc dkX2_put 17 rfl) rfl (np 32 rfl ?_)
  refine r_gI 1 (dc dkX2_put 18 rfl) flX2_9 (fdBytes_1 hk) rfl (np 35 rfl ?_)
  refine r_iconst (dc dkX2_put 19 rfl) (np 36 rfl ?_)
  refine r_iadd (dc dkX2_put 20 rfl) (np 37 rfl ?_)
  refine r_pI 1 (dc dkX2_put 21 rfl) fpX2_9 (fdBytes_1 hk) rfl (np 40 rfl ?_)
  exact r_vret (dc dkX2_put 22 rfl) rfl ⟨rfl, by rw [ju_ne (by omega)]⟩
set_option maxRecDepth 100000 in
set_option maxHeartbeats 4000000 in
theorem c_X8_isLetter {σ : jS} {c : Int} (hc : iR c) : Jp 1 miX8_isLetter [vI c] σ (vI (bI (isLt c))) := by
  refine jm_ofF (Po := (jP (vI (bI (isLt c))) σ)) (plainFor_of_name (by decide)) (Nat.le_of_ble_eq_true rfl) (lv := [(0, _)]) rfl ?_
  refine r_iload_n (dc dkX8_isLetter 0 rfl) rfl (np 1 rfl ?_)
  refine r_bipush (dc dkX8_isLetter 1 rfl) bp_97 (np 3 rfl ?_)
  refine r_icmp_lt (tgt := 16) (dc dkX8_isLetter 2 rfl) rfl (by first | assumption | decide | omega) (by first | assumption | decide | omega) (fun h3 => ?_) (fun h3 => (np 6 rfl ?_))
  · skip
    refine r_iconst (dc dkX8_isLetter 8 rfl) (np 17 rfl ?_)
    exact r_zret (dc dkX8_isLetter 9 rfl) rfl (by first | exact Or.inl rfl | exact Or.inr rfl) ⟨congrArg (fun z => some (vI z)) (by first | exact bT (by omega) | exact bF (by omega)), rfl⟩
  refine r_iload_n (dc dkX8_isLetter 3 rfl) rfl (np 7 rfl ?_)
  refine r_bipush (dc dkX8_isLetter 4 rfl) bp_122 (np 9 rfl ?_)
  refine r_icmp_gt (tgt := 16) (dc dkX8_isLetter 5 rfl) rfl (by first | assumption | decide | omega) (by first | assumption | decide | omega) (fun h9 => ?_) (fun h9 => (np 12 rfl ?_))
  · skip
    refine r_iconst (dc dkX8_isLetter 8 rfl) (np 17 rfl ?_)
    exact r_zret (dc dkX8_isLetter 9 rfl) rfl (by first | exact Or.inl rfl | exact Or.inr rfl) ⟨congrArg (fun z => some (vI z)) (by first | exact bT (by omega) | exact bF (by omega)), rfl⟩
  refine r_iconst (dc dkX8_isLetter 6 rfl) (np 13 rfl ?_)
  refine r_goto (tgt := 17) (dc dkX8_isLetter 7 rfl) rfl ?_
  exact r_zret (dc dkX8_isLetter 9 rfl) rfl (by first | exact Or.inl rfl | exact Or.inr rfl) ⟨congrArg (fun z => some (vI z)) (by first | exact bT (by omega) | exact bF (by omega)), rfl⟩
set_option maxRecDepth 100000 in
set_option maxHeartbeats 4000000 in
theorem c_X8_isDigit {σ : jS} {c : Int} (hc : iR c) : Jp 1 miX8_isDigit [vI c] σ (vI (bI (isDg c))) := by
  refine jm_ofF (Po := (jP (vI (bI (isDg c))) σ)) (plainFor_of_name (by decide)) (Nat.le_of_ble_eq_true rfl) (lv := [(0, _)]) rfl ?_
  refine r_iload_n (dc dkX8_isDigit 0 rfl) rfl (np 1 rfl ?_)
  refine r_bipush (dc dkX8_isDigit 1 rfl) bp_48 (np 3 rfl ?_)
  refine r_icmp_lt (tgt := 16) (dc dkX8_isDigit 2 rfl) rfl (by first | assumption | decide | omega) (by first | assumption | decide | omega) (fun h3 => ?_) (fun h3 => (np 6 rfl ?_))
  · skip
    refine r_iconst (dc dkX8_isDigit 8 rfl) (np 17 rfl ?_)
    exact r_zret (dc dkX8_isDigit 9 rfl) rfl (by first | exact Or.inl rfl | exact Or.inr rfl) ⟨congrArg (fun z => some (vI z)) (by first | exact bT (by omega) | exact bF (by omega)), rfl⟩
  refine r_iload_n (dc dkX8_isDigit 3 rfl) rfl (np 7 rfl ?_)
  refine r_bipush (dc dkX8_isDigit 4 rfl) bp_57 (np 9 rfl ?_)
  refine r_icmp_gt (tgt := 16) (dc dkX8_isDigit 5 rfl) rfl (by first | assumption | decide | omega) (by first | assumption | decide | omega) (fun h9 => ?_) (fun h9 => (np 12 rfl ?_))
  · skip
    refine r_iconst (dc dkX8_isDigit 8 rfl) (np 17 rfl ?_)
    exact r_zret (dc dkX8_isDigit 9 rfl) rfl (by first | exact Or.inl rfl | exact Or.inr rfl) ⟨congrArg (fun z => some (vI z)) (by first | exact bT (by omega) | exact bF (by omega)), rfl⟩
  refine r_iconst (dc dkX8_isDigit 6 rfl) (np 13 rfl ?_)
  refine r_goto (tgt := 17) (dc dkX8_isDigit 7 rfl) rfl ?_
  exact r_zret (dc dkX8_isDigit 9 rfl) rfl (by first | exact Or.inl rfl | exact Or.inr rfl) ⟨congrArg (fun z => some (vI z)) (by first | exact bT (by omega) | exact bF (by omega)), rfl⟩
set_option maxRecDepth 100000 in
set_option maxHeartbeats 4000000 in
theorem c_X8_isSign {σ : jS} {c : Int} (hc : iR c) : Jp 1 miX8_isSign [vI c] σ (vI (bI (isSg c))) := by
  refine jm_ofF (Po := (jP (vI (bI (isSg c))) σ)) (plainFor_of_name (by decide)) (Nat.le_of_ble_eq_true rfl) (lv := [(0, _)]) rfl ?_
  refine r_iload_n (dc dkX8_isSign 0 rfl) rfl (np 1 rfl ?_)
  refine r_bipush (dc dkX8_isSign 1 rfl) bp_59 (np 3 rfl ?_)
  refine r_icmp_eq (tgt := 42) (dc dkX8_isSign 2 rfl) rfl (by first | assumption | decide | omega) (by first | assumption | decide | omega) (fun h3 => ?_) (fun h3 => (np 6 rfl ?_))
  · skip
    refine r_iconst (dc dkX8_isSign 21 rfl) (np 43 rfl ?_)
    refine r_goto (tgt := 47) (dc dkX8_isSign 22 rfl) rfl ?_
    exact r_zret (dc dkX8_isSign 24 rfl) rfl (by first | exact Or.inl rfl | exact Or.inr rfl) ⟨congrArg (fun z => some (vI z)) (by first | exact bT (by omega) | exact bF (by omega)), rfl⟩
  refine r_iload_n (dc dkX8_isSign 3 rfl) rfl (np 7 rfl ?_)
  refine r_bipush (dc dkX8_isSign 4 rfl) bp_45 (np 9 rfl ?_)
  refine r_icmp_eq (tgt := 42) (dc dkX8_isSign 5 rfl) rfl (by first | assumption | decide | omega) (by first | assumption | decide | omega) (fun h9 => ?_) (fun h9 => (np 12 rfl ?_))
  · skip
    refine r_iconst (dc dkX8_isSign 21 rfl) (np 43 rfl ?_)
    refine r_goto (tgt := 47) (dc dkX8_isSign 22 rfl) rfl ?_
    exact r_zret (dc dkX8_isSign 24 rfl) rfl (by first | exact Or.inl rfl | exact Or.inr rfl) ⟨congrArg (fun z => some (vI z)) (by first | exact bT (by omega) | exact bF (by omega)), rfl⟩
  refine r_iload_n (dc dkX8_isSign 6 rfl) rfl (np 13 rfl ?_)
  refine r_bipush (dc dkX8_isSign 7 rfl) bp_60 (np 15 rfl ?_)
  refine r_icmp_eq (tgt := 42) (dc dkX8_isSign 8 rfl) rfl (by first | assumption | decide | omega) (by first | assumption | decide | omega) (fun h15 => ?_) (fun h15 => (np 18 rfl ?_))
  · skip
    refine r_iconst (dc dkX8_isSign 21 rfl) (np 43 rfl ?_)
    refine r_goto (tgt := 47) (dc dkX8_isSign 22 rfl) rfl ?_
    exact r_zret (dc dkX8_isSign 24 rfl) rfl (by first | exact Or.inl rfl | exact Or.inr rfl) ⟨congrArg (fun z => some (vI z)) (by first | exact bT (by omega) | exact bF (by omega)), rfl⟩
  refine r_iload_n (dc dkX8_isSign 9 rfl) rfl (np 19 rfl ?_)
  refine r_bipush (dc dkX8_isSign 10 rfl) bp_61 (np 21 rfl ?_)
  refine r_icmp_eq (tgt := 42) (dc dkX8_isSign 11 rfl) rfl (by first | assumption | decide | omega) (by first | assumption | decide | omega) (fun h21 => ?_) (fun h21 => (np 24 rfl ?_))
  · skip
    refine r_iconst (dc dkX8_isSign 21 rfl) (np 43 rfl ?_)
    refine r_goto (tgt := 47) (dc dkX8_isSign 22 rfl) rfl ?_
    exact r_zret (dc dkX8_isSign 24 rfl) rfl (by first | exact Or.inl rfl | exact Or.inr rfl) ⟨congrArg (fun z => some (vI z)) (by first | exact bT (by omega) | exact bF (by omega)), rfl⟩
  refine r_iload_n (dc dkX8_isSign 12 rfl) rfl (np 25 rfl ?_)
  refine r_bipush (dc dkX8_isSign 13 rfl) bp_62 (np 27 rfl ?_)
  refine r_icmp_eq (tgt := 42) (dc dkX8_isSign 14 rfl) rfl (by first | assumption | decide | omega) (by first | assumption | decide | omega) (fun h27 => ?_) (fun h27 => (np 30 rfl ?_))
  · skip
    refine r_iconst (dc dkX8_isSign 21 rfl) (np 43 rfl ?_)
    refine r_goto (tgt := 47) (dc dkX8_isSign 22 rfl) rfl ?_
    exact r_zret (dc dkX8_isSign 24 rfl) rfl (by first | exact Or.inl rfl | exact Or.inr rfl) ⟨congrArg (fun z => some (vI z)) (by first | exact bT (by omega) | exact bF (by omega)), rfl⟩
  refine r_iload_n (dc dkX8_isSign 15 rfl) rfl (np 31 rfl ?_)
  refine r_bipush (dc dkX8_isSign 16 rfl) bp_40 (np 33 rfl ?_)
  refine r_icmp_eq (tgt := 42) (dc dkX8_isSign 17 rfl) rfl (by first | assumption | decide | omega) (by first | assumption | decide | omega) (fun h33 => ?_) (fun h33 => (np 36 rfl ?_))
  · skip
    refine r_iconst (dc dkX8_isSign 21 rfl) (np 43 rfl ?_)
    refine r_goto (tgt := 47) (dc dkX8_isSign 22 rfl) rfl ?_
    exact r_zret (dc dkX8_isSign 24 rfl) rfl (by first | exact Or.inl rfl | exact Or.inr rfl) ⟨congrArg (fun z => some (vI z)) (by first | exact bT (by omega) | exact bF (by omega)), rfl⟩
  refine r_iload_n (dc dkX8_isSign 18 rfl) rfl (np 37 rfl ?_)
  refine r_bipush (dc dkX8_isSign 19 rfl) bp_41 (np 39 rfl ?_)
  refine r_icmp_ne (tgt := 46) (dc dkX8_isSign 20 rfl) rfl (by first | assumption | decide | omega) (by first | assumption | decide | omega) (fun h39 => ?_) (fun h39 => (np 42 rfl ?_))
  · skip
    refine r_iconst (dc dkX8_isSign 23 rfl) (np 47 rfl ?_)
    exact r_zret (dc dkX8_isSign 24 rfl) rfl (by first | exact Or.inl rfl | exact Or.inr rfl) ⟨congrArg (fun z => some (vI z)) (by first | exact bT (by omega) | exact bF (by omega)), rfl⟩
  refine r_iconst (dc dkX8_isSign 21 rfl) (np 43 rfl ?_)
  refine r_goto (tgt := 47) (dc dkX8_isSign 22 rfl) rfl ?_
  exact r_zret (dc dkX8_isSign 24 rfl) rfl (by first | exact Or.inl rfl | exact Or.inr rfl) ⟨congrArg (fun z => some (vI z)) (by first | exact bT (by omega) | exact bF (by omega)), rfl⟩
set_option maxRecDepth 100000 in
set_option maxHeartbeats 4000000 in
theorem c_X13_isDigit {σ : jS} {c : Int} (hc : iR c) : Jp 1 miX13_isDigit [vI c] σ (vI (bI (isDg c))) := by
  refine jm_ofF (Po := (jP (vI (bI (isDg c))) σ)) (plainFor_of_name (by decide)) (Nat.le_of_ble_eq_true rfl) (lv := [(0, _)]) rfl ?_
  refine r_iload_n (dc dkX13_isDigit 0 rfl) rfl (np 1 rfl ?_)
  refine r_bipush (dc dkX13_isDigit 1 rfl) bp_48 (np 3 rfl ?_)
  refine r_icmp_lt (tgt := 16) (dc dkX13_isDigit 2 rfl) rfl (by first | assumption | decide | omega) (by first | assumption | decide | omega) (fun h3 => ?_) (fun h3 => (np 6 rfl ?_))
  · skip
    refine r_iconst (dc dkX13_isDigit 8 rfl) (np 17 rfl ?_)
    exact r_zret (dc dkX13_isDigit 9 rfl) rfl (by first | exact Or.inl rfl | exact Or.inr rfl) ⟨congrArg (fun z => some (vI z)) (by first | exact bT (by omega) | exact bF (by omega)), rfl⟩
  refine r_iload_n (dc dkX13_isDigit 3 rfl) rfl (np 7 rfl ?_)
  refine r_bipush (dc dkX13_isDigit 4 rfl) bp_57 (np 9 rfl ?_)
  refine r_icmp_gt (tgt := 16) (dc dkX13_isDigit 5 rfl) rfl (by first | assumption | decide | omega) (by first | assumption | decide | omega) (fun h9 => ?_) (fun h9 => (np 12 rfl ?_))
  · skip
    refine r_iconst (dc dkX13_isDigit 8 rfl) (np 17 rfl ?_)
    exact r_zret (dc dkX13_isDigit 9 rfl) rfl (by first | exact Or.inl rfl | exact Or.inr rfl) ⟨congrArg (fun z => some (vI z)) (by first | exact bT (by omega) | exact bF (by omega)), rfl⟩
  refine r_iconst (dc dkX13_isDigit 6 rfl) (np 13 rfl ?_)
  refine r_goto (tgt := 17) (dc dkX13_isDigit 7 rfl) rfl ?_
  exact r_zret (dc dkX13_isDigit 9 rfl) rfl (by first | exact Or.inl rfl | exact Or.inr rfl) ⟨congrArg (fun z => some (vI z)) (by first | exact bT (by omega) | exact bF (by omega)), rfl⟩
set_option maxRecDepth 100000 in
set_option maxHeartbeats 4000000 in
theorem c_X13_isLetter {σ : jS} {c : Int} (hc : iR c) : Jp 1 miX13_isLetter [vI c] σ (vI (bI (isLt c))) := by
  refine jm_ofF (Po := (jP (vI (bI (isLt c))) σ)) (plainFor_of_name (by decide)) (Nat.le_of_ble_eq_true rfl) (lv := [(0, _)]) rfl ?_
  refine r_iload_n (dc dkX13_isLetter 0 rfl) rfl (np 1 rfl ?_)
  refine r_bipush (dc dkX13_isLetter 1 rfl) bp_97 (np 3 rfl ?_)
  refine r_icmp_lt (tgt := 16) (dc dkX13_isLetter 2 rfl) rfl (by first | assumption | decide | omega) (by first | assumption | decide | omega) (fun h3 => ?_) (fun h3 => (np 6 rfl ?_))
  · skip
    refine r_iconst (dc dkX13_isLetter 8 rfl) (np 17 rfl ?_)
    exact r_zret (dc dkX13_isLetter 9 rfl) rfl (by first | exact Or.inl rfl | exact Or.inr rfl) ⟨congrArg (fun z => some (vI z)) (by first | exact bT (by omega) | exact bF (by omega)), rfl⟩
  refine r_iload_n (dc dkX13_isLetter 3 rfl) rfl (np 7 rfl ?_)
  refine r_bipush (dc dkX13_isLetter 4 rfl) bp_122 (np 9 rfl ?_)
  refine r_icmp_gt (tgt := 16) (dc dkX13_isLetter 5 rfl) rfl (by first | assumption | decide | omega) (by first | assumption | decide | omega) (fun h9 => ?_) (fun h9 => (np 12 rfl ?_))
  · skip
    refine r_iconst (dc dkX13_isLetter 8 rfl) (np 17 rfl ?_)
    exact r_zret (dc dkX13_isLetter 9 rfl) rfl (by first | exact Or.inl rfl | exact Or.inr rfl) ⟨congrArg (fun z => some (vI z)) (by first | exact bT (by omega) | exact bF (by omega)), rfl⟩
  refine r_iconst (dc dkX13_isLetter 6 rfl) (np 13 rfl ?_)
  refine r_goto (tgt := 17) (dc dkX13_isLetter 7 rfl) rfl ?_
  exact r_zret (dc dkX13_isLetter 9 rfl) rfl (by first | exact Or.inl rfl | exact Or.inr rfl) ⟨congrArg (fun z => some (vI z)) (by first | exact bT (by omega) | exact bF (by omega)), rfl⟩
/-- the reader's numbers -/
def okT (σ : jS) : Prop := (0 ≤ σ 2 1 ∧ σ 2 1 ≤ 640) ∧ (0 ≤ σ 1 2 ∧ σ 1 2 ≤ σ 2 1) ∧ True
theorem okT_Y {σ : jS} (h : okT σ) : okY σ 2 := ⟨h.1.1, by have := h.1.2; show σ 2 1 ≤ ((640 : Nat) : Int); omega⟩
theorem tpe_b (σ : jS) (i : Int) : 0 ≤ tpe σ i ∧ tpe σ i ≤ 255 := by unfold tpe; omega
/-- only slots X of the reader have changed -/
def rdS (X : List Int) (σ τ : jS) : Prop := (∀ c, ¬ c = 1 → τ c = σ c) ∧ ∀ j, j ∉ X → τ 1 j = σ 1 j
theorem rdS.refl (X : List Int) (σ : jS) : rdS X σ σ := ⟨fun _ _ => rfl, fun _ _ => rfl⟩
theorem rdS.put {X : List Int} {σ τ : jS} (h : rdS X σ τ) {j z : Int} (hj : j ∈ X) : rdS X σ (ju τ 1 j z) := ⟨fun c hc => by rw [ju_off _ _ _ _ _ hc]; exact h.1 c hc, fun i hi => by rw [ju_ne (fun q => hi (by rw [q.2]; exact hj))]; exact h.2 i hi⟩
theorem rdS.wide {X Y : List Int} {σ τ : jS} (h : rdS X σ τ) (hX : ∀ j ∈ X, j ∈ Y) : rdS Y σ τ := ⟨h.1, fun j hj => h.2 j (fun q => hj (hX j q))⟩
theorem rdS.trans {X : List Int} {σ τ ρ : jS} (h : rdS X σ τ) (g : rdS X τ ρ) : rdS X σ ρ := ⟨fun c hc => (g.1 c hc).trans (h.1 c hc), fun j hj => (g.2 j hj).trans (h.2 j hj)⟩
theorem rdS_tpe {X : List Int} {σ τ : jS} (h : rdS X σ τ) : tpe τ = tpe σ := by funext i; unfold tpe; rw [h.1 3 (by decide)]
theorem pow27 {n : Nat} (h : n < 8) : (27 : Int) ^ n ≤ 10460353203 := by
  revert n
  decide
theorem is_B2 : isBytes 2 := isBytes_at2
theorem c_tape_at {σ : jS} (hY : okY σ 2) {i : Int} (hi : iR i) : Jp 1 miX2_at [.ref 2, vI i] σ (vI (if 0 ≤ i ∧ i < σ 2 1 then tpe σ i else -1)) := c_X2_at is_B2 hY hi
set_option maxRecDepth 100000 in
set_option maxHeartbeats 4000000 in
theorem c_X8_skipBlanks {σ : jS} (hT : okT σ) : Jm 2 miX8_skipBlanks [.ref 1] σ (fun r τ => r = none ∧ rdS [2] σ τ ∧ τ 1 2 = skp (tpe σ) (σ 2 1) (σ 1 2)) := by
  refine jm_ofF (Po := (fun r τ => r = none ∧ rdS [2] σ τ ∧ τ 1 2 = skp (tpe σ) (σ 2 1) (σ 1 2))) (plainFor_of_name (by decide)) (Nat.le_of_ble_eq_true rfl) (lv := [(0, _)]) rfl ?_
  refine r_iconst (dc dkX8_skipBlanks 0 rfl) (np 1 rfl ?_)
  refine r_istore_n (lv' := [(1, _), (0, _)]) (dc dkX8_skipBlanks 1 rfl) (Nat.le_of_ble_eq_true rfl) rfl (np 2 rfl ?_)
  refine r_pick [1, 0] (lv' := [(0, _), (1, _)]) rfl ?_
  refine jlp2 (P := fun (i : Int) (τ : jS) => jR _ _ _ 2 [(0, .ref 1), (1, vI i)] [] τ) (I := fun (i : Int) (τ : jS) => rdS [2] σ τ ∧ (0 ≤ i ∧ i = τ 1 2 - σ 1 2 ∧ τ 1 2 ≤ σ 2 1) ∧ skp (tpe σ) (σ 2 1) (σ 1 2) = skF (tpe σ) (σ 2 1 - τ 1 2).toNat (τ 1 2)) (fun (i : Int) (τ : jS) => (σ 2 1 - τ 1 2).toNat) ?_ _ _ ⟨rdS.refl _ _, by have := hT.2.1; omega, rfl⟩
  intro i τ hI2 ih2
  obtain ⟨hs, hb, hk⟩ := hI2
  have t1 := hT.1
  have t2 := hT.2.1
  have e2 : τ 2 1 = σ 2 1 := by rw [hs.1 2 (by decide)]
  have hY : okY τ 2 := by unfold okY; rw [e2]; exact okT_Y hT
  have tb := tpe_b σ (τ 1 2)
  have e4 : tpe τ (τ 1 2) = tpe σ (τ 1 2) := by rw [rdS_tpe hs]
  refine r_iload_n (dc dkX8_skipBlanks 2 rfl) rfl (np 3 rfl ?_)
  refine r_sipush (dc dkX8_skipBlanks 3 rfl) sp_640 (np 6 rfl ?_)
  refine r_icmp_ge (tgt := 57) (dc dkX8_skipBlanks 4 rfl) rfl (by first | assumption | decide | omega) (by first | assumption | decide | omega) (fun h6 => ?_) (fun h6 => (np 9 rfl ?_))
  · skip
    exact r_vret (dc dkX8_skipBlanks 27 rfl) rfl ⟨rfl, hs, by rw [hk, skF_n (by omega)]⟩
  refine r_aload_n (dc dkX8_skipBlanks 5 rfl) rfl (np 10 rfl ?_)
  refine r_getR (dc dkX8_skipBlanks 6 rfl) flX8_14 fd_1_0 (np 13 rfl ?_)
  refine r_aload_n (dc dkX8_skipBlanks 7 rfl) rfl (np 14 rfl ?_)
  refine r_gI 2 (dc dkX8_skipBlanks 8 rfl) flX8_24 fd_1_2 rfl (np 17 rfl ?_)
  refine r_pV1 (y' := miX2_at) (dc dkX8_skipBlanks 9 rfl) mlX8_55 ceX2_at ob_2 (Nat.le_of_ble_eq_true rfl) (Nat.le_of_ble_eq_true rfl) (c_tape_at hY (by omega)) (np 20 rfl ?_)
  refine r_bipush (dc dkX8_skipBlanks 10 rfl) bp_32 (np 22 rfl ?_)
  refine r_icmp_eq (tgt := 41) (dc dkX8_skipBlanks 11 rfl) rfl (by first | assumption | decide | omega) (by first | assumption | decide | omega) (fun h22 => ?_) (fun h22 => (np 25 rfl ?_))
  · skip
    refine r_aload_n (dc dkX8_skipBlanks 19 rfl) rfl (np 42 rfl ?_)
    refine r_dup (dc dkX8_skipBlanks 20 rfl) rfl (np 43 rfl ?_)
    refine r_gI 2 (dc dkX8_skipBlanks 21 rfl) flX8_24 fd_1_2 rfl (np 46 rfl ?_)
    refine r_iconst (dc dkX8_skipBlanks 22 rfl) (np 47 rfl ?_)
    refine r_iadd (dc dkX8_skipBlanks 23 rfl) (np 48 rfl ?_)
    refine r_pI 2 (dc dkX8_skipBlanks 24 rfl) fpX8_24 fd_1_2 rfl (np 51 rfl ?_)
    refine r_iinc (lv' := [(1, _), (0, _)]) (dc dkX8_skipBlanks 25 rfl) (Nat.le_of_ble_eq_true rfl) rfl rfl (np 54 rfl ?_)
    refine r_goto (tgt := 2) (dc dkX8_skipBlanks 26 rfl) rfl ?_
    refine r_pick [1, 0] rfl ?_
    exact ih2 _ _ ⟨hs.put (by decide), by rw [ju_at]; omega, by rw [ju_at, hk, skF_y (by omega) (by omega)]⟩ (by rw [ju_at]; omega)
  refine r_aload_n (dc dkX8_skipBlanks 12 rfl) rfl (np 26 rfl ?_)
  refine r_getR (dc dkX8_skipBlanks 13 rfl) flX8_14 fd_1_0 (np 29 rfl ?_)
  refine r_aload_n (dc dkX8_skipBlanks 14 rfl) rfl (np 30 rfl ?_)
  refine r_gI 2 (dc dkX8_skipBlanks 15 rfl) flX8_24 fd_1_2 rfl (np 33 rfl ?_)
  refine r_pV1 (y' := miX2_at) (dc dkX8_skipBlanks 16 rfl) mlX8_55 ceX2_at ob_2 (Nat.le_of_ble_eq_true rfl) (Nat.le_of_ble_eq_true rfl) (c_tape_at hY (by omega)) (np 36 rfl ?_)
  refine r_bipush (dc dkX8_skipBlanks 17 rfl) bp_10 (np 38 rfl ?_)
  refine r_icmp_ne (tgt := 57) (dc dkX8_skipBlanks 18 rfl) rfl (by first | assumption | decide | omega) (by first | assumption | decide | omega) (fun h38 => ?_) (fun h38 => (np 41 rfl ?_))
  · skip
    exact r_vret (dc dkX8_skipBlanks 27 rfl) rfl ⟨rfl, hs, by rw [hk, skF_n (by omega)]⟩
  refine r_aload_n (dc dkX8_skipBlanks 19 rfl) rfl (np 42 rfl ?_)
  refine r_dup (dc dkX8_skipBlanks 20 rfl) rfl (np 43 rfl ?_)
  refine r_gI 2 (dc dkX8_skipBlanks 21 rfl) flX8_24 fd_1_2 rfl (np 46 rfl ?_)
  refine r_iconst (dc dkX8_skipBlanks 22 rfl) (np 47 rfl ?_)
  refine r_iadd (dc dkX8_skipBlanks 23 rfl) (np 48 rfl ?_)
  refine r_pI 2 (dc dkX8_skipBlanks 24 rfl) fpX8_24 fd_1_2 rfl (np 51 rfl ?_)
  refine r_iinc (lv' := [(1, _), (0, _)]) (dc dkX8_skipBlanks 25 rfl) (Nat.le_of_ble_eq_true rfl) rfl rfl (np 54 rfl ?_)
  refine r_goto (tgt := 2) (dc dkX8_skipBlanks 26 rfl) rfl ?_
  refine r_pick [1, 0] rfl ?_
  exact ih2 _ _ ⟨hs.put (by decide), by rw [ju_at]; omega, by rw [ju_at, hk, skF_y (by omega) (by omega)]⟩ (by rw [ju_at]; omega)
set_option maxRecDepth 100000 in
set_option maxHeartbeats 4000000 in
theorem c_X8_readRun {σ : jS} (hT : okT σ) (hp : σ 1 2 < σ 2 1) : Jm 7 miX8_readRun [.ref 1] σ (fun r τ => r = none ∧ rdS [2, 4, 5, 6] σ τ ∧ τ 1 2 = rne (tpe σ) (σ 2 1) (σ 1 2) ∧ τ 1 4 = kdR (tpe σ) (σ 1 2) (rne (tpe σ) (σ 2 1) (σ 1 2)) ∧ τ 1 5 = vN (tpe σ) (σ 1 2) (rne (tpe σ) (σ 2 1) (σ 1 2) - σ 1 2) ∧ τ 1 6 = vW (tpe σ) (σ 1 2) (rne (tpe σ) (σ 2 1) (σ 1 2) - σ 1 2)) := by
  have t1 := hT.1
  have t2 := hT.2.1
  refine jm_ofF (Po := (fun r τ => r = none ∧ rdS [2, 4, 5, 6] σ τ ∧ τ 1 2 = rne (tpe σ) (σ 2 1) (σ 1 2) ∧ τ 1 4 = kdR (tpe σ) (σ 1 2) (rne (tpe σ) (σ 2 1) (σ 1 2)) ∧ τ 1 5 = vN (tpe σ) (σ 1 2) (rne (tpe σ) (σ 2 1) (σ 1 2) - σ 1 2) ∧ τ 1 6 = vW (tpe σ) (σ 1 2) (rne (tpe σ) (σ 2 1) (σ 1 2) - σ 1 2))) (plainFor_of_name (by decide)) (Nat.le_of_ble_eq_true rfl) (lv := [(0, _)]) rfl ?_
  refine r_iconst (dc dkX8_readRun 0 rfl) (np 1 rfl ?_)
  refine r_istore_n (lv' := [(1, _), (0, _)]) (dc dkX8_readRun 1 rfl) (Nat.le_of_ble_eq_true rfl) rfl (np 2 rfl ?_)
  refine r_iconst (dc dkX8_readRun 2 rfl) (np 3 rfl ?_)
  refine r_istore_n (lv' := [(2, _), (1, _), (0, _)]) (dc dkX8_readRun 3 rfl) (Nat.le_of_ble_eq_true rfl) rfl (np 4 rfl ?_)
  refine r_aload_n (dc dkX8_readRun 4 rfl) rfl (np 5 rfl ?_)
  refine r_iconst (dc dkX8_readRun 5 rfl) (np 6 rfl ?_)
  refine r_pI 5 (dc dkX8_readRun 6 rfl) fpX8_33 fd_1_5 rfl (np 9 rfl ?_)
  refine r_aload_n (dc dkX8_readRun 7 rfl) rfl (np 10 rfl ?_)
  refine r_lconst (dc dkX8_readRun 8 rfl) lc_0 (np 11 rfl ?_)
  refine r_pL 6 (dc dkX8_readRun 9 rfl) fpX8_36 fd_1_6 rfl (np 14 rfl ?_)
  refine r_iconst (dc dkX8_readRun 10 rfl) (np 15 rfl ?_)
  refine r_istore_n (lv' := [(3, _), (2, _), (1, _), (0, _)]) (dc dkX8_readRun 11 rfl) (Nat.le_of_ble_eq_true rfl) rfl (np 16 rfl ?_)
  refine r_pick [3, 2, 1, 0] (lv' := [(0, _), (1, _), (2, _), (3, _)]) rfl ?_
  refine jlp4 (P := fun (a : Int) (b : Int) (i : Int) (τ : jS) => jR _ _ _ 16 [(0, .ref 1), (1, vI a), (2, vI b), (3, vI i)] [] τ) (I := fun (a : Int) (b : Int) (i : Int) (τ : jS) => rdS [2, 4, 5, 6] σ τ ∧ (0 ≤ i ∧ i = τ 1 2 - σ 1 2 ∧ τ 1 2 ≤ σ 2 1) ∧ rne (tpe σ) (σ 2 1) (σ 1 2) = rnF (tpe σ) (σ 2 1 - τ 1 2).toNat (τ 1 2) ∧ a = cL (tpe σ) (σ 1 2) i ∧ b = cD (tpe σ) (σ 1 2) i ∧ (a + b = i ∧ 0 ≤ a ∧ 0 ≤ b) ∧ τ 1 5 = vN (tpe σ) (σ 1 2) i ∧ τ 1 6 = vW (tpe σ) (σ 1 2) i) (fun (a : Int) (b : Int) (i : Int) (τ : jS) => (σ 2 1 - τ 1 2).toNat) ?_ _ _ _ _ ⟨((rdS.refl _ _).put (by decide)).put (by decide), by rw [ju_ne (by decide), ju_ne (by decide)]; omega, by rw [ju_ne (by decide), ju_ne (by decide)]; rfl, rfl, rfl, by omega, by rw [ju_ne (by decide), ju_at]; rfl, by rw [ju_at]; rfl⟩
  intro a b i τ hI16 ih16
  obtain ⟨hs, hb, hr, ha, hd, hab, hv, hw⟩ := hI16
  have e2 : τ 2 1 = σ 2 1 := by rw [hs.1 2 (by decide)]
  have hY : okY τ 2 := by unfold okY; rw [e2]; exact okT_Y hT
  have tb := tpe_b σ (τ 1 2)
  have e4 : tpe τ (τ 1 2) = tpe σ (τ 1 2) := by rw [rdS_tpe hs]
  have e5 : σ 1 2 + i = τ 1 2 := by omega
  refine r_iload_n (dc dkX8_readRun 12 rfl) rfl (np 17 rfl ?_)
  refine r_sipush (dc dkX8_readRun 13 rfl) sp_640 (np 20 rfl ?_)
  refine r_icmp_ge (tgt := 115) (dc dkX8_readRun 14 rfl) rfl (by first | assumption | decide | omega) (by first | assumption | decide | omega) (fun h20 => ?_) (fun h20 => (np 23 rfl ?_))
  · skip
    have hE : rne (tpe σ) (σ 2 1) (σ 1 2) = τ 1 2 := by rw [hr, rnF_n (by omega)]
    have hE2 : rne (tpe σ) (σ 2 1) (σ 1 2) - σ 1 2 = i := by omega
    refine r_iload_n (dc dkX8_readRun 61 rfl) rfl (np 116 rfl ?_)
    refine r_if_ne (tgt := 139) (dc dkX8_readRun 62 rfl) rfl (by first | assumption | decide | omega) (fun h116 => ?_) (fun h116 => (np 119 rfl ?_))
    · skip
      refine r_aload_n (dc dkX8_readRun 72 rfl) rfl (np 140 rfl ?_)
      refine r_iload_n (dc dkX8_readRun 73 rfl) rfl (np 141 rfl ?_)
      refine r_if_ne (tgt := 153) (dc dkX8_readRun 74 rfl) rfl (by first | assumption | decide | omega) (fun h141 => ?_) (fun h141 => (np 144 rfl ?_))
      · skip
        refine r_iconst (dc dkX8_readRun 80 rfl) (np 154 rfl ?_)
        refine r_pI 4 (dc dkX8_readRun 81 rfl) fpX8_30 fd_1_4 rfl (np 157 rfl ?_)
        exact r_vret (dc dkX8_readRun 82 rfl) rfl ⟨rfl, hs.put (by decide), by rw [ju_ne (by decide), hE], by
            rw [ju_at, kdR, hE2, ← ha, ← hd]
            first | (rw [if_pos (by omega), hw]; done) | (rw [if_neg (by omega), if_pos (by omega)]; done) | (rw [if_neg (by omega), if_neg (by omega)]; done), by rw [ju_ne (by decide), hE2]; exact hv, by rw [ju_ne (by decide), hE2]; exact hw⟩
      refine r_iload_n (dc dkX8_readRun 75 rfl) rfl (np 145 rfl ?_)
      refine r_iconst (dc dkX8_readRun 76 rfl) (np 146 rfl ?_)
      refine r_icmp_gt (tgt := 153) (dc dkX8_readRun 77 rfl) rfl (by first | assumption | decide | omega) (by first | assumption | decide | omega) (fun h146 => ?_) (fun h146 => (np 149 rfl ?_))
      · skip
        refine r_iconst (dc dkX8_readRun 80 rfl) (np 154 rfl ?_)
        refine r_pI 4 (dc dkX8_readRun 81 rfl) fpX8_30 fd_1_4 rfl (np 157 rfl ?_)
        exact r_vret (dc dkX8_readRun 82 rfl) rfl ⟨rfl, hs.put (by decide), by rw [ju_ne (by decide), hE], by
            rw [ju_at, kdR, hE2, ← ha, ← hd]
            first | (rw [if_pos (by omega), hw]; done) | (rw [if_neg (by omega), if_pos (by omega)]; done) | (rw [if_neg (by omega), if_neg (by omega)]; done), by rw [ju_ne (by decide), hE2]; exact hv, by rw [ju_ne (by decide), hE2]; exact hw⟩
      refine r_iconst (dc dkX8_readRun 78 rfl) (np 150 rfl ?_)
      refine r_goto (tgt := 154) (dc dkX8_readRun 79 rfl) rfl ?_
      refine r_pI 4 (dc dkX8_readRun 81 rfl) fpX8_30 fd_1_4 rfl (np 157 rfl ?_)
      exact r_vret (dc dkX8_readRun 82 rfl) rfl ⟨rfl, hs.put (by decide), by rw [ju_ne (by decide), hE], by
          rw [ju_at, kdR, hE2, ← ha, ← hd]
          first | (rw [if_pos (by omega), hw]; done) | (rw [if_neg (by omega), if_pos (by omega)]; done) | (rw [if_neg (by omega), if_neg (by omega)]; done), by rw [ju_ne (by decide), hE2]; exact hv, by rw [ju_ne (by decide), hE2]; exact hw⟩
    refine r_iload_n (dc dkX8_readRun 63 rfl) rfl (np 120 rfl ?_)
    refine r_bipush (dc dkX8_readRun 64 rfl) bp_7 (np 122 rfl ?_)
    refine r_icmp_gt (tgt := 139) (dc dkX8_readRun 65 rfl) rfl (by first | assumption | decide | omega) (by first | assumption | decide | omega) (fun h122 => ?_) (fun h122 => (np 125 rfl ?_))
    · skip
      refine r_aload_n (dc dkX8_readRun 72 rfl) rfl (np 140 rfl ?_)
      refine r_iload_n (dc dkX8_readRun 73 rfl) rfl (np 141 rfl ?_)
      refine r_if_ne (tgt := 153) (dc dkX8_readRun 74 rfl) rfl (by first | assumption | decide | omega) (fun h141 => ?_) (fun h141 => (np 144 rfl ?_))
      · skip
        refine r_iconst (dc dkX8_readRun 80 rfl) (np 154 rfl ?_)
        refine r_pI 4 (dc dkX8_readRun 81 rfl) fpX8_30 fd_1_4 rfl (np 157 rfl ?_)
        exact r_vret (dc dkX8_readRun 82 rfl) rfl ⟨rfl, hs.put (by decide), by rw [ju_ne (by decide), hE], by
            rw [ju_at, kdR, hE2, ← ha, ← hd]
            first | (rw [if_pos (by omega), hw]; done) | (rw [if_neg (by omega), if_pos (by omega)]; done) | (rw [if_neg (by omega), if_neg (by omega)]; done), by rw [ju_ne (by decide), hE2]; exact hv, by rw [ju_ne (by decide), hE2]; exact hw⟩
      refine r_iload_n (dc dkX8_readRun 75 rfl) rfl (np 145 rfl ?_)
      refine r_iconst (dc dkX8_readRun 76 rfl) (np 146 rfl ?_)
      refine r_icmp_gt (tgt := 153) (dc dkX8_readRun 77 rfl) rfl (by first | assumption | decide | omega) (by first | assumption | decide | omega) (fun h146 => ?_) (fun h146 => (np 149 rfl ?_))
      · skip
        refine r_iconst (dc dkX8_readRun 80 rfl) (np 154 rfl ?_)
        refine r_pI 4 (dc dkX8_readRun 81 rfl) fpX8_30 fd_1_4 rfl (np 157 rfl ?_)
        exact r_vret (dc dkX8_readRun 82 rfl) rfl ⟨rfl, hs.put (by decide), by rw [ju_ne (by decide), hE], by
            rw [ju_at, kdR, hE2, ← ha, ← hd]
            first | (rw [if_pos (by omega), hw]; done) | (rw [if_neg (by omega), if_pos (by omega)]; done) | (rw [if_neg (by omega), if_neg (by omega)]; done), by rw [ju_ne (by decide), hE2]; exact hv, by rw [ju_ne (by decide), hE2]; exact hw⟩
      refine r_iconst (dc dkX8_readRun 78 rfl) (np 150 rfl ?_)
      refine r_goto (tgt := 154) (dc dkX8_readRun 79 rfl) rfl ?_
      refine r_pI 4 (dc dkX8_readRun 81 rfl) fpX8_30 fd_1_4 rfl (np 157 rfl ?_)
      exact r_vret (dc dkX8_readRun 82 rfl) rfl ⟨rfl, hs.put (by decide), by rw [ju_ne (by decide), hE], by
          rw [ju_at, kdR, hE2, ← ha, ← hd]
          first | (rw [if_pos (by omega), hw]; done) | (rw [if_neg (by omega), if_pos (by omega)]; done) | (rw [if_neg (by omega), if_neg (by omega)]; done), by rw [ju_ne (by decide), hE2]; exact hv, by rw [ju_ne (by decide), hE2]; exact hw⟩
    have hw0 := vW_b (t := tpe σ) (s := σ 1 2) i.toNat
    have hw1 := pow27 (n := i.toNat) (by omega)
    have hw3 : τ 1 6 = vWN (tpe σ) (σ 1 2) i.toNat := hw
    refine r_aload_n (dc dkX8_readRun 66 rfl) rfl (np 126 rfl ?_)
    refine r_aload_n (dc dkX8_readRun 67 rfl) rfl (np 127 rfl ?_)
    refine r_gL 6 (dc dkX8_readRun 68 rfl) flX8_36 fd_1_6 rfl (np 130 rfl ?_)
    refine r_pS1 (y' := miX8_kindOf) (dc dkX8_readRun 69 rfl) mlX8_74 seX8_kindOf (Nat.le_of_ble_eq_true rfl) (Nat.le_of_ble_eq_true rfl) (c_X8_kindOf (by omega)) (np 133 rfl ?_)
    refine r_pI 4 (dc dkX8_readRun 70 rfl) fpX8_30 fd_1_4 rfl (np 136 rfl ?_)
    refine r_goto (tgt := 157) (dc dkX8_readRun 71 rfl) rfl ?_
    exact r_vret (dc dkX8_readRun 82 rfl) rfl ⟨rfl, hs.put (by decide), by rw [ju_ne (by decide), hE], by
        rw [ju_at, kdR, hE2, ← ha, ← hd]
        first | (rw [if_pos (by omega), hw]; done) | (rw [if_neg (by omega), if_pos (by omega)]; done) | (rw [if_neg (by omega), if_neg (by omega)]; done), by rw [ju_ne (by decide), hE2]; exact hv, by rw [ju_ne (by decide), hE2]; exact hw⟩
  refine r_aload_n (dc dkX8_readRun 15 rfl) rfl (np 24 rfl ?_)
  refine r_getR (dc dkX8_readRun 16 rfl) flX8_14 fd_1_0 (np 27 rfl ?_)
  refine r_aload_n (dc dkX8_readRun 17 rfl) rfl (np 28 rfl ?_)
  refine r_gI 2 (dc dkX8_readRun 18 rfl) flX8_24 fd_1_2 rfl (np 31 rfl ?_)
  refine r_pV1 (y' := miX2_at) (dc dkX8_readRun 19 rfl) mlX8_55 ceX2_at ob_2 (Nat.le_of_ble_eq_true rfl) (Nat.le_of_ble_eq_true rfl) (c_tape_at hY (by omega)) (np 34 rfl ?_)
  refine r_istore (lv' := [(4, _), (0, _), (1, _), (2, _), (3, _)]) (dc dkX8_readRun 20 rfl) (Nat.le_of_ble_eq_true rfl) rfl (np 36 rfl ?_)
  refine r_iload (dc dkX8_readRun 21 rfl) rfl (np 38 rfl ?_)
  refine r_pS1 (y' := miX8_isLetter) (dc dkX8_readRun 22 rfl) mlX8_59 seX8_isLetter (Nat.le_of_ble_eq_true rfl) (Nat.le_of_ble_eq_true rfl) (c_X8_isLetter (by omega)) (np 41 rfl ?_)
  refine r_bz (tgt := 71) (dc dkX8_readRun 23 rfl) rfl (fun h41 => ?_) (fun h41 => (np 44 rfl ?_))
  · skip
    refine r_iload (dc dkX8_readRun 39 rfl) rfl (np 73 rfl ?_)
    refine r_pS1 (y' := miX8_isDigit) (dc dkX8_readRun 40 rfl) mlX8_63 seX8_isDigit (Nat.le_of_ble_eq_true rfl) (Nat.le_of_ble_eq_true rfl) (c_X8_isDigit (by omega)) (np 76 rfl ?_)
    refine r_bz (tgt := 115) (dc dkX8_readRun 41 rfl) rfl (fun h76 => ?_) (fun h76 => (np 79 rfl ?_))
    · skip
      have hE : rne (tpe σ) (σ 2 1) (σ 1 2) = τ 1 2 := by rw [hr, rnF_n (by omega)]
      have hE2 : rne (tpe σ) (σ 2 1) (σ 1 2) - σ 1 2 = i := by omega
      refine r_iload_n (dc dkX8_readRun 61 rfl) rfl (np 116 rfl ?_)
      refine r_if_ne (tgt := 139) (dc dkX8_readRun 62 rfl) rfl (by first | assumption | decide | omega) (fun h116 => ?_) (fun h116 => (np 119 rfl ?_))
      · skip
        refine r_aload_n (dc dkX8_readRun 72 rfl) rfl (np 140 rfl ?_)
        refine r_iload_n (dc dkX8_readRun 73 rfl) rfl (np 141 rfl ?_)
        refine r_if_ne (tgt := 153) (dc dkX8_readRun 74 rfl) rfl (by first | assumption | decide | omega) (fun h141 => ?_) (fun h141 => (np 144 rfl ?_))
        · skip
          refine r_iconst (dc dkX8_readRun 80 rfl) (np 154 rfl ?_)
          refine r_pI 4 (dc dkX8_readRun 81 rfl) fpX8_30 fd_1_4 rfl (np 157 rfl ?_)
          exact r_vret (dc dkX8_readRun 82 rfl) rfl ⟨rfl, hs.put (by decide), by rw [ju_ne (by decide), hE], by
              rw [ju_at, kdR, hE2, ← ha, ← hd]
              first | (rw [if_pos (by omega), hw]; done) | (rw [if_neg (by omega), if_pos (by omega)]; done) | (rw [if_neg (by omega), if_neg (by omega)]; done), by rw [ju_ne (by decide), hE2]; exact hv, by rw [ju_ne (by decide), hE2]; exact hw⟩
        refine r_iload_n (dc dkX8_readRun 75 rfl) rfl (np 145 rfl ?_)
        refine r_iconst (dc dkX8_readRun 76 rfl) (np 146 rfl ?_)
        refine r_icmp_gt (tgt := 153) (dc dkX8_readRun 77 rfl) rfl (by first | assumption | decide | omega) (by first | assumption | decide | omega) (fun h146 => ?_) (fun h146 => (np 149 rfl ?_))
        · skip
          refine r_iconst (dc dkX8_readRun 80 rfl) (np 154 rfl ?_)
          refine r_pI 4 (dc dkX8_readRun 81 rfl) fpX8_30 fd_1_4 rfl (np 157 rfl ?_)
          exact r_vret (dc dkX8_readRun 82 rfl) rfl ⟨rfl, hs.put (by decide), by rw [ju_ne (by decide), hE], by
              rw [ju_at, kdR, hE2, ← ha, ← hd]
              first | (rw [if_pos (by omega), hw]; done) | (rw [if_neg (by omega), if_pos (by omega)]; done) | (rw [if_neg (by omega), if_neg (by omega)]; done), by rw [ju_ne (by decide), hE2]; exact hv, by rw [ju_ne (by decide), hE2]; exact hw⟩
        refine r_iconst (dc dkX8_readRun 78 rfl) (np 150 rfl ?_)
        refine r_goto (tgt := 154) (dc dkX8_readRun 79 rfl) rfl ?_
        refine r_pI 4 (dc dkX8_readRun 81 rfl) fpX8_30 fd_1_4 rfl (np 157 rfl ?_)
        exact r_vret (dc dkX8_readRun 82 rfl) rfl ⟨rfl, hs.put (by decide), by rw [ju_ne (by decide), hE], by
            rw [ju_at, kdR, hE2, ← ha, ← hd]
            first | (rw [if_pos (by omega), hw]; done) | (rw [if_neg (by omega), if_pos (by omega)]; done) | (rw [if_neg (by omega), if_neg (by omega)]; done), by rw [ju_ne (by decide), hE2]; exact hv, by rw [ju_ne (by decide), hE2]; exact hw⟩
      refine r_iload_n (dc dkX8_readRun 63 rfl) rfl (np 120 rfl ?_)
      refine r_bipush (dc dkX8_readRun 64 rfl) bp_7 (np 122 rfl ?_)
      refine r_icmp_gt (tgt := 139) (dc dkX8_readRun 65 rfl) rfl (by first | assumption | decide | omega) (by first | assumption | decide | omega) (fun h122 => ?_) (fun h122 => (np 125 rfl ?_))
      · skip
        refine r_aload_n (dc dkX8_readRun 72 rfl) rfl (np 140 rfl ?_)
        refine r_iload_n (dc dkX8_readRun 73 rfl) rfl (np 141 rfl ?_)
        refine r_if_ne (tgt := 153) (dc dkX8_readRun 74 rfl) rfl (by first | assumption | decide | omega) (fun h141 => ?_) (fun h141 => (np 144 rfl ?_))
        · skip
          refine r_iconst (dc dkX8_readRun 80 rfl) (np 154 rfl ?_)
          refine r_pI 4 (dc dkX8_readRun 81 rfl) fpX8_30 fd_1_4 rfl (np 157 rfl ?_)
          exact r_vret (dc dkX8_readRun 82 rfl) rfl ⟨rfl, hs.put (by decide), by rw [ju_ne (by decide), hE], by
              rw [ju_at, kdR, hE2, ← ha, ← hd]
              first | (rw [if_pos (by omega), hw]; done) | (rw [if_neg (by omega), if_pos (by omega)]; done) | (rw [if_neg (by omega), if_neg (by omega)]; done), by rw [ju_ne (by decide), hE2]; exact hv, by rw [ju_ne (by decide), hE2]; exact hw⟩
        refine r_iload_n (dc dkX8_readRun 75 rfl) rfl (np 145 rfl ?_)
        refine r_iconst (dc dkX8_readRun 76 rfl) (np 146 rfl ?_)
        refine r_icmp_gt (tgt := 153) (dc dkX8_readRun 77 rfl) rfl (by first | assumption | decide | omega) (by first | assumption | decide | omega) (fun h146 => ?_) (fun h146 => (np 149 rfl ?_))
        · skip
          refine r_iconst (dc dkX8_readRun 80 rfl) (np 154 rfl ?_)
          refine r_pI 4 (dc dkX8_readRun 81 rfl) fpX8_30 fd_1_4 rfl (np 157 rfl ?_)
          exact r_vret (dc dkX8_readRun 82 rfl) rfl ⟨rfl, hs.put (by decide), by rw [ju_ne (by decide), hE], by
              rw [ju_at, kdR, hE2, ← ha, ← hd]
              first | (rw [if_pos (by omega), hw]; done) | (rw [if_neg (by omega), if_pos (by omega)]; done) | (rw [if_neg (by omega), if_neg (by omega)]; done), by rw [ju_ne (by decide), hE2]; exact hv, by rw [ju_ne (by decide), hE2]; exact hw⟩
        refine r_iconst (dc dkX8_readRun 78 rfl) (np 150 rfl ?_)
        refine r_goto (tgt := 154) (dc dkX8_readRun 79 rfl) rfl ?_
        refine r_pI 4 (dc dkX8_readRun 81 rfl) fpX8_30 fd_1_4 rfl (np 157 rfl ?_)
        exact r_vret (dc dkX8_readRun 82 rfl) rfl ⟨rfl, hs.put (by decide), by rw [ju_ne (by decide), hE], by
            rw [ju_at, kdR, hE2, ← ha, ← hd]
            first | (rw [if_pos (by omega), hw]; done) | (rw [if_neg (by omega), if_pos (by omega)]; done) | (rw [if_neg (by omega), if_neg (by omega)]; done), by rw [ju_ne (by decide), hE2]; exact hv, by rw [ju_ne (by decide), hE2]; exact hw⟩
      have hw0 := vW_b (t := tpe σ) (s := σ 1 2) i.toNat
      have hw1 := pow27 (n := i.toNat) (by omega)
      have hw3 : τ 1 6 = vWN (tpe σ) (σ 1 2) i.toNat := hw
      refine r_aload_n (dc dkX8_readRun 66 rfl) rfl (np 126 rfl ?_)
      refine r_aload_n (dc dkX8_readRun 67 rfl) rfl (np 127 rfl ?_)
      refine r_gL 6 (dc dkX8_readRun 68 rfl) flX8_36 fd_1_6 rfl (np 130 rfl ?_)
      refine r_pS1 (y' := miX8_kindOf) (dc dkX8_readRun 69 rfl) mlX8_74 seX8_kindOf (Nat.le_of_ble_eq_true rfl) (Nat.le_of_ble_eq_true rfl) (c_X8_kindOf (by omega)) (np 133 rfl ?_)
      refine r_pI 4 (dc dkX8_readRun 70 rfl) fpX8_30 fd_1_4 rfl (np 136 rfl ?_)
      refine r_goto (tgt := 157) (dc dkX8_readRun 71 rfl) rfl ?_
      exact r_vret (dc dkX8_readRun 82 rfl) rfl ⟨rfl, hs.put (by decide), by rw [ju_ne (by decide), hE], by
          rw [ju_at, kdR, hE2, ← ha, ← hd]
          first | (rw [if_pos (by omega), hw]; done) | (rw [if_neg (by omega), if_pos (by omega)]; done) | (rw [if_neg (by omega), if_neg (by omega)]; done), by rw [ju_ne (by decide), hE2]; exact hv, by rw [ju_ne (by decide), hE2]; exact hw⟩
    refine r_iinc (lv' := [(2, _), (4, _), (0, _), (1, _), (3, _)]) (dc dkX8_readRun 42 rfl) (Nat.le_of_ble_eq_true rfl) rfl rfl (np 82 rfl ?_)
    refine r_aload_n (dc dkX8_readRun 43 rfl) rfl (np 83 rfl ?_)
    refine r_aload_n (dc dkX8_readRun 44 rfl) rfl (np 84 rfl ?_)
    refine r_gI 5 (dc dkX8_readRun 45 rfl) flX8_33 fd_1_5 rfl (np 87 rfl ?_)
    refine r_bipush (dc dkX8_readRun 46 rfl) bp_10 (np 89 rfl ?_)
    refine r_imul (dc dkX8_readRun 47 rfl) (np 90 rfl ?_)
    refine r_iload (dc dkX8_readRun 48 rfl) rfl (np 92 rfl ?_)
    refine r_bipush (dc dkX8_readRun 49 rfl) bp_48 (np 94 rfl ?_)
    refine r_isub (dc dkX8_readRun 50 rfl) (np 95 rfl ?_)
    refine r_iadd (dc dkX8_readRun 51 rfl) (np 96 rfl ?_)
    refine r_pI 5 (dc dkX8_readRun 52 rfl) fpX8_33 fd_1_5 rfl (np 99 rfl ?_)
    refine r_aload_n (dc dkX8_readRun 53 rfl) rfl (np 100 rfl ?_)
    refine r_dup (dc dkX8_readRun 54 rfl) rfl (np 101 rfl ?_)
    refine r_gI 2 (dc dkX8_readRun 55 rfl) flX8_24 fd_1_2 rfl (np 104 rfl ?_)
    refine r_iconst (dc dkX8_readRun 56 rfl) (np 105 rfl ?_)
    refine r_iadd (dc dkX8_readRun 57 rfl) (np 106 rfl ?_)
    refine r_pI 2 (dc dkX8_readRun 58 rfl) fpX8_24 fd_1_2 rfl (np 109 rfl ?_)
    refine r_iinc (lv' := [(3, _), (2, _), (4, _), (0, _), (1, _)]) (dc dkX8_readRun 59 rfl) (Nat.le_of_ble_eq_true rfl) rfl rfl (np 112 rfl ?_)
    refine r_goto (tgt := 16) (dc dkX8_readRun 60 rfl) rfl ?_
    refine r_pick [3, 4, 1, 0] rfl ?_
    exact ih16 _ _ _ _ (by first | exact ⟨(hs.put (by decide)).put (by decide), by rw [ju_at, ju_ne (by decide)]; omega, by rw [ju_at, ju_ne (by decide), hr, rnF_y (by omega) (by omega)], by rw [cL, smI_s _ (by omega), e5, bI_t (by omega)]; show _ = cL _ _ _ + 1; omega, by rw [cD, smI_s _ (by omega), e5, bI_f (by omega)]; show _ = cD _ _ _ + 0; omega, by omega, by rw [ju_ne (by decide), ju_ne (by decide), vN_n (by omega) (by rw [e5]; omega)]; exact hv, by rw [ju_ne (by decide), ju_at, vW_y (by omega) (by rw [e5]; omega), hw, e5, if_pos (by omega), rdS_tpe hs]⟩ | exact ⟨(hs.put (by decide)).put (by decide), by rw [ju_at, ju_ne (by decide)]; omega, by rw [ju_at, ju_ne (by decide), hr, rnF_y (by omega) (by omega)], by rw [cL, smI_s _ (by omega), e5, bI_f (by omega)]; show _ = cL _ _ _ + 0; omega, by rw [cD, smI_s _ (by omega), e5, bI_t (by omega)]; show _ = cD _ _ _ + 1; omega, by omega, by rw [ju_ne (by decide), ju_at, vN_y (by omega) (by rw [e5]; omega), hv, e5, if_pos (by omega), rdS_tpe hs], by rw [ju_ne (by decide), ju_ne (by decide), vW_n (by omega) (by rw [e5]; omega)]; exact hw⟩) (by rw [ju_at, ju_ne (by decide)]; omega)
  refine r_iinc (lv' := [(1, _), (4, _), (0, _), (2, _), (3, _)]) (dc dkX8_readRun 24 rfl) (Nat.le_of_ble_eq_true rfl) rfl rfl (np 47 rfl ?_)
  refine r_aload_n (dc dkX8_readRun 25 rfl) rfl (np 48 rfl ?_)
  refine r_aload_n (dc dkX8_readRun 26 rfl) rfl (np 49 rfl ?_)
  refine r_gL 6 (dc dkX8_readRun 27 rfl) flX8_36 fd_1_6 rfl (np 52 rfl ?_)
  refine r_ldc2 (z := 27) (dc dkX8_readRun 28 rfl) ckX8_72 (by decide) (np 55 rfl ?_)
  refine r_lmul (dc dkX8_readRun 29 rfl) (np 56 rfl ?_)
  refine r_iload (dc dkX8_readRun 30 rfl) rfl (np 58 rfl ?_)
  refine r_bipush (dc dkX8_readRun 31 rfl) bp_97 (np 60 rfl ?_)
  refine r_isub (dc dkX8_readRun 32 rfl) (np 61 rfl ?_)
  refine r_iconst (dc dkX8_readRun 33 rfl) (np 62 rfl ?_)
  refine r_iadd (dc dkX8_readRun 34 rfl) (np 63 rfl ?_)
  refine r_i2l (dc dkX8_readRun 35 rfl) (by omega) (np 64 rfl ?_)
  refine r_ladd (dc dkX8_readRun 36 rfl) (np 65 rfl ?_)
  refine r_pL 6 (dc dkX8_readRun 37 rfl) fpX8_36 fd_1_6 rfl (np 68 rfl ?_)
  refine r_goto (tgt := 99) (dc dkX8_readRun 38 rfl) rfl ?_
  refine r_aload_n (dc dkX8_readRun 53 rfl) rfl (np 100 rfl ?_)
  refine r_dup (dc dkX8_readRun 54 rfl) rfl (np 101 rfl ?_)
  refine r_gI 2 (dc dkX8_readRun 55 rfl) flX8_24 fd_1_2 rfl (np 104 rfl ?_)
  refine r_iconst (dc dkX8_readRun 56 rfl) (np 105 rfl ?_)
  refine r_iadd (dc dkX8_readRun 57 rfl) (np 106 rfl ?_)
  refine r_pI 2 (dc dkX8_readRun 58 rfl) fpX8_24 fd_1_2 rfl (np 109 rfl ?_)
  refine r_iinc (lv' := [(3, _), (1, _), (4, _), (0, _), (2, _)]) (dc dkX8_readRun 59 rfl) (Nat.le_of_ble_eq_true rfl) rfl rfl (np 112 rfl ?_)
  refine r_goto (tgt := 16) (dc dkX8_readRun 60 rfl) rfl ?_
  refine r_pick [3, 1, 4, 0] rfl ?_
  exact ih16 _ _ _ _ (by first | exact ⟨(hs.put (by decide)).put (by decide), by rw [ju_at, ju_ne (by decide)]; omega, by rw [ju_at, ju_ne (by decide), hr, rnF_y (by omega) (by omega)], by rw [cL, smI_s _ (by omega), e5, bI_t (by omega)]; show _ = cL _ _ _ + 1; omega, by rw [cD, smI_s _ (by omega), e5, bI_f (by omega)]; show _ = cD _ _ _ + 0; omega, by omega, by rw [ju_ne (by decide), ju_ne (by decide), vN_n (by omega) (by rw [e5]; omega)]; exact hv, by rw [ju_ne (by decide), ju_at, vW_y (by omega) (by rw [e5]; omega), hw, e5, if_pos (by omega), rdS_tpe hs]⟩ | exact ⟨(hs.put (by decide)).put (by decide), by rw [ju_at, ju_ne (by decide)]; omega, by rw [ju_at, ju_ne (by decide), hr, rnF_y (by omega) (by omega)], by rw [cL, smI_s _ (by omega), e5, bI_f (by omega)]; show _ = cL _ _ _ + 0; omega, by rw [cD, smI_s _ (by omega), e5, bI_t (by omega)]; show _ = cD _ _ _ + 1; omega, by omega, by rw [ju_ne (by decide), ju_at, vN_y (by omega) (by rw [e5]; omega), hv, e5, if_pos (by omega), rdS_tpe hs], by rw [ju_ne (by decide), ju_ne (by decide), vW_n (by omega) (by rw [e5]; omega)]; exact hw⟩) (by rw [ju_at, ju_ne (by decide)]; omega)
