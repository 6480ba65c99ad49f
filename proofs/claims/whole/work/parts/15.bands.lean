/-! ===== words of bands: n corners, their pegs P (round and round) ===== -/
def areaS (n : Int) (P : Int → Int) : Int := smI (fun i => sh (P i) (P (i + 1))) n
def onN (n : Int) (P : Int → Int) : Int := smI (fun i => pts (P i) (P (i + 1))) n
noncomputable def bentN (n : Int) (P : Int → Int) : Int := smI (fun i => bI (¬ (0 < tn (P i) (P (i + 1)) (P (i + 2)) ↔ 0 < areaS n P))) n
noncomputable def rightN (n : Int) (P : Int → Int) : Int := smI (fun i => bI (al (P (i + 1)) (P i) (P (i + 2)) = 0)) n
def isOnB (n : Int) (P : Int → Int) (p : Int) : Prop := ∃ i, 0 ≤ i ∧ i < n ∧ onS p (P i) (P (i + 1))
def crT (x y ax ay bx by_ : Int) : Int := (bx - ax) * (y - ay) - (by_ - ay) * (x - ax)
def crC (x y a b : Int) : Prop := ¬ (y < 2 * (a / 10) ↔ y < 2 * (b / 10)) ∧ (2 * (a / 10) < 2 * (b / 10) ↔ 0 < crT x y (2 * (a % 10)) (2 * (a / 10)) (2 * (b % 10)) (2 * (b / 10)))
noncomputable def encN (n : Int) (P : Int → Int) (x y : Int) : Int := smI (fun i => bI (crC x y (P i) (P (i + 1)))) n
def encB (n : Int) (P : Int → Int) (x y : Int) : Prop := encN n P x y % 2 = 1
def wthB (n : Int) (P : Int → Int) (p : Int) : Prop := ¬ isOnB n P p ∧ encB n P (2 * (p % 10)) (2 * (p / 10))
def hldB (n : Int) (P : Int → Int) (p : Int) : Prop := isOnB n P p ∨ encB n P (2 * (p % 10)) (2 * (p / 10))
noncomputable def meetN (n : Int) (P : Int → Int) (m : Int) (Q : Int → Int) (how : Int) : Int := smI (fun i => smI (fun j => bI (mt (P i) (P (i + 1)) (Q j) (Q (j + 1)) = how)) m) n
def lieB (n : Int) (P : Int → Int) (m : Int) (Q : Int → Int) : Prop := meetN n P m Q 0 = n * m ∧ ∀ i, 0 ≤ i → i < n → wthB m Q (P i)
def mnN (f : Int → Int) (z : Int) : Nat → Int
  | 0 => z
  | n + 1 => min (mnN f z n) (f n)
def mxN (f : Int → Int) (z : Int) : Nat → Int
  | 0 => z
  | n + 1 => max (mxN f z n) (f n)
def wdN (P : Int → Int) : Nat → Int
  | 0 => 0
  | i + 1 => mxN (fun j => al (P i) (P j) (P j)) (wdN P i) i
theorem mnN_s (f : Int → Int) (z : Int) {i : Int} (h : 0 ≤ i) : mnN f z (i + 1).toNat = min (mnN f z i.toNat) (f i) := by
  rw [show (i + 1).toNat = i.toNat + 1 by omega, mnN, Int.toNat_of_nonneg h]
theorem mxN_s (f : Int → Int) (z : Int) {i : Int} (h : 0 ≤ i) : mxN f z (i + 1).toNat = max (mxN f z i.toNat) (f i) := by
  rw [show (i + 1).toNat = i.toNat + 1 by omega, mxN, Int.toNat_of_nonneg h]
theorem wdN_s (P : Int → Int) {i : Int} (h : 0 ≤ i) : wdN P (i + 1).toNat = mxN (fun j => al (P i) (P j) (P j)) (wdN P i.toNat) i.toNat := by
  rw [show (i + 1).toNat = i.toNat + 1 by omega, wdN, Int.toNat_of_nonneg h]
/-- the first number of a kind; -1 if there is none -/
noncomputable def fiF (P : Int → Prop) : Nat → Int → Int
  | 0, _ => -1
  | n + 1, s => @ite _ (P s) (Classical.propDecidable _) s (fiF P n (s + 1))
noncomputable def fi (P : Int → Prop) (n : Int) : Int := fiF P n.toNat 0
theorem fiF_in {P : Int → Prop} {n i : Int} (h : i < n) : fiF P (n - i).toNat i = @ite _ (P i) (Classical.propDecidable _) i (fiF P (n - (i + 1)).toNat (i + 1)) := by
  rw [show (n - i).toNat = (n - (i + 1)).toNat + 1 by omega, fiF]
theorem fiF_t {P : Int → Prop} {n i : Int} (h : i < n) (hp : P i) : fiF P (n - i).toNat i = i := by rw [fiF_in h, if_pos hp]
theorem fiF_n {P : Int → Prop} {n i : Int} (h : i < n) (hp : ¬ P i) : fiF P (n - i).toNat i = fiF P (n - (i + 1)).toNat (i + 1) := by rw [fiF_in h, if_neg hp]
theorem fiF_e {P : Int → Prop} {n i : Int} (h : n ≤ i) : fiF P (n - i).toNat i = -1 := by rw [show (n - i).toNat = 0 by omega, fiF]
theorem fi_def (P : Int → Prop) (n : Int) : fi P n = fiF P (n - 0).toNat 0 := by rw [fi, Int.sub_zero]
theorem gd_b {x y : Int} (hx : -9 ≤ x ∧ x ≤ 9) (hy : -9 ≤ y ∧ y ≤ 9) : 0 ≤ gd x y ∧ gd x y ≤ 9 := by
  unfold gd
  refine ⟨by omega, ?_⟩
  by_cases h : x = 0
  · subst h
    rw [Int.gcd_zero_left]
    omega
  · have := Int.gcd_le_natAbs_left y h
    omega
theorem pts_b {a b : Int} (ha : isPg a) (hb : isPg b) : 0 ≤ pts a b ∧ pts a b ≤ 9 := gd_b ⟨by omega, by omega⟩ ⟨by omega, by omega⟩
theorem bI_b (P : Prop) : 0 ≤ bI P ∧ bI P ≤ 1 := by rcases bI_01 P with h | h <;> rw [h] <;> decide
theorem smI_nn {f : Int → Int} {A n : Int} (hn : 0 ≤ n) (h : ∀ i : Int, 0 ≤ i → i < n → 0 ≤ f i ∧ f i ≤ A) : 0 ≤ smI f n ∧ smI f n ≤ n * A := by
  have key : ∀ m : Nat, (∀ i : Int, 0 ≤ i → i < m → 0 ≤ f i ∧ f i ≤ A) → 0 ≤ sm f m ∧ sm f m ≤ m * A := by
    intro m
    induction m with
    | zero => intro _; simp [sm]
    | succ m ih =>
      intro h
      have h1 := ih (fun i h0 h1 => h i h0 (by omega))
      have h2 := h m (by omega) (by omega)
      rw [sm, show ((m + 1 : Nat) : Int) = m + 1 by omega, Int.add_mul]
      omega
  have := key n.toNat (fun i h0 h1 => h i h0 (by omega))
  rw [Int.toNat_of_nonneg hn] at this
  exact this
theorem areaS_b {n : Int} {P : Int → Int} (hn : 0 ≤ n ∧ n ≤ 8) (hP : ∀ i, 0 ≤ i → 0 < n → isPg (P i)) : -648 ≤ areaS n P ∧ areaS n P ≤ 648 := by
  have h := smI_b (f := fun i => sh (P i) (P (i + 1))) (A := 81) hn.1 (fun i h0 h1 => sh_b (hP i h0 (by omega)) (hP (i + 1) (by omega) (by omega)))
  unfold areaS
  omega
theorem onN_b {n : Int} {P : Int → Int} (hn : 0 ≤ n ∧ n ≤ 8) (hP : ∀ i, 0 ≤ i → 0 < n → isPg (P i)) : 0 ≤ onN n P ∧ onN n P ≤ 72 := by
  have h := smI_nn (f := fun i => pts (P i) (P (i + 1))) (A := 9) hn.1 (fun i h0 h1 => pts_b (hP i h0 (by omega)) (hP (i + 1) (by omega) (by omega)))
  unfold onN
  omega
theorem smI_bI {f : Int → Prop} {n : Int} (hn : 0 ≤ n) : 0 ≤ smI (fun i => bI (f i)) n ∧ smI (fun i => bI (f i)) n ≤ n := by
  have h := smI_nn (f := fun i => bI (f i)) (A := 1) hn (fun i _ _ => bI_b _)
  omega
theorem mt_b (a b c e : Int) : 0 ≤ mt a b c e ∧ mt a b c e ≤ 2 := by
  unfold mt
  split
  · decide
  · split <;> decide
theorem bAt_P {σ : jS} {k : Nat} (h : okB σ k) {b : Int} (h0 : 0 ≤ b) (h1 : b < 8) : ∀ i, 0 ≤ i → 0 < σ (k + 2) b → isPg (bAt σ k b i) := fun i hi hs => bAt_p h h0 h1 hs hi
theorem crT_b {x y a b : Int} (hx : 0 ≤ x ∧ x ≤ 18) (hy : 0 ≤ y ∧ y ≤ 18) (ha : isPg a) (hb : isPg b) : iR (crT x y (2 * (a % 10)) (2 * (a / 10)) (2 * (b % 10)) (2 * (b / 10))) := by
  have h1 := mulb (a := 2 * (b % 10) - 2 * (a % 10)) (b := y - 2 * (a / 10)) (A := 18) (B := 18) (by omega) (by omega) (by omega) (by omega)
  have h2 := mulb (a := 2 * (b / 10) - 2 * (a / 10)) (b := x - 2 * (a % 10)) (A := 18) (B := 18) (by omega) (by omega) (by omega) (by omega)
  unfold crT
  omega
theorem modb (s : Int) : s % 2 = bI (s % 2 = 1) := by
  rcases (show s % 2 = 0 ∨ s % 2 = 1 by omega) with q | q
  · rw [bI_f (by omega)]; exact q
  · rw [bI_t q]; exact q
set_option maxRecDepth 100000 in
set_option maxHeartbeats 4000000 in
theorem c_X0_has {σ : jS} {k : Nat} (hk : isBands k) (hB : okB σ k) {b : Int} (hb : iR b) : Jp 1 miX0_has [.ref k, vI b] σ (vI (bI (0 ≤ b ∧ b < σ k 0))) := by
  have hm := hB.1
  refine jm_ofF (Po := (jP (vI (bI (0 ≤ b ∧ b < σ k 0))) σ)) (plainFor_of_name (by decide)) (Nat.le_of_ble_eq_true rfl) (lv := [(0, _), (1, _)]) rfl ?_
  refine r_iload_n (dc dkX0_has 0 rfl) rfl (np 1 rfl ?_)
  refine r_if_lt (tgt := 22) (dc dkX0_has 1 rfl) rfl (by first | assumption | decide | omega) (fun h1 => ?_) (fun h1 => (np 4 rfl ?_))
  · skip
    refine r_iconst (dc dkX0_has 11 rfl) (np 23 rfl ?_)
    exact r_zret (dc dkX0_has 12 rfl) rfl (by first | exact Or.inl rfl | exact Or.inr rfl) ⟨congrArg (fun z => some (vI z)) (by first | exact (bI_t (by omega)).symm | exact (bI_f (by omega)).symm), rfl⟩
  refine r_iload_n (dc dkX0_has 2 rfl) rfl (np 5 rfl ?_)
  refine r_aload_n (dc dkX0_has 3 rfl) rfl (np 6 rfl ?_)
  refine r_gI 0 (dc dkX0_has 4 rfl) flX0_9 (fdBands_0 hk) rfl (np 9 rfl ?_)
  refine r_icmp_ge (tgt := 22) (dc dkX0_has 5 rfl) rfl (by first | assumption | decide | omega) (by first | assumption | decide | omega) (fun h9 => ?_) (fun h9 => (np 12 rfl ?_))
  · skip
    refine r_iconst (dc dkX0_has 11 rfl) (np 23 rfl ?_)
    exact r_zret (dc dkX0_has 12 rfl) rfl (by first | exact Or.inl rfl | exact Or.inr rfl) ⟨congrArg (fun z => some (vI z)) (by first | exact (bI_t (by omega)).symm | exact (bI_f (by omega)).symm), rfl⟩
  refine r_iload_n (dc dkX0_has 6 rfl) rfl (np 13 rfl ?_)
  refine r_bipush (dc dkX0_has 7 rfl) bp_8 (np 15 rfl ?_)
  refine r_icmp_ge (tgt := 22) (dc dkX0_has 8 rfl) rfl (by first | assumption | decide | omega) (by first | assumption | decide | omega) (fun h15 => ?_) (fun h15 => (np 18 rfl ?_))
  · skip
    refine r_iconst (dc dkX0_has 11 rfl) (np 23 rfl ?_)
    exact r_zret (dc dkX0_has 12 rfl) rfl (by first | exact Or.inl rfl | exact Or.inr rfl) ⟨congrArg (fun z => some (vI z)) (by first | exact (bI_t (by omega)).symm | exact (bI_f (by omega)).symm), rfl⟩
  refine r_iconst (dc dkX0_has 9 rfl) (np 19 rfl ?_)
  refine r_goto (tgt := 23) (dc dkX0_has 10 rfl) rfl ?_
  exact r_zret (dc dkX0_has 12 rfl) rfl (by first | exact Or.inl rfl | exact Or.inr rfl) ⟨congrArg (fun z => some (vI z)) (by first | exact (bI_t (by omega)).symm | exact (bI_f (by omega)).symm), rfl⟩
set_option maxRecDepth 100000 in
set_option maxHeartbeats 4000000 in
theorem c_X0_sizeOf {σ : jS} {k : Nat} (hk : isBands k) {b : Int} (h0 : 0 ≤ b) (h1 : b < 8) : Jp 1 miX0_sizeOf [.ref k, vI b] σ (vI (σ (k + 2) b)) := by
  refine jm_ofF (Po := (jP (vI (σ (k + 2) b)) σ)) (plainFor_of_name (by decide)) (Nat.le_of_ble_eq_true rfl) (lv := [(0, _), (1, _)]) rfl ?_
  refine r_iload_n (dc dkX0_sizeOf 0 rfl) rfl (np 1 rfl ?_)
  refine r_if_lt (tgt := 10) (dc dkX0_sizeOf 1 rfl) rfl (by first | assumption | decide | omega) (fun h1 => ?_) (fun h1 => (np 4 rfl ?_))
  · skip
    omega
  refine r_iload_n (dc dkX0_sizeOf 2 rfl) rfl (np 5 rfl ?_)
  refine r_bipush (dc dkX0_sizeOf 3 rfl) bp_8 (np 7 rfl ?_)
  refine r_icmp_lt (tgt := 14) (dc dkX0_sizeOf 4 rfl) rfl (by first | assumption | decide | omega) (by first | assumption | decide | omega) (fun h7 => ?_) (fun h7 => (np 10 rfl ?_))
  · skip
    refine r_aload_n (dc dkX0_sizeOf 7 rfl) rfl (np 15 rfl ?_)
    refine r_getR (dc dkX0_sizeOf 8 rfl) flX0_19 (fdBands_2 hk) (np 18 rfl ?_)
    refine r_iload_n (dc dkX0_sizeOf 9 rfl) rfl (np 19 rfl ?_)
    refine r_iald (dc dkX0_sizeOf 10 rfl) (arBands_2 hk) (by omega) (np 20 rfl ?_)
    exact r_iret (dc dkX0_sizeOf 11 rfl) rfl ⟨rfl, rfl⟩
  omega
set_option maxRecDepth 100000 in
set_option maxHeartbeats 4000000 in
theorem c_X0_hasCorner {σ : jS} {k : Nat} (hk : isBands k) (hB : okB σ k) {b i : Int} (hb : iR b) (hi : iR i) : Jp 2 miX0_hasCorner [.ref k, vI b, vI i] σ (vI (bI ((0 ≤ b ∧ b < σ k 0) ∧ 0 ≤ i ∧ i < σ (k + 2) b))) := by
  have hm := hB.1
  refine jm_ofF (Po := (jP (vI (bI ((0 ≤ b ∧ b < σ k 0) ∧ 0 ≤ i ∧ i < σ (k + 2) b))) σ)) (plainFor_of_name (by decide)) (Nat.le_of_ble_eq_true rfl) (lv := [(0, _), (1, _), (2, _)]) rfl ?_
  refine r_aload_n (dc dkX0_hasCorner 0 rfl) rfl (np 1 rfl ?_)
  refine r_iload_n (dc dkX0_hasCorner 1 rfl) rfl (np 2 rfl ?_)
  refine r_pV1 (y' := miX0_has) (dc dkX0_hasCorner 2 rfl) mlX0_31 ceX0_has (obBands hk) (Nat.le_of_ble_eq_true rfl) (Nat.le_of_ble_eq_true rfl) (c_X0_has hk (by assumption) (by omega)) (np 5 rfl ?_)
  refine r_bz (tgt := 25) (dc dkX0_hasCorner 3 rfl) rfl (fun h5 => ?_) (fun h5 => (np 8 rfl ?_))
  · skip
    refine r_iconst (dc dkX0_hasCorner 13 rfl) (np 26 rfl ?_)
    exact r_zret (dc dkX0_hasCorner 14 rfl) rfl (by first | exact Or.inl rfl | exact Or.inr rfl) ⟨congrArg (fun z => some (vI z)) (by first | exact (bI_t (by omega)).symm | exact (bI_f (by omega)).symm), rfl⟩
  refine r_iload_n (dc dkX0_hasCorner 4 rfl) rfl (np 9 rfl ?_)
  refine r_if_lt (tgt := 25) (dc dkX0_hasCorner 5 rfl) rfl (by first | assumption | decide | omega) (fun h9 => ?_) (fun h9 => (np 12 rfl ?_))
  · skip
    refine r_iconst (dc dkX0_hasCorner 13 rfl) (np 26 rfl ?_)
    exact r_zret (dc dkX0_hasCorner 14 rfl) rfl (by first | exact Or.inl rfl | exact Or.inr rfl) ⟨congrArg (fun z => some (vI z)) (by first | exact (bI_t (by omega)).symm | exact (bI_f (by omega)).symm), rfl⟩
  refine r_iload_n (dc dkX0_hasCorner 6 rfl) rfl (np 13 rfl ?_)
  refine r_aload_n (dc dkX0_hasCorner 7 rfl) rfl (np 14 rfl ?_)
  refine r_iload_n (dc dkX0_hasCorner 8 rfl) rfl (np 15 rfl ?_)
  refine r_pV1 (y' := miX0_sizeOf) (dc dkX0_hasCorner 9 rfl) mlX0_35 ceX0_sizeOf (obBands hk) (Nat.le_of_ble_eq_true rfl) (Nat.le_of_ble_eq_true rfl) (c_X0_sizeOf hk (by omega) (by omega)) (np 18 rfl ?_)
  refine r_icmp_ge (tgt := 25) (dc dkX0_hasCorner 10 rfl) rfl (by first | assumption | decide | omega) (by have := hB.2.1 b (by omega) (by omega); omega) (fun h18 => ?_) (fun h18 => (np 21 rfl ?_))
  · skip
    refine r_iconst (dc dkX0_hasCorner 13 rfl) (np 26 rfl ?_)
    exact r_zret (dc dkX0_hasCorner 14 rfl) rfl (by first | exact Or.inl rfl | exact Or.inr rfl) ⟨congrArg (fun z => some (vI z)) (by first | exact (bI_t (by omega)).symm | exact (bI_f (by omega)).symm), rfl⟩
  refine r_iconst (dc dkX0_hasCorner 11 rfl) (np 22 rfl ?_)
  refine r_goto (tgt := 26) (dc dkX0_hasCorner 12 rfl) rfl ?_
  exact r_zret (dc dkX0_hasCorner 14 rfl) rfl (by first | exact Or.inl rfl | exact Or.inr rfl) ⟨congrArg (fun z => some (vI z)) (by first | exact (bI_t (by omega)).symm | exact (bI_f (by omega)).symm), rfl⟩
set_option maxRecDepth 100000 in
set_option maxHeartbeats 4000000 in
theorem c_X0_at {σ : jS} {k : Nat} (hk : isBands k) (hB : okB σ k) {b : Int} (h0 : 0 ≤ b) (h1 : b < 8) {i : Int} (hi : 0 ≤ i ∧ i ≤ 1000) (hp : 0 < σ (k + 2) b) : Jp 1 miX0_at [.ref k, vI b, vI i] σ (vI (bAt σ k b i)) := by
  have hs := hB.2.1 b h0 h1
  refine jm_ofF (Po := (jP (vI (bAt σ k b i)) σ)) (plainFor_of_name (by decide)) (Nat.le_of_ble_eq_true rfl) (lv := [(0, _), (1, _), (2, _)]) rfl ?_
  refine r_iload_n (dc dkX0_at 0 rfl) rfl (np 1 rfl ?_)
  refine r_if_lt (tgt := 14) (dc dkX0_at 1 rfl) rfl (by first | assumption | decide | omega) (fun h1 => ?_) (fun h1 => (np 4 rfl ?_))
  · skip
    omega
  refine r_iload_n (dc dkX0_at 2 rfl) rfl (np 5 rfl ?_)
  refine r_bipush (dc dkX0_at 3 rfl) bp_8 (np 7 rfl ?_)
  refine r_icmp_ge (tgt := 14) (dc dkX0_at 4 rfl) rfl (by first | assumption | decide | omega) (by first | assumption | decide | omega) (fun h7 => ?_) (fun h7 => (np 10 rfl ?_))
  · skip
    omega
  refine r_iload_n (dc dkX0_at 5 rfl) rfl (np 11 rfl ?_)
  refine r_if_ge (tgt := 16) (dc dkX0_at 6 rfl) rfl (by first | assumption | decide | omega) (fun h11 => ?_) (fun h11 => (np 14 rfl ?_))
  · skip
    refine r_aload_n (dc dkX0_at 9 rfl) rfl (np 17 rfl ?_)
    refine r_getR (dc dkX0_at 10 rfl) flX0_19 (fdBands_2 hk) (np 20 rfl ?_)
    refine r_iload_n (dc dkX0_at 11 rfl) rfl (np 21 rfl ?_)
    refine r_iald (dc dkX0_at 12 rfl) (arBands_2 hk) (by omega) (np 22 rfl ?_)
    refine r_istore_n (lv' := [(3, _), (0, _), (1, _), (2, _)]) (dc dkX0_at 13 rfl) (Nat.le_of_ble_eq_true rfl) rfl (np 23 rfl ?_)
    refine r_iload_n (dc dkX0_at 14 rfl) rfl (np 24 rfl ?_)
    refine r_if_le (tgt := 33) (dc dkX0_at 15 rfl) rfl (by first | assumption | decide | omega) (fun h24 => ?_) (fun h24 => (np 27 rfl ?_))
    · skip
      omega
    refine r_iload_n (dc dkX0_at 16 rfl) rfl (np 28 rfl ?_)
    refine r_bipush (dc dkX0_at 17 rfl) bp_8 (np 30 rfl ?_)
    refine r_icmp_le (tgt := 37) (dc dkX0_at 18 rfl) rfl (by first | assumption | decide | omega) (by first | assumption | decide | omega) (fun h30 => ?_) (fun h30 => (np 33 rfl ?_))
    · skip
      refine r_aload_n (dc dkX0_at 21 rfl) rfl (np 38 rfl ?_)
      refine r_getR (dc dkX0_at 22 rfl) flX0_22 (fdBands_3 hk) (np 41 rfl ?_)
      refine r_iload_n (dc dkX0_at 23 rfl) rfl (np 42 rfl ?_)
      refine r_bipush (dc dkX0_at 24 rfl) bp_8 (np 44 rfl ?_)
      refine r_imul (dc dkX0_at 25 rfl) (np 45 rfl ?_)
      refine r_iload_n (dc dkX0_at 26 rfl) rfl (np 46 rfl ?_)
      refine r_iload_n (dc dkX0_at 27 rfl) rfl (np 47 rfl ?_)
      refine r_iremn (dc dkX0_at 28 rfl) (by first | assumption | decide | omega) (by first | assumption | decide | omega) (np 48 rfl ?_)
      refine r_iadd (dc dkX0_at 29 rfl) (np 49 rfl ?_)
      refine r_iald (dc dkX0_at 30 rfl) (arBands_3 hk) (by have := Int.emod_lt_of_pos i hp; have := Int.emod_nonneg i (show σ (k + 2) b ≠ 0 by omega); omega) (np 50 rfl ?_)
      exact r_iret (dc dkX0_at 31 rfl) rfl ⟨rfl, rfl⟩
    omega
  omega
set_option maxRecDepth 100000 in
set_option maxHeartbeats 4000000 in
theorem c_X0_withId {σ : jS} {k : Nat} (hk : isBands k) (hB : okB σ k) {d : Int} (hd : iR d) : Jp 1 miX0_withId [.ref k, vI d] σ (vI (fi (fun b => σ (k + 1) b = d ∧ ¬ d = -1) (σ k 0))) := by
  have hm := hB.1
  have hi := hB.2.2.2
  refine jm_ofF (Po := (jP (vI (fi (fun b => σ (k + 1) b = d ∧ ¬ d = -1) (σ k 0))) σ)) (plainFor_of_name (by decide)) (Nat.le_of_ble_eq_true rfl) (lv := [(0, _), (1, _)]) rfl ?_
  refine r_iconst (dc dkX0_withId 0 rfl) (np 1 rfl ?_)
  refine r_istore_n (lv' := [(2, _), (0, _), (1, _)]) (dc dkX0_withId 1 rfl) (Nat.le_of_ble_eq_true rfl) rfl (np 2 rfl ?_)
  refine r_pick [1, 2, 0] (lv' := [(0, _), (1, _), (2, _)]) rfl ?_
  refine jlp1 (P := fun (i : Int) => jR _ _ _ 2 [(0, .ref k), (1, vI d), (2, vI i)] [] σ) (I := fun (i : Int) => 0 ≤ i ∧ i ≤ σ k 0 ∧ fi (fun b => σ (k + 1) b = d ∧ ¬ d = -1) (σ k 0) = fiF (fun b => σ (k + 1) b = d ∧ ¬ d = -1) (σ k 0 - i).toNat i) (fun (i : Int) => (σ k 0 - i).toNat) ?_ _ ⟨by omega, by omega, fi_def _ _⟩
  intro i hI2 ih2
  refine r_iload_n (dc dkX0_withId 2 rfl) rfl (np 3 rfl ?_)
  refine r_aload_n (dc dkX0_withId 3 rfl) rfl (np 4 rfl ?_)
  refine r_gI 0 (dc dkX0_withId 4 rfl) flX0_9 (fdBands_0 hk) rfl (np 7 rfl ?_)
  refine r_icmp_ge (tgt := 39) (dc dkX0_withId 5 rfl) rfl (by first | assumption | decide | omega) (by first | assumption | decide | omega) (fun h7 => ?_) (fun h7 => (np 10 rfl ?_))
  · skip
    refine r_iconst (dc dkX0_withId 22 rfl) (np 40 rfl ?_)
    exact r_iret (dc dkX0_withId 23 rfl) rfl ⟨congrArg (fun z => some (vI z)) (by rw [hI2.2.2, fiF_e (by omega)]), rfl⟩
  refine r_iload_n (dc dkX0_withId 6 rfl) rfl (np 11 rfl ?_)
  refine r_bipush (dc dkX0_withId 7 rfl) bp_8 (np 13 rfl ?_)
  refine r_icmp_ge (tgt := 39) (dc dkX0_withId 8 rfl) rfl (by first | assumption | decide | omega) (by first | assumption | decide | omega) (fun h13 => ?_) (fun h13 => (np 16 rfl ?_))
  · skip
    refine r_iconst (dc dkX0_withId 22 rfl) (np 40 rfl ?_)
    exact r_iret (dc dkX0_withId 23 rfl) rfl ⟨congrArg (fun z => some (vI z)) (by rw [hI2.2.2, fiF_e (by omega)]), rfl⟩
  refine r_aload_n (dc dkX0_withId 9 rfl) rfl (np 17 rfl ?_)
  refine r_getR (dc dkX0_withId 10 rfl) flX0_15 (fdBands_1 hk) (np 20 rfl ?_)
  refine r_iload_n (dc dkX0_withId 11 rfl) rfl (np 21 rfl ?_)
  refine r_iald (dc dkX0_withId 12 rfl) (arBands_1 hk) (by omega) (np 22 rfl ?_)
  refine r_iload_n (dc dkX0_withId 13 rfl) rfl (np 23 rfl ?_)
  refine r_icmp_ne (tgt := 33) (dc dkX0_withId 14 rfl) rfl (by have := hi i (by omega) (by omega); omega) (by first | assumption | decide | omega) (fun h23 => ?_) (fun h23 => (np 26 rfl ?_))
  · skip
    refine r_iinc (lv' := [(2, _), (0, _), (1, _)]) (dc dkX0_withId 20 rfl) (Nat.le_of_ble_eq_true rfl) rfl rfl (np 36 rfl ?_)
    refine r_goto (tgt := 2) (dc dkX0_withId 21 rfl) rfl ?_
    refine r_pick [1, 2, 0] rfl ?_
    exact ih2 _ ⟨by omega, by omega, by rw [hI2.2.2, fiF_n (by omega) (by omega)]⟩ (by omega)
  refine r_iload_n (dc dkX0_withId 15 rfl) rfl (np 27 rfl ?_)
  refine r_iconst (dc dkX0_withId 16 rfl) (np 28 rfl ?_)
  refine r_icmp_eq (tgt := 33) (dc dkX0_withId 17 rfl) rfl (by first | assumption | decide | omega) (by first | assumption | decide | omega) (fun h28 => ?_) (fun h28 => (np 31 rfl ?_))
  · skip
    refine r_iinc (lv' := [(2, _), (0, _), (1, _)]) (dc dkX0_withId 20 rfl) (Nat.le_of_ble_eq_true rfl) rfl rfl (np 36 rfl ?_)
    refine r_goto (tgt := 2) (dc dkX0_withId 21 rfl) rfl ?_
    refine r_pick [1, 2, 0] rfl ?_
    exact ih2 _ ⟨by omega, by omega, by rw [hI2.2.2, fiF_n (by omega) (by omega)]⟩ (by omega)
  refine r_iload_n (dc dkX0_withId 18 rfl) rfl (np 32 rfl ?_)
  exact r_iret (dc dkX0_withId 19 rfl) rfl ⟨congrArg (fun z => some (vI z)) (by rw [hI2.2.2, fiF_t (by omega) (by omega)]), rfl⟩
set_option maxRecDepth 100000 in
set_option maxHeartbeats 4000000 in
theorem c_X0_signedArea {σ : jS} {k : Nat} (hk : isBands k) (hB : okB σ k) {b : Int} (h0 : 0 ≤ b) (h1 : b < 8) : Jp 2 miX0_signedArea [.ref k, vI b] σ (vI (areaS (σ (k + 2) b) (bAt σ k b))) := by
  have hs := hB.2.1 b h0 h1
  have hP := bAt_P hB h0 h1
  refine jm_ofF (Po := (jP (vI (areaS (σ (k + 2) b) (bAt σ k b))) σ)) (plainFor_of_name (by decide)) (Nat.le_of_ble_eq_true rfl) (lv := [(0, _), (1, _)]) rfl ?_
  refine r_iconst (dc dkX0_signedArea 0 rfl) (np 1 rfl ?_)
  refine r_istore_n (lv' := [(2, _), (0, _), (1, _)]) (dc dkX0_signedArea 1 rfl) (Nat.le_of_ble_eq_true rfl) rfl (np 2 rfl ?_)
  refine r_iconst (dc dkX0_signedArea 2 rfl) (np 3 rfl ?_)
  refine r_istore_n (lv' := [(3, _), (2, _), (0, _), (1, _)]) (dc dkX0_signedArea 3 rfl) (Nat.le_of_ble_eq_true rfl) rfl (np 4 rfl ?_)
  refine r_pick [2, 3, 1, 0] (lv' := [(0, _), (1, _), (2, _), (3, _)]) rfl ?_
  refine jlp2 (P := fun (s : Int) (i : Int) => jR _ _ _ 4 [(0, .ref k), (1, vI b), (2, vI s), (3, vI i)] [] σ) (I := fun (s : Int) (i : Int) => 0 ≤ i ∧ i ≤ (σ (k + 2) b) ∧ s = smI (fun i => sh (bAt σ k b i) (bAt σ k b (i + 1))) i) (fun (s : Int) (i : Int) => ((σ (k + 2) b) - i).toNat) ?_ _ _ ⟨by omega, by omega, rfl⟩
  intro s i hI4 ih4
  refine r_iload_n (dc dkX0_signedArea 4 rfl) rfl (np 5 rfl ?_)
  refine r_aload_n (dc dkX0_signedArea 5 rfl) rfl (np 6 rfl ?_)
  refine r_iload_n (dc dkX0_signedArea 6 rfl) rfl (np 7 rfl ?_)
  refine r_pV1 (y' := miX0_sizeOf) (dc dkX0_signedArea 7 rfl) mlX0_35 ceX0_sizeOf (obBands hk) (Nat.le_of_ble_eq_true rfl) (Nat.le_of_ble_eq_true rfl) (c_X0_sizeOf hk (by omega) (by omega)) (np 10 rfl ?_)
  refine r_icmp_ge (tgt := 39) (dc dkX0_signedArea 8 rfl) rfl (by first | assumption | decide | omega) (by first | assumption | decide | omega) (fun h10 => ?_) (fun h10 => (np 13 rfl ?_))
  · skip
    refine r_iload_n (dc dkX0_signedArea 25 rfl) rfl (np 40 rfl ?_)
    exact r_iret (dc dkX0_signedArea 26 rfl) rfl ⟨congrArg (fun z => some (vI z)) (by rw [hI4.2.2, show i = σ (k + 2) b by omega]; rfl), rfl⟩
  refine r_iload_n (dc dkX0_signedArea 9 rfl) rfl (np 14 rfl ?_)
  refine r_aload_n (dc dkX0_signedArea 10 rfl) rfl (np 15 rfl ?_)
  refine r_iload_n (dc dkX0_signedArea 11 rfl) rfl (np 16 rfl ?_)
  refine r_iload_n (dc dkX0_signedArea 12 rfl) rfl (np 17 rfl ?_)
  refine r_pV2 (y' := miX0_at) (dc dkX0_signedArea 13 rfl) mlX0_39 ceX0_at (obBands hk) (Nat.le_of_ble_eq_true rfl) (Nat.le_of_ble_eq_true rfl) (c_X0_at hk (by assumption) (by omega) (by omega) (by omega) (by omega)) (np 20 rfl ?_)
  refine r_aload_n (dc dkX0_signedArea 14 rfl) rfl (np 21 rfl ?_)
  refine r_iload_n (dc dkX0_signedArea 15 rfl) rfl (np 22 rfl ?_)
  refine r_iload_n (dc dkX0_signedArea 16 rfl) rfl (np 23 rfl ?_)
  refine r_iconst (dc dkX0_signedArea 17 rfl) (np 24 rfl ?_)
  refine r_iadd (dc dkX0_signedArea 18 rfl) (np 25 rfl ?_)
  refine r_pV2 (y' := miX0_at) (dc dkX0_signedArea 19 rfl) mlX0_39 ceX0_at (obBands hk) (Nat.le_of_ble_eq_true rfl) (Nat.le_of_ble_eq_true rfl) (c_X0_at hk (by assumption) (by omega) (by omega) (by omega) (by omega)) (np 28 rfl ?_)
  refine r_pS2 (y' := miX7_shoelace) (dc dkX0_signedArea 20 rfl) mlX0_47 seX7_shoelace (Nat.le_of_ble_eq_true rfl) (Nat.le_of_ble_eq_true rfl) (c_X7_shoelace (by first | assumption | exact hP _ (by omega) (by omega) | omega) (by first | assumption | exact hP _ (by omega) (by omega) | omega)) (np 31 rfl ?_)
  refine r_iadd (dc dkX0_signedArea 21 rfl) (np 32 rfl ?_)
  refine r_istore_n (lv' := [(2, _), (0, _), (1, _), (3, _)]) (dc dkX0_signedArea 22 rfl) (Nat.le_of_ble_eq_true rfl) rfl (np 33 rfl ?_)
  refine r_iinc (lv' := [(3, _), (2, _), (0, _), (1, _)]) (dc dkX0_signedArea 23 rfl) (Nat.le_of_ble_eq_true rfl) rfl rfl (np 36 rfl ?_)
  refine r_goto (tgt := 4) (dc dkX0_signedArea 24 rfl) rfl ?_
  refine r_pick [2, 3, 1, 0] rfl ?_
  exact ih4 _ _ ⟨by omega, by omega, by first | (rw [smI_s _ (by omega), ← hI4.2.2]; done) | (rw [smI_s _ (by omega), ← hI4.2.2, bI_t (by assumption)]; done) | rw [smI_s _ (by omega), ← hI4.2.2, bI_f (by assumption), Int.add_zero]⟩ (by omega)
set_option maxRecDepth 100000 in
set_option maxHeartbeats 4000000 in
theorem c_X0_areaOf {σ : jS} {k : Nat} (hk : isBands k) (hB : okB σ k) {b : Int} (h0 : 0 ≤ b) (h1 : b < 8) : Jp 3 miX0_areaOf [.ref k, vI b] σ (vI ((areaS (σ (k + 2) b) (bAt σ k b)).natAbs)) := by
  have hs := hB.2.1 b h0 h1
  have hP := bAt_P hB h0 h1
  have hA := areaS_b hs hP
  refine jm_ofF (Po := (jP (vI ((areaS (σ (k + 2) b) (bAt σ k b)).natAbs)) σ)) (plainFor_of_name (by decide)) (Nat.le_of_ble_eq_true rfl) (lv := [(0, _), (1, _)]) rfl ?_
  refine r_aload_n (dc dkX0_areaOf 0 rfl) rfl (np 1 rfl ?_)
  refine r_iload_n (dc dkX0_areaOf 1 rfl) rfl (np 2 rfl ?_)
  refine r_pV1 (y' := miX0_signedArea) (dc dkX0_areaOf 2 rfl) mlX0_52 ceX0_signedArea (obBands hk) (Nat.le_of_ble_eq_true rfl) (Nat.le_of_ble_eq_true rfl) (c_X0_signedArea hk (by assumption) (by omega) (by omega)) (np 5 rfl ?_)
  refine r_pS1 (y' := miJ9_abs_0f7a4) (dc dkX0_areaOf 3 rfl) mlX0_55 seJ9_abs_0f7a4 (Nat.le_of_ble_eq_true rfl) (Nat.le_of_ble_eq_true rfl) (c_J9_abs_0f7a4 (by omega)) (np 8 rfl ?_)
  exact r_iret (dc dkX0_areaOf 4 rfl) rfl ⟨rfl, rfl⟩
set_option maxRecDepth 100000 in
set_option maxHeartbeats 4000000 in
theorem c_X0_placesOn {σ : jS} {k : Nat} (hk : isBands k) (hB : okB σ k) {b : Int} (h0 : 0 ≤ b) (h1 : b < 8) : Jp 3 miX0_placesOn [.ref k, vI b] σ (vI (onN (σ (k + 2) b) (bAt σ k b))) := by
  have hs := hB.2.1 b h0 h1
  have hP := bAt_P hB h0 h1
  refine jm_ofF (Po := (jP (vI (onN (σ (k + 2) b) (bAt σ k b))) σ)) (plainFor_of_name (by decide)) (Nat.le_of_ble_eq_true rfl) (lv := [(0, _), (1, _)]) rfl ?_
  refine r_iconst (dc dkX0_placesOn 0 rfl) (np 1 rfl ?_)
  refine r_istore_n (lv' := [(2, _), (0, _), (1, _)]) (dc dkX0_placesOn 1 rfl) (Nat.le_of_ble_eq_true rfl) rfl (np 2 rfl ?_)
  refine r_iconst (dc dkX0_placesOn 2 rfl) (np 3 rfl ?_)
  refine r_istore_n (lv' := [(3, _), (2, _), (0, _), (1, _)]) (dc dkX0_placesOn 3 rfl) (Nat.le_of_ble_eq_true rfl) rfl (np 4 rfl ?_)
  refine r_pick [2, 3, 1, 0] (lv' := [(0, _), (1, _), (2, _), (3, _)]) rfl ?_
  refine jlp2 (P := fun (s : Int) (i : Int) => jR _ _ _ 4 [(0, .ref k), (1, vI b), (2, vI s), (3, vI i)] [] σ) (I := fun (s : Int) (i : Int) => 0 ≤ i ∧ i ≤ (σ (k + 2) b) ∧ s = smI (fun i => pts (bAt σ k b i) (bAt σ k b (i + 1))) i) (fun (s : Int) (i : Int) => ((σ (k + 2) b) - i).toNat) ?_ _ _ ⟨by omega, by omega, rfl⟩
  intro s i hI4 ih4
  refine r_iload_n (dc dkX0_placesOn 4 rfl) rfl (np 5 rfl ?_)
  refine r_aload_n (dc dkX0_placesOn 5 rfl) rfl (np 6 rfl ?_)
  refine r_iload_n (dc dkX0_placesOn 6 rfl) rfl (np 7 rfl ?_)
  refine r_pV1 (y' := miX0_sizeOf) (dc dkX0_placesOn 7 rfl) mlX0_35 ceX0_sizeOf (obBands hk) (Nat.le_of_ble_eq_true rfl) (Nat.le_of_ble_eq_true rfl) (c_X0_sizeOf hk (by omega) (by omega)) (np 10 rfl ?_)
  refine r_icmp_ge (tgt := 39) (dc dkX0_placesOn 8 rfl) rfl (by first | assumption | decide | omega) (by first | assumption | decide | omega) (fun h10 => ?_) (fun h10 => (np 13 rfl ?_))
  · skip
    refine r_iload_n (dc dkX0_placesOn 25 rfl) rfl (np 40 rfl ?_)
    exact r_iret (dc dkX0_placesOn 26 rfl) rfl ⟨congrArg (fun z => some (vI z)) (by rw [hI4.2.2, show i = σ (k + 2) b by omega]; rfl), rfl⟩
  refine r_iload_n (dc dkX0_placesOn 9 rfl) rfl (np 14 rfl ?_)
  refine r_aload_n (dc dkX0_placesOn 10 rfl) rfl (np 15 rfl ?_)
  refine r_iload_n (dc dkX0_placesOn 11 rfl) rfl (np 16 rfl ?_)
  refine r_iload_n (dc dkX0_placesOn 12 rfl) rfl (np 17 rfl ?_)
  refine r_pV2 (y' := miX0_at) (dc dkX0_placesOn 13 rfl) mlX0_39 ceX0_at (obBands hk) (Nat.le_of_ble_eq_true rfl) (Nat.le_of_ble_eq_true rfl) (c_X0_at hk (by assumption) (by omega) (by omega) (by omega) (by omega)) (np 20 rfl ?_)
  refine r_aload_n (dc dkX0_placesOn 14 rfl) rfl (np 21 rfl ?_)
  refine r_iload_n (dc dkX0_placesOn 15 rfl) rfl (np 22 rfl ?_)
  refine r_iload_n (dc dkX0_placesOn 16 rfl) rfl (np 23 rfl ?_)
  refine r_iconst (dc dkX0_placesOn 17 rfl) (np 24 rfl ?_)
  refine r_iadd (dc dkX0_placesOn 18 rfl) (np 25 rfl ?_)
  refine r_pV2 (y' := miX0_at) (dc dkX0_placesOn 19 rfl) mlX0_39 ceX0_at (obBands hk) (Nat.le_of_ble_eq_true rfl) (Nat.le_of_ble_eq_true rfl) (c_X0_at hk (by assumption) (by omega) (by omega) (by omega) (by omega)) (np 28 rfl ?_)
  refine r_pS2 (y' := miX7_parts) (dc dkX0_placesOn 20 rfl) mlX0_60 seX7_parts (Nat.le_of_ble_eq_true rfl) (Nat.le_of_ble_eq_true rfl) (c_X7_parts (by first | assumption | exact hP _ (by omega) (by omega) | omega) (by first | assumption | exact hP _ (by omega) (by omega) | omega)) (np 31 rfl ?_)
  refine r_iadd (dc dkX0_placesOn 21 rfl) (np 32 rfl ?_)
  refine r_istore_n (lv' := [(2, _), (0, _), (1, _), (3, _)]) (dc dkX0_placesOn 22 rfl) (Nat.le_of_ble_eq_true rfl) rfl (np 33 rfl ?_)
  refine r_iinc (lv' := [(3, _), (2, _), (0, _), (1, _)]) (dc dkX0_placesOn 23 rfl) (Nat.le_of_ble_eq_true rfl) rfl rfl (np 36 rfl ?_)
  refine r_goto (tgt := 4) (dc dkX0_placesOn 24 rfl) rfl ?_
  refine r_pick [2, 3, 1, 0] rfl ?_
  exact ih4 _ _ ⟨by omega, by omega, by first | (rw [smI_s _ (by omega), ← hI4.2.2]; done) | (rw [smI_s _ (by omega), ← hI4.2.2, bI_t (by assumption)]; done) | rw [smI_s _ (by omega), ← hI4.2.2, bI_f (by assumption), Int.add_zero]⟩ (by omega)
set_option maxRecDepth 100000 in
set_option maxHeartbeats 4000000 in
theorem c_X0_placesWithin {σ : jS} {k : Nat} (hk : isBands k) (hB : okB σ k) {b : Int} (h0 : 0 ≤ b) (h1 : b < 8) : Jp 4 miX0_placesWithin [.ref k, vI b] σ (vI (((areaS (σ (k + 2) b) (bAt σ k b)).natAbs - onN (σ (k + 2) b) (bAt σ k b) + 2).tdiv 2)) := by
  have hs := hB.2.1 b h0 h1
  have hP := bAt_P hB h0 h1
  have hA := areaS_b hs hP
  have hO := onN_b hs hP
  refine jm_ofF (Po := (jP (vI (((areaS (σ (k + 2) b) (bAt σ k b)).natAbs - onN (σ (k + 2) b) (bAt σ k b) + 2).tdiv 2)) σ)) (plainFor_of_name (by decide)) (Nat.le_of_ble_eq_true rfl) (lv := [(0, _), (1, _)]) rfl ?_
  refine r_aload_n (dc dkX0_placesWithin 0 rfl) rfl (np 1 rfl ?_)
  refine r_iload_n (dc dkX0_placesWithin 1 rfl) rfl (np 2 rfl ?_)
  refine r_pV1 (y' := miX0_areaOf) (dc dkX0_placesWithin 2 rfl) mlX0_63 ceX0_areaOf (obBands hk) (Nat.le_of_ble_eq_true rfl) (Nat.le_of_ble_eq_true rfl) (c_X0_areaOf hk (by assumption) (by omega) (by omega)) (np 5 rfl ?_)
  refine r_aload_n (dc dkX0_placesWithin 3 rfl) rfl (np 6 rfl ?_)
  refine r_iload_n (dc dkX0_placesWithin 4 rfl) rfl (np 7 rfl ?_)
  refine r_pV1 (y' := miX0_placesOn) (dc dkX0_placesWithin 5 rfl) mlX0_66 ceX0_placesOn (obBands hk) (Nat.le_of_ble_eq_true rfl) (Nat.le_of_ble_eq_true rfl) (c_X0_placesOn hk (by assumption) (by omega) (by omega)) (np 10 rfl ?_)
  refine r_isub (dc dkX0_placesWithin 6 rfl) (np 11 rfl ?_)
  refine r_iconst (dc dkX0_placesWithin 7 rfl) (np 12 rfl ?_)
  refine r_iadd (dc dkX0_placesWithin 8 rfl) (np 13 rfl ?_)
  refine r_iconst (dc dkX0_placesWithin 9 rfl) (np 14 rfl ?_)
  refine r_idiv (dc dkX0_placesWithin 10 rfl) (by first | assumption | decide | omega) (by first | assumption | decide | omega) (np 15 rfl ?_)
  exact r_iret (dc dkX0_placesWithin 11 rfl) rfl ⟨rfl, rfl⟩
set_option maxRecDepth 100000 in
set_option maxHeartbeats 4000000 in
theorem c_X0_bentIn {σ : jS} {k : Nat} (hk : isBands k) (hB : okB σ k) {b : Int} (h0 : 0 ≤ b) (h1 : b < 8) : Jp 3 miX0_bentIn [.ref k, vI b] σ (vI (bentN (σ (k + 2) b) (bAt σ k b))) := by
  have hs := hB.2.1 b h0 h1
  have hP := bAt_P hB h0 h1
  have hA := areaS_b hs hP
  refine jm_ofF (Po := (jP (vI (bentN (σ (k + 2) b) (bAt σ k b))) σ)) (plainFor_of_name (by decide)) (Nat.le_of_ble_eq_true rfl) (lv := [(0, _), (1, _)]) rfl ?_
  refine r_aload_n (dc dkX0_bentIn 0 rfl) rfl (np 1 rfl ?_)
  refine r_iload_n (dc dkX0_bentIn 1 rfl) rfl (np 2 rfl ?_)
  refine r_pV1 (y' := miX0_signedArea) (dc dkX0_bentIn 2 rfl) mlX0_52 ceX0_signedArea (obBands hk) (Nat.le_of_ble_eq_true rfl) (Nat.le_of_ble_eq_true rfl) (c_X0_signedArea hk (by assumption) (by omega) (by omega)) (np 5 rfl ?_)
  refine r_if_le (tgt := 12) (dc dkX0_bentIn 3 rfl) rfl (by first | assumption | decide | omega) (fun h5 => ?_) (fun h5 => (np 8 rfl ?_))
  · skip
    refine r_iconst (dc dkX0_bentIn 6 rfl) (np 13 rfl ?_)
    refine r_istore_n (lv' := [(2, _), (0, _), (1, _)]) (dc dkX0_bentIn 7 rfl) (Nat.le_of_ble_eq_true rfl) rfl (np 14 rfl ?_)
    refine r_iconst (dc dkX0_bentIn 8 rfl) (np 15 rfl ?_)
    refine r_istore_n (lv' := [(3, _), (2, _), (0, _), (1, _)]) (dc dkX0_bentIn 9 rfl) (Nat.le_of_ble_eq_true rfl) rfl (np 16 rfl ?_)
    refine r_iconst (dc dkX0_bentIn 10 rfl) (np 17 rfl ?_)
    refine r_istore (lv' := [(4, _), (3, _), (2, _), (0, _), (1, _)]) (dc dkX0_bentIn 11 rfl) (Nat.le_of_ble_eq_true rfl) rfl (np 19 rfl ?_)
    refine r_pick [3, 4, 2, 1, 0] (lv' := [(0, _), (1, _), (2, _), (3, _), (4, _)]) rfl ?_
    refine jlp2 (P := fun (s : Int) (i : Int) => jR _ _ _ 19 [(0, .ref k), (1, vI b), (2, vI (0)), (3, vI s), (4, vI i)] [] σ) (I := fun (s : Int) (i : Int) => 0 ≤ i ∧ i ≤ (σ (k + 2) b) ∧ s = smI (fun i => bI (¬ (0 < tn (bAt σ k b i) (bAt σ k b (i + 1)) (bAt σ k b (i + 2)) ↔ 0 < areaS (σ (k + 2) b) (bAt σ k b)))) i) (fun (s : Int) (i : Int) => ((σ (k + 2) b) - i).toNat) ?_ _ _ ⟨by omega, by omega, rfl⟩
    intro s i hI19 ih19
    refine r_iload (dc dkX0_bentIn 12 rfl) rfl (np 21 rfl ?_)
    refine r_aload_n (dc dkX0_bentIn 13 rfl) rfl (np 22 rfl ?_)
    refine r_iload_n (dc dkX0_bentIn 14 rfl) rfl (np 23 rfl ?_)
    refine r_pV1 (y' := miX0_sizeOf) (dc dkX0_bentIn 15 rfl) mlX0_35 ceX0_sizeOf (obBands hk) (Nat.le_of_ble_eq_true rfl) (Nat.le_of_ble_eq_true rfl) (c_X0_sizeOf hk (by omega) (by omega)) (np 26 rfl ?_)
    refine r_icmp_ge (tgt := 78) (dc dkX0_bentIn 16 rfl) rfl (by first | assumption | decide | omega) (by first | assumption | decide | omega) (fun h26 => ?_) (fun h26 => (np 29 rfl ?_))
    · skip
      refine r_iload_n (dc dkX0_bentIn 43 rfl) rfl (np 79 rfl ?_)
      exact r_iret (dc dkX0_bentIn 44 rfl) rfl ⟨congrArg (fun z => some (vI z)) (by rw [hI19.2.2, show i = σ (k + 2) b by omega]; rfl), rfl⟩
    refine r_aload_n (dc dkX0_bentIn 17 rfl) rfl (np 30 rfl ?_)
    refine r_iload_n (dc dkX0_bentIn 18 rfl) rfl (np 31 rfl ?_)
    refine r_iload (dc dkX0_bentIn 19 rfl) rfl (np 33 rfl ?_)
    refine r_pV2 (y' := miX0_at) (dc dkX0_bentIn 20 rfl) mlX0_39 ceX0_at (obBands hk) (Nat.le_of_ble_eq_true rfl) (Nat.le_of_ble_eq_true rfl) (c_X0_at hk (by assumption) (by omega) (by omega) (by omega) (by omega)) (np 36 rfl ?_)
    refine r_aload_n (dc dkX0_bentIn 21 rfl) rfl (np 37 rfl ?_)
    refine r_iload_n (dc dkX0_bentIn 22 rfl) rfl (np 38 rfl ?_)
    refine r_iload (dc dkX0_bentIn 23 rfl) rfl (np 40 rfl ?_)
    refine r_iconst (dc dkX0_bentIn 24 rfl) (np 41 rfl ?_)
    refine r_iadd (dc dkX0_bentIn 25 rfl) (np 42 rfl ?_)
    refine r_pV2 (y' := miX0_at) (dc dkX0_bentIn 26 rfl) mlX0_39 ceX0_at (obBands hk) (Nat.le_of_ble_eq_true rfl) (Nat.le_of_ble_eq_true rfl) (c_X0_at hk (by assumption) (by omega) (by omega) (by omega) (by omega)) (np 45 rfl ?_)
    refine r_aload_n (dc dkX0_bentIn 27 rfl) rfl (np 46 rfl ?_)
    refine r_iload_n (dc dkX0_bentIn 28 rfl) rfl (np 47 rfl ?_)
    refine r_iload (dc dkX0_bentIn 29 rfl) rfl (np 49 rfl ?_)
    refine r_iconst (dc dkX0_bentIn 30 rfl) (np 50 rfl ?_)
    refine r_iadd (dc dkX0_bentIn 31 rfl) (np 51 rfl ?_)
    refine r_pV2 (y' := miX0_at) (dc dkX0_bentIn 32 rfl) mlX0_39 ceX0_at (obBands hk) (Nat.le_of_ble_eq_true rfl) (Nat.le_of_ble_eq_true rfl) (c_X0_at hk (by assumption) (by omega) (by omega) (by omega) (by omega)) (np 54 rfl ?_)
    refine r_pS3 (y' := miX7_turn) (dc dkX0_bentIn 33 rfl) mlX0_69 seX7_turn (Nat.le_of_ble_eq_true rfl) (Nat.le_of_ble_eq_true rfl) (c_X7_turn (by first | assumption | exact hP _ (by omega) (by omega) | omega) (by first | assumption | exact hP _ (by omega) (by omega) | omega) (by first | assumption | exact hP _ (by omega) (by omega) | omega)) (np 57 rfl ?_)
    refine r_if_le (tgt := 64) (dc dkX0_bentIn 34 rfl) rfl (tn_R (hP _ (by omega) (by omega)) (hP _ (by omega) (by omega)) (hP _ (by omega) (by omega))) (fun h57 => ?_) (fun h57 => (np 60 rfl ?_))
    · skip
      refine r_iconst (dc dkX0_bentIn 37 rfl) (np 65 rfl ?_)
      refine r_iload_n (dc dkX0_bentIn 38 rfl) rfl (np 66 rfl ?_)
      refine r_icmp_eq (tgt := 72) (dc dkX0_bentIn 39 rfl) rfl (by first | assumption | decide | omega) (by first | assumption | decide | omega) (fun h66 => ?_) (fun h66 => (np 69 rfl ?_))
      · skip
        refine r_iinc (lv' := [(4, _), (0, _), (1, _), (2, _), (3, _)]) (dc dkX0_bentIn 41 rfl) (Nat.le_of_ble_eq_true rfl) rfl rfl (np 75 rfl ?_)
        refine r_goto (tgt := 19) (dc dkX0_bentIn 42 rfl) rfl ?_
        refine r_pick [1, 2, 3, 4, 0] rfl ?_
        exact ih19 _ _ ⟨by omega, by omega, by first | (rw [smI_s _ (by omega), ← hI19.2.2, bI_t (by omega)]; done) | rw [smI_s _ (by omega), ← hI19.2.2, bI_f (by omega), Int.add_zero]⟩ (by omega)
      exact absurd h66 (by decide)
    refine r_iconst (dc dkX0_bentIn 35 rfl) (np 61 rfl ?_)
    refine r_goto (tgt := 65) (dc dkX0_bentIn 36 rfl) rfl ?_
    refine r_iload_n (dc dkX0_bentIn 38 rfl) rfl (np 66 rfl ?_)
    refine r_icmp_eq (tgt := 72) (dc dkX0_bentIn 39 rfl) rfl (by first | assumption | decide | omega) (by first | assumption | decide | omega) (fun h66 => ?_) (fun h66 => (np 69 rfl ?_))
    · exact absurd h66 (by decide)
    refine r_iinc (lv' := [(3, _), (0, _), (1, _), (2, _), (4, _)]) (dc dkX0_bentIn 40 rfl) (Nat.le_of_ble_eq_true rfl) rfl rfl (np 72 rfl ?_)
    refine r_iinc (lv' := [(4, _), (3, _), (0, _), (1, _), (2, _)]) (dc dkX0_bentIn 41 rfl) (Nat.le_of_ble_eq_true rfl) rfl rfl (np 75 rfl ?_)
    refine r_goto (tgt := 19) (dc dkX0_bentIn 42 rfl) rfl ?_
    refine r_pick [2, 3, 4, 1, 0] rfl ?_
    exact ih19 _ _ ⟨by omega, by omega, by first | (rw [smI_s _ (by omega), ← hI19.2.2, bI_t (by omega)]; done) | rw [smI_s _ (by omega), ← hI19.2.2, bI_f (by omega), Int.add_zero]⟩ (by omega)
  refine r_iconst (dc dkX0_bentIn 4 rfl) (np 9 rfl ?_)
  refine r_goto (tgt := 13) (dc dkX0_bentIn 5 rfl) rfl ?_
  refine r_istore_n (lv' := [(2, _), (0, _), (1, _)]) (dc dkX0_bentIn 7 rfl) (Nat.le_of_ble_eq_true rfl) rfl (np 14 rfl ?_)
  refine r_iconst (dc dkX0_bentIn 8 rfl) (np 15 rfl ?_)
  refine r_istore_n (lv' := [(3, _), (2, _), (0, _), (1, _)]) (dc dkX0_bentIn 9 rfl) (Nat.le_of_ble_eq_true rfl) rfl (np 16 rfl ?_)
  refine r_iconst (dc dkX0_bentIn 10 rfl) (np 17 rfl ?_)
  refine r_istore (lv' := [(4, _), (3, _), (2, _), (0, _), (1, _)]) (dc dkX0_bentIn 11 rfl) (Nat.le_of_ble_eq_true rfl) rfl (np 19 rfl ?_)
  refine r_pick [3, 4, 2, 1, 0] (lv' := [(0, _), (1, _), (2, _), (3, _), (4, _)]) rfl ?_
  refine jlp2 (P := fun (s : Int) (i : Int) => jR _ _ _ 19 [(0, .ref k), (1, vI b), (2, vI (1)), (3, vI s), (4, vI i)] [] σ) (I := fun (s : Int) (i : Int) => 0 ≤ i ∧ i ≤ (σ (k + 2) b) ∧ s = smI (fun i => bI (¬ (0 < tn (bAt σ k b i) (bAt σ k b (i + 1)) (bAt σ k b (i + 2)) ↔ 0 < areaS (σ (k + 2) b) (bAt σ k b)))) i) (fun (s : Int) (i : Int) => ((σ (k + 2) b) - i).toNat) ?_ _ _ ⟨by omega, by omega, rfl⟩
  intro s i hI19 ih19
  refine r_iload (dc dkX0_bentIn 12 rfl) rfl (np 21 rfl ?_)
  refine r_aload_n (dc dkX0_bentIn 13 rfl) rfl (np 22 rfl ?_)
  refine r_iload_n (dc dkX0_bentIn 14 rfl) rfl (np 23 rfl ?_)
  refine r_pV1 (y' := miX0_sizeOf) (dc dkX0_bentIn 15 rfl) mlX0_35 ceX0_sizeOf (obBands hk) (Nat.le_of_ble_eq_true rfl) (Nat.le_of_ble_eq_true rfl) (c_X0_sizeOf hk (by omega) (by omega)) (np 26 rfl ?_)
  refine r_icmp_ge (tgt := 78) (dc dkX0_bentIn 16 rfl) rfl (by first | assumption | decide | omega) (by first | assumption | decide | omega) (fun h26 => ?_) (fun h26 => (np 29 rfl ?_))
  · skip
    refine r_iload_n (dc dkX0_bentIn 43 rfl) rfl (np 79 rfl ?_)
    exact r_iret (dc dkX0_bentIn 44 rfl) rfl ⟨congrArg (fun z => some (vI z)) (by rw [hI19.2.2, show i = σ (k + 2) b by omega]; rfl), rfl⟩
  refine r_aload_n (dc dkX0_bentIn 17 rfl) rfl (np 30 rfl ?_)
  refine r_iload_n (dc dkX0_bentIn 18 rfl) rfl (np 31 rfl ?_)
  refine r_iload (dc dkX0_bentIn 19 rfl) rfl (np 33 rfl ?_)
  refine r_pV2 (y' := miX0_at) (dc dkX0_bentIn 20 rfl) mlX0_39 ceX0_at (obBands hk) (Nat.le_of_ble_eq_true rfl) (Nat.le_of_ble_eq_true rfl) (c_X0_at hk (by assumption) (by omega) (by omega) (by omega) (by omega)) (np 36 rfl ?_)
  refine r_aload_n (dc dkX0_bentIn 21 rfl) rfl (np 37 rfl ?_)
  refine r_iload_n (dc dkX0_bentIn 22 rfl) rfl (np 38 rfl ?_)
  refine r_iload (dc dkX0_bentIn 23 rfl) rfl (np 40 rfl ?_)
  refine r_iconst (dc dkX0_bentIn 24 rfl) (np 41 rfl ?_)
  refine r_iadd (dc dkX0_bentIn 25 rfl) (np 42 rfl ?_)
  refine r_pV2 (y' := miX0_at) (dc dkX0_bentIn 26 rfl) mlX0_39 ceX0_at (obBands hk) (Nat.le_of_ble_eq_true rfl) (Nat.le_of_ble_eq_true rfl) (c_X0_at hk (by assumption) (by omega) (by omega) (by omega) (by omega)) (np 45 rfl ?_)
  refine r_aload_n (dc dkX0_bentIn 27 rfl) rfl (np 46 rfl ?_)
  refine r_iload_n (dc dkX0_bentIn 28 rfl) rfl (np 47 rfl ?_)
  refine r_iload (dc dkX0_bentIn 29 rfl) rfl (np 49 rfl ?_)
  refine r_iconst (dc dkX0_bentIn 30 rfl) (np 50 rfl ?_)
  refine r_iadd (dc dkX0_bentIn 31 rfl) (np 51 rfl ?_)
  refine r_pV2 (y' := miX0_at) (dc dkX0_bentIn 32 rfl) mlX0_39 ceX0_at (obBands hk) (Nat.le_of_ble_eq_true rfl) (Nat.le_of_ble_eq_true rfl) (c_X0_at hk (by assumption) (by omega) (by omega) (by omega) (by omega)) (np 54 rfl ?_)
  refine r_pS3 (y' := miX7_turn) (dc dkX0_bentIn 33 rfl) mlX0_69 seX7_turn (Nat.le_of_ble_eq_true rfl) (Nat.le_of_ble_eq_true rfl) (c_X7_turn (by first | assumption | exact hP _ (by omega) (by omega) | omega) (by first | assumption | exact hP _ (by omega) (by omega) | omega) (by first | assumption | exact hP _ (by omega) (by omega) | omega)) (np 57 rfl ?_)
  refine r_if_le (tgt := 64) (dc dkX0_bentIn 34 rfl) rfl (tn_R (hP _ (by omega) (by omega)) (hP _ (by omega) (by omega)) (hP _ (by omega) (by omega))) (fun h57 => ?_) (fun h57 => (np 60 rfl ?_))
  · skip
    refine r_iconst (dc dkX0_bentIn 37 rfl) (np 65 rfl ?_)
    refine r_iload_n (dc dkX0_bentIn 38 rfl) rfl (np 66 rfl ?_)
    refine r_icmp_eq (tgt := 72) (dc dkX0_bentIn 39 rfl) rfl (by first | assumption | decide | omega) (by first | assumption | decide | omega) (fun h66 => ?_) (fun h66 => (np 69 rfl ?_))
    · exact absurd h66 (by decide)
    refine r_iinc (lv' := [(3, _), (0, _), (1, _), (2, _), (4, _)]) (dc dkX0_bentIn 40 rfl) (Nat.le_of_ble_eq_true rfl) rfl rfl (np 72 rfl ?_)
    refine r_iinc (lv' := [(4, _), (3, _), (0, _), (1, _), (2, _)]) (dc dkX0_bentIn 41 rfl) (Nat.le_of_ble_eq_true rfl) rfl rfl (np 75 rfl ?_)
    refine r_goto (tgt := 19) (dc dkX0_bentIn 42 rfl) rfl ?_
    refine r_pick [2, 3, 4, 1, 0] rfl ?_
    exact ih19 _ _ ⟨by omega, by omega, by first | (rw [smI_s _ (by omega), ← hI19.2.2, bI_t (by omega)]; done) | rw [smI_s _ (by omega), ← hI19.2.2, bI_f (by omega), Int.add_zero]⟩ (by omega)
  refine r_iconst (dc dkX0_bentIn 35 rfl) (np 61 rfl ?_)
  refine r_goto (tgt := 65) (dc dkX0_bentIn 36 rfl) rfl ?_
  refine r_iload_n (dc dkX0_bentIn 38 rfl) rfl (np 66 rfl ?_)
  refine r_icmp_eq (tgt := 72) (dc dkX0_bentIn 39 rfl) rfl (by first | assumption | decide | omega) (by first | assumption | decide | omega) (fun h66 => ?_) (fun h66 => (np 69 rfl ?_))
  · skip
    refine r_iinc (lv' := [(4, _), (0, _), (1, _), (2, _), (3, _)]) (dc dkX0_bentIn 41 rfl) (Nat.le_of_ble_eq_true rfl) rfl rfl (np 75 rfl ?_)
    refine r_goto (tgt := 19) (dc dkX0_bentIn 42 rfl) rfl ?_
    refine r_pick [1, 2, 3, 4, 0] rfl ?_
    exact ih19 _ _ ⟨by omega, by omega, by first | (rw [smI_s _ (by omega), ← hI19.2.2, bI_t (by omega)]; done) | rw [smI_s _ (by omega), ← hI19.2.2, bI_f (by omega), Int.add_zero]⟩ (by omega)
  exact absurd h66 (by decide)
set_option maxRecDepth 100000 in
set_option maxHeartbeats 4000000 in
theorem c_X0_rightOnes {σ : jS} {k : Nat} (hk : isBands k) (hB : okB σ k) {b : Int} (h0 : 0 ≤ b) (h1 : b < 8) : Jp 3 miX0_rightOnes [.ref k, vI b] σ (vI (rightN (σ (k + 2) b) (bAt σ k b))) := by
  have hs := hB.2.1 b h0 h1
  have hP := bAt_P hB h0 h1
  refine jm_ofF (Po := (jP (vI (rightN (σ (k + 2) b) (bAt σ k b))) σ)) (plainFor_of_name (by decide)) (Nat.le_of_ble_eq_true rfl) (lv := [(0, _), (1, _)]) rfl ?_
  refine r_iconst (dc dkX0_rightOnes 0 rfl) (np 1 rfl ?_)
  refine r_istore_n (lv' := [(2, _), (0, _), (1, _)]) (dc dkX0_rightOnes 1 rfl) (Nat.le_of_ble_eq_true rfl) rfl (np 2 rfl ?_)
  refine r_iconst (dc dkX0_rightOnes 2 rfl) (np 3 rfl ?_)
  refine r_istore_n (lv' := [(3, _), (2, _), (0, _), (1, _)]) (dc dkX0_rightOnes 3 rfl) (Nat.le_of_ble_eq_true rfl) rfl (np 4 rfl ?_)
  refine r_pick [2, 3, 1, 0] (lv' := [(0, _), (1, _), (2, _), (3, _)]) rfl ?_
  refine jlp2 (P := fun (s : Int) (i : Int) => jR _ _ _ 4 [(0, .ref k), (1, vI b), (2, vI s), (3, vI i)] [] σ) (I := fun (s : Int) (i : Int) => 0 ≤ i ∧ i ≤ (σ (k + 2) b) ∧ s = smI (fun i => bI (al (bAt σ k b (i + 1)) (bAt σ k b i) (bAt σ k b (i + 2)) = 0)) i) (fun (s : Int) (i : Int) => ((σ (k + 2) b) - i).toNat) ?_ _ _ ⟨by omega, by omega, rfl⟩
  intro s i hI4 ih4
  refine r_iload_n (dc dkX0_rightOnes 4 rfl) rfl (np 5 rfl ?_)
  refine r_aload_n (dc dkX0_rightOnes 5 rfl) rfl (np 6 rfl ?_)
  refine r_iload_n (dc dkX0_rightOnes 6 rfl) rfl (np 7 rfl ?_)
  refine r_pV1 (y' := miX0_sizeOf) (dc dkX0_rightOnes 7 rfl) mlX0_35 ceX0_sizeOf (obBands hk) (Nat.le_of_ble_eq_true rfl) (Nat.le_of_ble_eq_true rfl) (c_X0_sizeOf hk (by omega) (by omega)) (np 10 rfl ?_)
  refine r_icmp_ge (tgt := 50) (dc dkX0_rightOnes 8 rfl) rfl (by first | assumption | decide | omega) (by first | assumption | decide | omega) (fun h10 => ?_) (fun h10 => (np 13 rfl ?_))
  · skip
    refine r_iload_n (dc dkX0_rightOnes 30 rfl) rfl (np 51 rfl ?_)
    exact r_iret (dc dkX0_rightOnes 31 rfl) rfl ⟨congrArg (fun z => some (vI z)) (by rw [hI4.2.2, show i = σ (k + 2) b by omega]; rfl), rfl⟩
  refine r_aload_n (dc dkX0_rightOnes 9 rfl) rfl (np 14 rfl ?_)
  refine r_iload_n (dc dkX0_rightOnes 10 rfl) rfl (np 15 rfl ?_)
  refine r_iload_n (dc dkX0_rightOnes 11 rfl) rfl (np 16 rfl ?_)
  refine r_iconst (dc dkX0_rightOnes 12 rfl) (np 17 rfl ?_)
  refine r_iadd (dc dkX0_rightOnes 13 rfl) (np 18 rfl ?_)
  refine r_pV2 (y' := miX0_at) (dc dkX0_rightOnes 14 rfl) mlX0_39 ceX0_at (obBands hk) (Nat.le_of_ble_eq_true rfl) (Nat.le_of_ble_eq_true rfl) (c_X0_at hk (by assumption) (by omega) (by omega) (by omega) (by omega)) (np 21 rfl ?_)
  refine r_aload_n (dc dkX0_rightOnes 15 rfl) rfl (np 22 rfl ?_)
  refine r_iload_n (dc dkX0_rightOnes 16 rfl) rfl (np 23 rfl ?_)
  refine r_iload_n (dc dkX0_rightOnes 17 rfl) rfl (np 24 rfl ?_)
  refine r_pV2 (y' := miX0_at) (dc dkX0_rightOnes 18 rfl) mlX0_39 ceX0_at (obBands hk) (Nat.le_of_ble_eq_true rfl) (Nat.le_of_ble_eq_true rfl) (c_X0_at hk (by assumption) (by omega) (by omega) (by omega) (by omega)) (np 27 rfl ?_)
  refine r_aload_n (dc dkX0_rightOnes 19 rfl) rfl (np 28 rfl ?_)
  refine r_iload_n (dc dkX0_rightOnes 20 rfl) rfl (np 29 rfl ?_)
  refine r_iload_n (dc dkX0_rightOnes 21 rfl) rfl (np 30 rfl ?_)
  refine r_iconst (dc dkX0_rightOnes 22 rfl) (np 31 rfl ?_)
  refine r_iadd (dc dkX0_rightOnes 23 rfl) (np 32 rfl ?_)
  refine r_pV2 (y' := miX0_at) (dc dkX0_rightOnes 24 rfl) mlX0_39 ceX0_at (obBands hk) (Nat.le_of_ble_eq_true rfl) (Nat.le_of_ble_eq_true rfl) (c_X0_at hk (by assumption) (by omega) (by omega) (by omega) (by omega)) (np 35 rfl ?_)
  refine r_pS3 (y' := miX7_along) (dc dkX0_rightOnes 25 rfl) mlX0_73 seX7_along (Nat.le_of_ble_eq_true rfl) (Nat.le_of_ble_eq_true rfl) (c_X7_along (by first | assumption | exact hP _ (by omega) (by omega) | omega) (by first | assumption | exact hP _ (by omega) (by omega) | omega) (by first | assumption | exact hP _ (by omega) (by omega) | omega)) (np 38 rfl ?_)
  refine r_if_ne (tgt := 44) (dc dkX0_rightOnes 26 rfl) rfl (al_R (hP _ (by omega) (by omega)) (hP _ (by omega) (by omega)) (hP _ (by omega) (by omega))) (fun h38 => ?_) (fun h38 => (np 41 rfl ?_))
  · skip
    refine r_iinc (lv' := [(3, _), (0, _), (1, _), (2, _)]) (dc dkX0_rightOnes 28 rfl) (Nat.le_of_ble_eq_true rfl) rfl rfl (np 47 rfl ?_)
    refine r_goto (tgt := 4) (dc dkX0_rightOnes 29 rfl) rfl ?_
    refine r_pick [1, 2, 3, 0] rfl ?_
    exact ih4 _ _ ⟨by omega, by omega, by first | (rw [smI_s _ (by omega), ← hI4.2.2]; done) | (rw [smI_s _ (by omega), ← hI4.2.2, bI_t (by assumption)]; done) | rw [smI_s _ (by omega), ← hI4.2.2, bI_f (by assumption), Int.add_zero]⟩ (by omega)
  refine r_iinc (lv' := [(2, _), (0, _), (1, _), (3, _)]) (dc dkX0_rightOnes 27 rfl) (Nat.le_of_ble_eq_true rfl) rfl rfl (np 44 rfl ?_)
  refine r_iinc (lv' := [(3, _), (2, _), (0, _), (1, _)]) (dc dkX0_rightOnes 28 rfl) (Nat.le_of_ble_eq_true rfl) rfl rfl (np 47 rfl ?_)
  refine r_goto (tgt := 4) (dc dkX0_rightOnes 29 rfl) rfl ?_
  refine r_pick [2, 3, 1, 0] rfl ?_
  exact ih4 _ _ ⟨by omega, by omega, by first | (rw [smI_s _ (by omega), ← hI4.2.2]; done) | (rw [smI_s _ (by omega), ← hI4.2.2, bI_t (by assumption)]; done) | rw [smI_s _ (by omega), ← hI4.2.2, bI_f (by assumption), Int.add_zero]⟩ (by omega)
set_option maxRecDepth 100000 in
set_option maxHeartbeats 4000000 in
theorem c_X0_holdsOn {σ : jS} {k : Nat} (hk : isBands k) (hB : okB σ k) {b : Int} (h0 : 0 ≤ b) (h1 : b < 8) {p : Int} (hp : isPg p) : Jp 3 miX0_holdsOn [.ref k, vI b, vI p] σ (vI (bI (isOnB (σ (k + 2) b) (bAt σ k b) p))) := by
  have hs := hB.2.1 b h0 h1
  have hP := bAt_P hB h0 h1
  refine jm_ofF (Po := (jP (vI (bI (isOnB (σ (k + 2) b) (bAt σ k b) p))) σ)) (plainFor_of_name (by decide)) (Nat.le_of_ble_eq_true rfl) (lv := [(0, _), (1, _), (2, _)]) rfl ?_
  refine r_iconst (dc dkX0_holdsOn 0 rfl) (np 1 rfl ?_)
  refine r_istore_n (lv' := [(3, _), (0, _), (1, _), (2, _)]) (dc dkX0_holdsOn 1 rfl) (Nat.le_of_ble_eq_true rfl) rfl (np 2 rfl ?_)
  refine r_pick [1, 2, 3, 0] (lv' := [(0, _), (1, _), (2, _), (3, _)]) rfl ?_
  refine jlp1 (P := fun (i : Int) => jR _ _ _ 2 [(0, .ref k), (1, vI b), (2, vI p), (3, vI i)] [] σ) (I := fun (i : Int) => 0 ≤ i ∧ i ≤ (σ (k + 2) b) ∧ ∀ j, 0 ≤ j → j < i → ¬ onS p (bAt σ k b j) (bAt σ k b (j + 1))) (fun (i : Int) => ((σ (k + 2) b) - i).toNat) ?_ _ ⟨by omega, by omega, fun j _ _ => by omega⟩
  intro i hI2 ih2
  refine r_iload_n (dc dkX0_holdsOn 2 rfl) rfl (np 3 rfl ?_)
  refine r_aload_n (dc dkX0_holdsOn 3 rfl) rfl (np 4 rfl ?_)
  refine r_iload_n (dc dkX0_holdsOn 4 rfl) rfl (np 5 rfl ?_)
  refine r_pV1 (y' := miX0_sizeOf) (dc dkX0_holdsOn 5 rfl) mlX0_35 ceX0_sizeOf (obBands hk) (Nat.le_of_ble_eq_true rfl) (Nat.le_of_ble_eq_true rfl) (c_X0_sizeOf hk (by omega) (by omega)) (np 8 rfl ?_)
  refine r_icmp_ge (tgt := 40) (dc dkX0_holdsOn 6 rfl) rfl (by first | assumption | decide | omega) (by first | assumption | decide | omega) (fun h8 => ?_) (fun h8 => (np 11 rfl ?_))
  · skip
    refine r_iconst (dc dkX0_holdsOn 24 rfl) (np 41 rfl ?_)
    exact r_zret (dc dkX0_holdsOn 25 rfl) rfl (by first | exact Or.inl rfl | exact Or.inr rfl) ⟨congrArg (fun z => some (vI z)) ((bI_f (fun ⟨j, g0, g1, g2⟩ => hI2.2.2 j g0 (by omega) g2)).symm), rfl⟩
  refine r_iload_n (dc dkX0_holdsOn 7 rfl) rfl (np 12 rfl ?_)
  refine r_aload_n (dc dkX0_holdsOn 8 rfl) rfl (np 13 rfl ?_)
  refine r_iload_n (dc dkX0_holdsOn 9 rfl) rfl (np 14 rfl ?_)
  refine r_iload_n (dc dkX0_holdsOn 10 rfl) rfl (np 15 rfl ?_)
  refine r_pV2 (y' := miX0_at) (dc dkX0_holdsOn 11 rfl) mlX0_39 ceX0_at (obBands hk) (Nat.le_of_ble_eq_true rfl) (Nat.le_of_ble_eq_true rfl) (c_X0_at hk (by assumption) (by omega) (by omega) (by omega) (by omega)) (np 18 rfl ?_)
  refine r_aload_n (dc dkX0_holdsOn 12 rfl) rfl (np 19 rfl ?_)
  refine r_iload_n (dc dkX0_holdsOn 13 rfl) rfl (np 20 rfl ?_)
  refine r_iload_n (dc dkX0_holdsOn 14 rfl) rfl (np 21 rfl ?_)
  refine r_iconst (dc dkX0_holdsOn 15 rfl) (np 22 rfl ?_)
  refine r_iadd (dc dkX0_holdsOn 16 rfl) (np 23 rfl ?_)
  refine r_pV2 (y' := miX0_at) (dc dkX0_holdsOn 17 rfl) mlX0_39 ceX0_at (obBands hk) (Nat.le_of_ble_eq_true rfl) (Nat.le_of_ble_eq_true rfl) (c_X0_at hk (by assumption) (by omega) (by omega) (by omega) (by omega)) (np 26 rfl ?_)
  refine r_pS3 (y' := miX7_isOn) (dc dkX0_holdsOn 18 rfl) mlX0_76 seX7_isOn (Nat.le_of_ble_eq_true rfl) (Nat.le_of_ble_eq_true rfl) (c_X7_isOn (by first | assumption | exact hP _ (by omega) (by omega) | omega) (by first | assumption | exact hP _ (by omega) (by omega) | omega) (by first | assumption | exact hP _ (by omega) (by omega) | omega)) (np 29 rfl ?_)
  refine r_bz (tgt := 34) (dc dkX0_holdsOn 19 rfl) rfl (fun h29 => ?_) (fun h29 => (np 32 rfl ?_))
  · skip
    refine r_iinc (lv' := [(3, _), (0, _), (1, _), (2, _)]) (dc dkX0_holdsOn 22 rfl) (Nat.le_of_ble_eq_true rfl) rfl rfl (np 37 rfl ?_)
    refine r_goto (tgt := 2) (dc dkX0_holdsOn 23 rfl) rfl ?_
    refine r_pick [1, 2, 3, 0] rfl ?_
    exact ih2 _ ⟨by omega, by omega, fun j g0 g1 => by rcases (show j < i ∨ j = i by omega) with q | q; exact hI2.2.2 j g0 q; subst q; assumption⟩ (by omega)
  refine r_iconst (dc dkX0_holdsOn 20 rfl) (np 33 rfl ?_)
  exact r_zret (dc dkX0_holdsOn 21 rfl) rfl (by first | exact Or.inl rfl | exact Or.inr rfl) ⟨congrArg (fun z => some (vI z)) ((bI_t ⟨i, by omega, by omega, h29⟩).symm), rfl⟩
set_option maxRecDepth 100000 in
set_option maxHeartbeats 4000000 in
theorem c_X0_encloses {σ : jS} {k : Nat} (hk : isBands k) (hB : okB σ k) {b : Int} (h0 : 0 ≤ b) (h1 : b < 8) {x y : Int} (hx : 0 ≤ x ∧ x ≤ 18) (hy : 0 ≤ y ∧ y ≤ 18) : Jp 2 miX0_encloses [.ref k, vI b, vI x, vI y] σ (vI (bI (encB (σ (k + 2) b) (bAt σ k b) x y))) := by
  have hs := hB.2.1 b h0 h1
  have hP := bAt_P hB h0 h1
  refine jm_ofF (Po := (jP (vI (bI (encB (σ (k + 2) b) (bAt σ k b) x y))) σ)) (plainFor_of_name (by decide)) (Nat.le_of_ble_eq_true rfl) (lv := [(0, _), (1, _), (2, _), (3, _)]) rfl ?_
  refine r_iconst (dc dkX0_encloses 0 rfl) (np 1 rfl ?_)
  refine r_istore (lv' := [(4, _), (0, _), (1, _), (2, _), (3, _)]) (dc dkX0_encloses 1 rfl) (Nat.le_of_ble_eq_true rfl) rfl (np 3 rfl ?_)
  refine r_iconst (dc dkX0_encloses 2 rfl) (np 4 rfl ?_)
  refine r_istore (lv' := [(5, _), (4, _), (0, _), (1, _), (2, _), (3, _)]) (dc dkX0_encloses 3 rfl) (Nat.le_of_ble_eq_true rfl) rfl (np 6 rfl ?_)
  refine r_pick [2, 3, 4, 5, 1, 0] (lv' := [(0, _), (1, _), (2, _), (3, _), (4, _), (5, _)]) rfl ?_
  refine jlp2 (P := fun (v : Int) (i : Int) => jR _ _ _ 6 [(0, .ref k), (1, vI b), (2, vI x), (3, vI y), (4, vI v), (5, vI i)] [] σ) (I := fun (v : Int) (i : Int) => 0 ≤ i ∧ i ≤ (σ (k + 2) b) ∧ v = smI (fun i => bI (crC x y (bAt σ k b i) (bAt σ k b (i + 1)))) i % 2) (fun (v : Int) (i : Int) => ((σ (k + 2) b) - i).toNat) ?_ _ _ ⟨by omega, by omega, rfl⟩
  intro v i hI6 ih6
  have hv : v = 0 ∨ v = 1 := by omega
  refine r_iload (dc dkX0_encloses 4 rfl) rfl (np 8 rfl ?_)
  refine r_aload_n (dc dkX0_encloses 5 rfl) rfl (np 9 rfl ?_)
  refine r_iload_n (dc dkX0_encloses 6 rfl) rfl (np 10 rfl ?_)
  refine r_pV1 (y' := miX0_sizeOf) (dc dkX0_encloses 7 rfl) mlX0_35 ceX0_sizeOf (obBands hk) (Nat.le_of_ble_eq_true rfl) (Nat.le_of_ble_eq_true rfl) (c_X0_sizeOf hk (by omega) (by omega)) (np 13 rfl ?_)
  refine r_icmp_ge (tgt := 167) (dc dkX0_encloses 8 rfl) rfl (by first | assumption | decide | omega) (by first | assumption | decide | omega) (fun h13 => ?_) (fun h13 => (np 16 rfl ?_))
  · skip
    refine r_iload (dc dkX0_encloses 98 rfl) rfl (np 169 rfl ?_)
    exact r_zret (dc dkX0_encloses 99 rfl) rfl hv ⟨congrArg (fun z => some (vI z)) (by rw [hI6.2.2, show i = σ (k + 2) b by omega]; exact modb _), rfl⟩
  have hp1 := hP i (by omega) (by omega)
  have hp2 := hP (i + 1) (by omega) (by omega)
  have hcr := crT_b hx hy hp1 hp2
  unfold crT at hcr
  refine r_iconst (dc dkX0_encloses 9 rfl) (np 17 rfl ?_)
  refine r_aload_n (dc dkX0_encloses 10 rfl) rfl (np 18 rfl ?_)
  refine r_iload_n (dc dkX0_encloses 11 rfl) rfl (np 19 rfl ?_)
  refine r_iload (dc dkX0_encloses 12 rfl) rfl (np 21 rfl ?_)
  refine r_pV2 (y' := miX0_at) (dc dkX0_encloses 13 rfl) mlX0_39 ceX0_at (obBands hk) (Nat.le_of_ble_eq_true rfl) (Nat.le_of_ble_eq_true rfl) (c_X0_at hk (by assumption) (by omega) (by omega) (by omega) (by omega)) (np 24 rfl ?_)
  refine r_bipush (dc dkX0_encloses 14 rfl) bp_10 (np 26 rfl ?_)
  refine r_iremn (dc dkX0_encloses 15 rfl) (by first | assumption | decide | omega) (by first | assumption | decide | omega) (np 27 rfl ?_)
  refine r_imul (dc dkX0_encloses 16 rfl) (np 28 rfl ?_)
  refine r_istore (lv' := [(6, _), (0, _), (1, _), (2, _), (3, _), (4, _), (5, _)]) (dc dkX0_encloses 17 rfl) (Nat.le_of_ble_eq_true rfl) rfl (np 30 rfl ?_)
  refine r_iconst (dc dkX0_encloses 18 rfl) (np 31 rfl ?_)
  refine r_aload_n (dc dkX0_encloses 19 rfl) rfl (np 32 rfl ?_)
  refine r_iload_n (dc dkX0_encloses 20 rfl) rfl (np 33 rfl ?_)
  refine r_iload (dc dkX0_encloses 21 rfl) rfl (np 35 rfl ?_)
  refine r_pV2 (y' := miX0_at) (dc dkX0_encloses 22 rfl) mlX0_39 ceX0_at (obBands hk) (Nat.le_of_ble_eq_true rfl) (Nat.le_of_ble_eq_true rfl) (c_X0_at hk (by assumption) (by omega) (by omega) (by omega) (by omega)) (np 38 rfl ?_)
  refine r_bipush (dc dkX0_encloses 23 rfl) bp_10 (np 40 rfl ?_)
  refine r_idivn (dc dkX0_encloses 24 rfl) (by first | assumption | decide | omega) (by first | assumption | decide | omega) (np 41 rfl ?_)
  refine r_imul (dc dkX0_encloses 25 rfl) (np 42 rfl ?_)
  refine r_istore (lv' := [(7, _), (6, _), (0, _), (1, _), (2, _), (3, _), (4, _), (5, _)]) (dc dkX0_encloses 26 rfl) (Nat.le_of_ble_eq_true rfl) rfl (np 44 rfl ?_)
  refine r_iconst (dc dkX0_encloses 27 rfl) (np 45 rfl ?_)
  refine r_aload_n (dc dkX0_encloses 28 rfl) rfl (np 46 rfl ?_)
  refine r_iload_n (dc dkX0_encloses 29 rfl) rfl (np 47 rfl ?_)
  refine r_iload (dc dkX0_encloses 30 rfl) rfl (np 49 rfl ?_)
  refine r_iconst (dc dkX0_encloses 31 rfl) (np 50 rfl ?_)
  refine r_iadd (dc dkX0_encloses 32 rfl) (np 51 rfl ?_)
  refine r_pV2 (y' := miX0_at) (dc dkX0_encloses 33 rfl) mlX0_39 ceX0_at (obBands hk) (Nat.le_of_ble_eq_true rfl) (Nat.le_of_ble_eq_true rfl) (c_X0_at hk (by assumption) (by omega) (by omega) (by omega) (by omega)) (np 54 rfl ?_)
  refine r_bipush (dc dkX0_encloses 34 rfl) bp_10 (np 56 rfl ?_)
  refine r_iremn (dc dkX0_encloses 35 rfl) (by first | assumption | decide | omega) (by first | assumption | decide | omega) (np 57 rfl ?_)
  refine r_imul (dc dkX0_encloses 36 rfl) (np 58 rfl ?_)
  refine r_istore (lv' := [(8, _), (7, _), (6, _), (0, _), (1, _), (2, _), (3, _), (4, _), (5, _)]) (dc dkX0_encloses 37 rfl) (Nat.le_of_ble_eq_true rfl) rfl (np 60 rfl ?_)
  refine r_iconst (dc dkX0_encloses 38 rfl) (np 61 rfl ?_)
  refine r_aload_n (dc dkX0_encloses 39 rfl) rfl (np 62 rfl ?_)
  refine r_iload_n (dc dkX0_encloses 40 rfl) rfl (np 63 rfl ?_)
  refine r_iload (dc dkX0_encloses 41 rfl) rfl (np 65 rfl ?_)
  refine r_iconst (dc dkX0_encloses 42 rfl) (np 66 rfl ?_)
  refine r_iadd (dc dkX0_encloses 43 rfl) (np 67 rfl ?_)
  refine r_pV2 (y' := miX0_at) (dc dkX0_encloses 44 rfl) mlX0_39 ceX0_at (obBands hk) (Nat.le_of_ble_eq_true rfl) (Nat.le_of_ble_eq_true rfl) (c_X0_at hk (by assumption) (by omega) (by omega) (by omega) (by omega)) (np 70 rfl ?_)
  refine r_bipush (dc dkX0_encloses 45 rfl) bp_10 (np 72 rfl ?_)
  refine r_idivn (dc dkX0_encloses 46 rfl) (by first | assumption | decide | omega) (by first | assumption | decide | omega) (np 73 rfl ?_)
  refine r_imul (dc dkX0_encloses 47 rfl) (np 74 rfl ?_)
  refine r_istore (lv' := [(9, _), (8, _), (7, _), (6, _), (0, _), (1, _), (2, _), (3, _), (4, _), (5, _)]) (dc dkX0_encloses 48 rfl) (Nat.le_of_ble_eq_true rfl) rfl (np 76 rfl ?_)
  refine r_iload (dc dkX0_encloses 49 rfl) rfl (np 78 rfl ?_)
  refine r_iload_n (dc dkX0_encloses 50 rfl) rfl (np 79 rfl ?_)
  refine r_icmp_le (tgt := 86) (dc dkX0_encloses 51 rfl) rfl (by first | assumption | decide | omega) (by first | assumption | decide | omega) (fun h79 => ?_) (fun h79 => (np 82 rfl ?_))
  · skip
    refine r_iconst (dc dkX0_encloses 54 rfl) (np 87 rfl ?_)
    refine r_iload (dc dkX0_encloses 55 rfl) rfl (np 89 rfl ?_)
    refine r_iload_n (dc dkX0_encloses 56 rfl) rfl (np 90 rfl ?_)
    refine r_icmp_le (tgt := 97) (dc dkX0_encloses 57 rfl) rfl (by first | assumption | decide | omega) (by first | assumption | decide | omega) (fun h90 => ?_) (fun h90 => (np 93 rfl ?_))
    · skip
      refine r_iconst (dc dkX0_encloses 60 rfl) (np 98 rfl ?_)
      refine r_icmp_eq (tgt := 161) (dc dkX0_encloses 61 rfl) rfl (by first | assumption | decide | omega) (by first | assumption | decide | omega) (fun h98 => ?_) (fun h98 => (np 101 rfl ?_))
      · skip
        refine r_iinc (lv' := [(5, _), (9, _), (8, _), (7, _), (6, _), (0, _), (1, _), (2, _), (3, _), (4, _)]) (dc dkX0_encloses 96 rfl) (Nat.le_of_ble_eq_true rfl) rfl rfl (np 164 rfl ?_)
        refine r_goto (tgt := 6) (dc dkX0_encloses 97 rfl) rfl ?_
        refine r_pick [5, 6, 7, 8, 9, 0] rfl ?_
        exact ih6 _ _ ⟨by omega, by omega, by first | (rw [smI_s _ (by omega), bI_t ⟨by omega, by unfold crT; omega⟩]; omega) | (rw [smI_s _ (by omega), bI_f (fun q => by have q1 := q.1; have q2 := q.2; unfold crT at q2; omega)]; omega)⟩ (by omega)
      exact absurd h98 (by decide)
    refine r_iconst (dc dkX0_encloses 58 rfl) (np 94 rfl ?_)
    refine r_goto (tgt := 98) (dc dkX0_encloses 59 rfl) rfl ?_
    refine r_icmp_eq (tgt := 161) (dc dkX0_encloses 61 rfl) rfl (by first | assumption | decide | omega) (by first | assumption | decide | omega) (fun h98 => ?_) (fun h98 => (np 101 rfl ?_))
    · exact absurd h98 (by decide)
    refine r_iload (dc dkX0_encloses 62 rfl) rfl (np 103 rfl ?_)
    refine r_iload (dc dkX0_encloses 63 rfl) rfl (np 105 rfl ?_)
    refine r_isub (dc dkX0_encloses 64 rfl) (np 106 rfl ?_)
    refine r_iload_n (dc dkX0_encloses 65 rfl) rfl (np 107 rfl ?_)
    refine r_iload (dc dkX0_encloses 66 rfl) rfl (np 109 rfl ?_)
    refine r_isub (dc dkX0_encloses 67 rfl) (np 110 rfl ?_)
    refine r_imul (dc dkX0_encloses 68 rfl) (np 111 rfl ?_)
    refine r_iload (dc dkX0_encloses 69 rfl) rfl (np 113 rfl ?_)
    refine r_iload (dc dkX0_encloses 70 rfl) rfl (np 115 rfl ?_)
    refine r_isub (dc dkX0_encloses 71 rfl) (np 116 rfl ?_)
    refine r_iload_n (dc dkX0_encloses 72 rfl) rfl (np 117 rfl ?_)
    refine r_iload (dc dkX0_encloses 73 rfl) rfl (np 119 rfl ?_)
    refine r_isub (dc dkX0_encloses 74 rfl) (np 120 rfl ?_)
    refine r_imul (dc dkX0_encloses 75 rfl) (np 121 rfl ?_)
    refine r_isub (dc dkX0_encloses 76 rfl) (np 122 rfl ?_)
    refine r_istore (lv' := [(10, _), (9, _), (8, _), (7, _), (6, _), (0, _), (1, _), (2, _), (3, _), (4, _), (5, _)]) (dc dkX0_encloses 77 rfl) (Nat.le_of_ble_eq_true rfl) rfl (np 124 rfl ?_)
    refine r_iload (dc dkX0_encloses 78 rfl) rfl (np 126 rfl ?_)
    refine r_iload (dc dkX0_encloses 79 rfl) rfl (np 128 rfl ?_)
    refine r_icmp_le (tgt := 135) (dc dkX0_encloses 80 rfl) rfl (by first | assumption | decide | omega) (by first | assumption | decide | omega) (fun h128 => ?_) (fun h128 => (np 131 rfl ?_))
    · skip
      refine r_iconst (dc dkX0_encloses 83 rfl) (np 136 rfl ?_)
      refine r_iload (dc dkX0_encloses 84 rfl) rfl (np 138 rfl ?_)
      refine r_if_le (tgt := 145) (dc dkX0_encloses 85 rfl) rfl (by first | assumption | decide | omega) (fun h138 => ?_) (fun h138 => (np 141 rfl ?_))
      · skip
        refine r_iconst (dc dkX0_encloses 88 rfl) (np 146 rfl ?_)
        refine r_icmp_ne (tgt := 161) (dc dkX0_encloses 89 rfl) rfl (by first | assumption | decide | omega) (by first | assumption | decide | omega) (fun h146 => ?_) (fun h146 => (np 149 rfl ?_))
        · exact absurd h146 (by decide)
        refine r_iload (dc dkX0_encloses 90 rfl) rfl (np 151 rfl ?_)
        refine r_if_ne (tgt := 158) (dc dkX0_encloses 91 rfl) rfl (by first | assumption | decide | omega) (fun h151 => ?_) (fun h151 => (np 154 rfl ?_))
        · skip
          refine r_iconst (dc dkX0_encloses 94 rfl) (np 159 rfl ?_)
          refine r_istore (lv' := [(4, _), (10, _), (9, _), (8, _), (7, _), (6, _), (0, _), (1, _), (2, _), (3, _), (5, _)]) (dc dkX0_encloses 95 rfl) (Nat.le_of_ble_eq_true rfl) rfl (np 161 rfl ?_)
          refine r_iinc (lv' := [(5, _), (4, _), (10, _), (9, _), (8, _), (7, _), (6, _), (0, _), (1, _), (2, _), (3, _)]) (dc dkX0_encloses 96 rfl) (Nat.le_of_ble_eq_true rfl) rfl rfl (np 164 rfl ?_)
          refine r_goto (tgt := 6) (dc dkX0_encloses 97 rfl) rfl ?_
          refine r_pick [7, 8, 9, 10, 1, 0] rfl ?_
          exact ih6 _ _ ⟨by omega, by omega, by first | (rw [smI_s _ (by omega), bI_t ⟨by omega, by unfold crT; omega⟩]; omega) | (rw [smI_s _ (by omega), bI_f (fun q => by have q1 := q.1; have q2 := q.2; unfold crT at q2; omega)]; omega)⟩ (by omega)
        refine r_iconst (dc dkX0_encloses 92 rfl) (np 155 rfl ?_)
        refine r_goto (tgt := 159) (dc dkX0_encloses 93 rfl) rfl ?_
        refine r_istore (lv' := [(4, _), (10, _), (9, _), (8, _), (7, _), (6, _), (0, _), (1, _), (2, _), (3, _), (5, _)]) (dc dkX0_encloses 95 rfl) (Nat.le_of_ble_eq_true rfl) rfl (np 161 rfl ?_)
        refine r_iinc (lv' := [(5, _), (4, _), (10, _), (9, _), (8, _), (7, _), (6, _), (0, _), (1, _), (2, _), (3, _)]) (dc dkX0_encloses 96 rfl) (Nat.le_of_ble_eq_true rfl) rfl rfl (np 164 rfl ?_)
        refine r_goto (tgt := 6) (dc dkX0_encloses 97 rfl) rfl ?_
        refine r_pick [7, 8, 9, 10, 1, 0] rfl ?_
        exact ih6 _ _ ⟨by omega, by omega, by first | (rw [smI_s _ (by omega), bI_t ⟨by omega, by unfold crT; omega⟩]; omega) | (rw [smI_s _ (by omega), bI_f (fun q => by have q1 := q.1; have q2 := q.2; unfold crT at q2; omega)]; omega)⟩ (by omega)
      refine r_iconst (dc dkX0_encloses 86 rfl) (np 142 rfl ?_)
      refine r_goto (tgt := 146) (dc dkX0_encloses 87 rfl) rfl ?_
      refine r_icmp_ne (tgt := 161) (dc dkX0_encloses 89 rfl) rfl (by first | assumption | decide | omega) (by first | assumption | decide | omega) (fun h146 => ?_) (fun h146 => (np 149 rfl ?_))
      · skip
        refine r_iinc (lv' := [(5, _), (10, _), (9, _), (8, _), (7, _), (6, _), (0, _), (1, _), (2, _), (3, _), (4, _)]) (dc dkX0_encloses 96 rfl) (Nat.le_of_ble_eq_true rfl) rfl rfl (np 164 rfl ?_)
        refine r_goto (tgt := 6) (dc dkX0_encloses 97 rfl) rfl ?_
        refine r_pick [6, 7, 8, 9, 10, 0] rfl ?_
        exact ih6 _ _ ⟨by omega, by omega, by first | (rw [smI_s _ (by omega), bI_t ⟨by omega, by unfold crT; omega⟩]; omega) | (rw [smI_s _ (by omega), bI_f (fun q => by have q1 := q.1; have q2 := q.2; unfold crT at q2; omega)]; omega)⟩ (by omega)
      exact absurd h146 (by decide)
    refine r_iconst (dc dkX0_encloses 81 rfl) (np 132 rfl ?_)
    refine r_goto (tgt := 136) (dc dkX0_encloses 82 rfl) rfl ?_
    refine r_iload (dc dkX0_encloses 84 rfl) rfl (np 138 rfl ?_)
    refine r_if_le (tgt := 145) (dc dkX0_encloses 85 rfl) rfl (by first | assumption | decide | omega) (fun h138 => ?_) (fun h138 => (np 141 rfl ?_))
    · skip
      refine r_iconst (dc dkX0_encloses 88 rfl) (np 146 rfl ?_)
      refine r_icmp_ne (tgt := 161) (dc dkX0_encloses 89 rfl) rfl (by first | assumption | decide | omega) (by first | assumption | decide | omega) (fun h146 => ?_) (fun h146 => (np 149 rfl ?_))
      · skip
        refine r_iinc (lv' := [(5, _), (10, _), (9, _), (8, _), (7, _), (6, _), (0, _), (1, _), (2, _), (3, _), (4, _)]) (dc dkX0_encloses 96 rfl) (Nat.le_of_ble_eq_true rfl) rfl rfl (np 164 rfl ?_)
        refine r_goto (tgt := 6) (dc dkX0_encloses 97 rfl) rfl ?_
        refine r_pick [6, 7, 8, 9, 10, 0] rfl ?_
        exact ih6 _ _ ⟨by omega, by omega, by first | (rw [smI_s _ (by omega), bI_t ⟨by omega, by unfold crT; omega⟩]; omega) | (rw [smI_s _ (by omega), bI_f (fun q => by have q1 := q.1; have q2 := q.2; unfold crT at q2; omega)]; omega)⟩ (by omega)
      exact absurd h146 (by decide)
    refine r_iconst (dc dkX0_encloses 86 rfl) (np 142 rfl ?_)
    refine r_goto (tgt := 146) (dc dkX0_encloses 87 rfl) rfl ?_
    refine r_icmp_ne (tgt := 161) (dc dkX0_encloses 89 rfl) rfl (by first | assumption | decide | omega) (by first | assumption | decide | omega) (fun h146 => ?_) (fun h146 => (np 149 rfl ?_))
    · exact absurd h146 (by decide)
    refine r_iload (dc dkX0_encloses 90 rfl) rfl (np 151 rfl ?_)
    refine r_if_ne (tgt := 158) (dc dkX0_encloses 91 rfl) rfl (by first | assumption | decide | omega) (fun h151 => ?_) (fun h151 => (np 154 rfl ?_))
    · skip
      refine r_iconst (dc dkX0_encloses 94 rfl) (np 159 rfl ?_)
      refine r_istore (lv' := [(4, _), (10, _), (9, _), (8, _), (7, _), (6, _), (0, _), (1, _), (2, _), (3, _), (5, _)]) (dc dkX0_encloses 95 rfl) (Nat.le_of_ble_eq_true rfl) rfl (np 161 rfl ?_)
      refine r_iinc (lv' := [(5, _), (4, _), (10, _), (9, _), (8, _), (7, _), (6, _), (0, _), (1, _), (2, _), (3, _)]) (dc dkX0_encloses 96 rfl) (Nat.le_of_ble_eq_true rfl) rfl rfl (np 164 rfl ?_)
      refine r_goto (tgt := 6) (dc dkX0_encloses 97 rfl) rfl ?_
      refine r_pick [7, 8, 9, 10, 1, 0] rfl ?_
      exact ih6 _ _ ⟨by omega, by omega, by first | (rw [smI_s _ (by omega), bI_t ⟨by omega, by unfold crT; omega⟩]; omega) | (rw [smI_s _ (by omega), bI_f (fun q => by have q1 := q.1; have q2 := q.2; unfold crT at q2; omega)]; omega)⟩ (by omega)
    refine r_iconst (dc dkX0_encloses 92 rfl) (np 155 rfl ?_)
    refine r_goto (tgt := 159) (dc dkX0_encloses 93 rfl) rfl ?_
    refine r_istore (lv' := [(4, _), (10, _), (9, _), (8, _), (7, _), (6, _), (0, _), (1, _), (2, _), (3, _), (5, _)]) (dc dkX0_encloses 95 rfl) (Nat.le_of_ble_eq_true rfl) rfl (np 161 rfl ?_)
    refine r_iinc (lv' := [(5, _), (4, _), (10, _), (9, _), (8, _), (7, _), (6, _), (0, _), (1, _), (2, _), (3, _)]) (dc dkX0_encloses 96 rfl) (Nat.le_of_ble_eq_true rfl) rfl rfl (np 164 rfl ?_)
    refine r_goto (tgt := 6) (dc dkX0_encloses 97 rfl) rfl ?_
    refine r_pick [7, 8, 9, 10, 1, 0] rfl ?_
    exact ih6 _ _ ⟨by omega, by omega, by first | (rw [smI_s _ (by omega), bI_t ⟨by omega, by unfold crT; omega⟩]; omega) | (rw [smI_s _ (by omega), bI_f (fun q => by have q1 := q.1; have q2 := q.2; unfold crT at q2; omega)]; omega)⟩ (by omega)
  refine r_iconst (dc dkX0_encloses 52 rfl) (np 83 rfl ?_)
  refine r_goto (tgt := 87) (dc dkX0_encloses 53 rfl) rfl ?_
  refine r_iload (dc dkX0_encloses 55 rfl) rfl (np 89 rfl ?_)
  refine r_iload_n (dc dkX0_encloses 56 rfl) rfl (np 90 rfl ?_)
  refine r_icmp_le (tgt := 97) (dc dkX0_encloses 57 rfl) rfl (by first | assumption | decide | omega) (by first | assumption | decide | omega) (fun h90 => ?_) (fun h90 => (np 93 rfl ?_))
  · skip
    refine r_iconst (dc dkX0_encloses 60 rfl) (np 98 rfl ?_)
    refine r_icmp_eq (tgt := 161) (dc dkX0_encloses 61 rfl) rfl (by first | assumption | decide | omega) (by first | assumption | decide | omega) (fun h98 => ?_) (fun h98 => (np 101 rfl ?_))
    · exact absurd h98 (by decide)
    refine r_iload (dc dkX0_encloses 62 rfl) rfl (np 103 rfl ?_)
    refine r_iload (dc dkX0_encloses 63 rfl) rfl (np 105 rfl ?_)
    refine r_isub (dc dkX0_encloses 64 rfl) (np 106 rfl ?_)
    refine r_iload_n (dc dkX0_encloses 65 rfl) rfl (np 107 rfl ?_)
    refine r_iload (dc dkX0_encloses 66 rfl) rfl (np 109 rfl ?_)
    refine r_isub (dc dkX0_encloses 67 rfl) (np 110 rfl ?_)
    refine r_imul (dc dkX0_encloses 68 rfl) (np 111 rfl ?_)
    refine r_iload (dc dkX0_encloses 69 rfl) rfl (np 113 rfl ?_)
    refine r_iload (dc dkX0_encloses 70 rfl) rfl (np 115 rfl ?_)
    refine r_isub (dc dkX0_encloses 71 rfl) (np 116 rfl ?_)
    refine r_iload_n (dc dkX0_encloses 72 rfl) rfl (np 117 rfl ?_)
    refine r_iload (dc dkX0_encloses 73 rfl) rfl (np 119 rfl ?_)
    refine r_isub (dc dkX0_encloses 74 rfl) (np 120 rfl ?_)
    refine r_imul (dc dkX0_encloses 75 rfl) (np 121 rfl ?_)
    refine r_isub (dc dkX0_encloses 76 rfl) (np 122 rfl ?_)
    refine r_istore (lv' := [(10, _), (9, _), (8, _), (7, _), (6, _), (0, _), (1, _), (2, _), (3, _), (4, _), (5, _)]) (dc dkX0_encloses 77 rfl) (Nat.le_of_ble_eq_true rfl) rfl (np 124 rfl ?_)
    refine r_iload (dc dkX0_encloses 78 rfl) rfl (np 126 rfl ?_)
    refine r_iload (dc dkX0_encloses 79 rfl) rfl (np 128 rfl ?_)
    refine r_icmp_le (tgt := 135) (dc dkX0_encloses 80 rfl) rfl (by first | assumption | decide | omega) (by first | assumption | decide | omega) (fun h128 => ?_) (fun h128 => (np 131 rfl ?_))
    · skip
      refine r_iconst (dc dkX0_encloses 83 rfl) (np 136 rfl ?_)
      refine r_iload (dc dkX0_encloses 84 rfl) rfl (np 138 rfl ?_)
      refine r_if_le (tgt := 145) (dc dkX0_encloses 85 rfl) rfl (by first | assumption | decide | omega) (fun h138 => ?_) (fun h138 => (np 141 rfl ?_))
      · skip
        refine r_iconst (dc dkX0_encloses 88 rfl) (np 146 rfl ?_)
        refine r_icmp_ne (tgt := 161) (dc dkX0_encloses 89 rfl) rfl (by first | assumption | decide | omega) (by first | assumption | decide | omega) (fun h146 => ?_) (fun h146 => (np 149 rfl ?_))
        · exact absurd h146 (by decide)
        refine r_iload (dc dkX0_encloses 90 rfl) rfl (np 151 rfl ?_)
        refine r_if_ne (tgt := 158) (dc dkX0_encloses 91 rfl) rfl (by first | assumption | decide | omega) (fun h151 => ?_) (fun h151 => (np 154 rfl ?_))
        · skip
          refine r_iconst (dc dkX0_encloses 94 rfl) (np 159 rfl ?_)
          refine r_istore (lv' := [(4, _), (10, _), (9, _), (8, _), (7, _), (6, _), (0, _), (1, _), (2, _), (3, _), (5, _)]) (dc dkX0_encloses 95 rfl) (Nat.le_of_ble_eq_true rfl) rfl (np 161 rfl ?_)
          refine r_iinc (lv' := [(5, _), (4, _), (10, _), (9, _), (8, _), (7, _), (6, _), (0, _), (1, _), (2, _), (3, _)]) (dc dkX0_encloses 96 rfl) (Nat.le_of_ble_eq_true rfl) rfl rfl (np 164 rfl ?_)
          refine r_goto (tgt := 6) (dc dkX0_encloses 97 rfl) rfl ?_
          refine r_pick [7, 8, 9, 10, 1, 0] rfl ?_
          exact ih6 _ _ ⟨by omega, by omega, by first | (rw [smI_s _ (by omega), bI_t ⟨by omega, by unfold crT; omega⟩]; omega) | (rw [smI_s _ (by omega), bI_f (fun q => by have q1 := q.1; have q2 := q.2; unfold crT at q2; omega)]; omega)⟩ (by omega)
        refine r_iconst (dc dkX0_encloses 92 rfl) (np 155 rfl ?_)
        refine r_goto (tgt := 159) (dc dkX0_encloses 93 rfl) rfl ?_
        refine r_istore (lv' := [(4, _), (10, _), (9, _), (8, _), (7, _), (6, _), (0, _), (1, _), (2, _), (3, _), (5, _)]) (dc dkX0_encloses 95 rfl) (Nat.le_of_ble_eq_true rfl) rfl (np 161 rfl ?_)
        refine r_iinc (lv' := [(5, _), (4, _), (10, _), (9, _), (8, _), (7, _), (6, _), (0, _), (1, _), (2, _), (3, _)]) (dc dkX0_encloses 96 rfl) (Nat.le_of_ble_eq_true rfl) rfl rfl (np 164 rfl ?_)
        refine r_goto (tgt := 6) (dc dkX0_encloses 97 rfl) rfl ?_
        refine r_pick [7, 8, 9, 10, 1, 0] rfl ?_
        exact ih6 _ _ ⟨by omega, by omega, by first | (rw [smI_s _ (by omega), bI_t ⟨by omega, by unfold crT; omega⟩]; omega) | (rw [smI_s _ (by omega), bI_f (fun q => by have q1 := q.1; have q2 := q.2; unfold crT at q2; omega)]; omega)⟩ (by omega)
      refine r_iconst (dc dkX0_encloses 86 rfl) (np 142 rfl ?_)
      refine r_goto (tgt := 146) (dc dkX0_encloses 87 rfl) rfl ?_
      refine r_icmp_ne (tgt := 161) (dc dkX0_encloses 89 rfl) rfl (by first | assumption | decide | omega) (by first | assumption | decide | omega) (fun h146 => ?_) (fun h146 => (np 149 rfl ?_))
      · skip
        refine r_iinc (lv' := [(5, _), (10, _), (9, _), (8, _), (7, _), (6, _), (0, _), (1, _), (2, _), (3, _), (4, _)]) (dc dkX0_encloses 96 rfl) (Nat.le_of_ble_eq_true rfl) rfl rfl (np 164 rfl ?_)
        refine r_goto (tgt := 6) (dc dkX0_encloses 97 rfl) rfl ?_
        refine r_pick [6, 7, 8, 9, 10, 0] rfl ?_
        exact ih6 _ _ ⟨by omega, by omega, by first | (rw [smI_s _ (by omega), bI_t ⟨by omega, by unfold crT; omega⟩]; omega) | (rw [smI_s _ (by omega), bI_f (fun q => by have q1 := q.1; have q2 := q.2; unfold crT at q2; omega)]; omega)⟩ (by omega)
      exact absurd h146 (by decide)
    refine r_iconst (dc dkX0_encloses 81 rfl) (np 132 rfl ?_)
    refine r_goto (tgt := 136) (dc dkX0_encloses 82 rfl) rfl ?_
    refine r_iload (dc dkX0_encloses 84 rfl) rfl (np 138 rfl ?_)
    refine r_if_le (tgt := 145) (dc dkX0_encloses 85 rfl) rfl (by first | assumption | decide | omega) (fun h138 => ?_) (fun h138 => (np 141 rfl ?_))
    · skip
      refine r_iconst (dc dkX0_encloses 88 rfl) (np 146 rfl ?_)
      refine r_icmp_ne (tgt := 161) (dc dkX0_encloses 89 rfl) rfl (by first | assumption | decide | omega) (by first | assumption | decide | omega) (fun h146 => ?_) (fun h146 => (np 149 rfl ?_))
      · skip
        refine r_iinc (lv' := [(5, _), (10, _), (9, _), (8, _), (7, _), (6, _), (0, _), (1, _), (2, _), (3, _), (4, _)]) (dc dkX0_encloses 96 rfl) (Nat.le_of_ble_eq_true rfl) rfl rfl (np 164 rfl ?_)
        refine r_goto (tgt := 6) (dc dkX0_encloses 97 rfl) rfl ?_
        refine r_pick [6, 7, 8, 9, 10, 0] rfl ?_
        exact ih6 _ _ ⟨by omega, by omega, by first | (rw [smI_s _ (by omega), bI_t ⟨by omega, by unfold crT; omega⟩]; omega) | (rw [smI_s _ (by omega), bI_f (fun q => by have q1 := q.1; have q2 := q.2; unfold crT at q2; omega)]; omega)⟩ (by omega)
      exact absurd h146 (by decide)
    refine r_iconst (dc dkX0_encloses 86 rfl) (np 142 rfl ?_)
    refine r_goto (tgt := 146) (dc dkX0_encloses 87 rfl) rfl ?_
    refine r_icmp_ne (tgt := 161) (dc dkX0_encloses 89 rfl) rfl (by first | assumption | decide | omega) (by first | assumption | decide | omega) (fun h146 => ?_) (fun h146 => (np 149 rfl ?_))
    · exact absurd h146 (by decide)
    refine r_iload (dc dkX0_encloses 90 rfl) rfl (np 151 rfl ?_)
    refine r_if_ne (tgt := 158) (dc dkX0_encloses 91 rfl) rfl (by first | assumption | decide | omega) (fun h151 => ?_) (fun h151 => (np 154 rfl ?_))
    · skip
      refine r_iconst (dc dkX0_encloses 94 rfl) (np 159 rfl ?_)
      refine r_istore (lv' := [(4, _), (10, _), (9, _), (8, _), (7, _), (6, _), (0, _), (1, _), (2, _), (3, _), (5, _)]) (dc dkX0_encloses 95 rfl) (Nat.le_of_ble_eq_true rfl) rfl (np 161 rfl ?_)
      refine r_iinc (lv' := [(5, _), (4, _), (10, _), (9, _), (8, _), (7, _), (6, _), (0, _), (1, _), (2, _), (3, _)]) (dc dkX0_encloses 96 rfl) (Nat.le_of_ble_eq_true rfl) rfl rfl (np 164 rfl ?_)
      refine r_goto (tgt := 6) (dc dkX0_encloses 97 rfl) rfl ?_
      refine r_pick [7, 8, 9, 10, 1, 0] rfl ?_
      exact ih6 _ _ ⟨by omega, by omega, by first | (rw [smI_s _ (by omega), bI_t ⟨by omega, by unfold crT; omega⟩]; omega) | (rw [smI_s _ (by omega), bI_f (fun q => by have q1 := q.1; have q2 := q.2; unfold crT at q2; omega)]; omega)⟩ (by omega)
    refine r_iconst (dc dkX0_encloses 92 rfl) (np 155 rfl ?_)
    refine r_goto (tgt := 159) (dc dkX0_encloses 93 rfl) rfl ?_
    refine r_istore (lv' := [(4, _), (10, _), (9, _), (8, _), (7, _), (6, _), (0, _), (1, _), (2, _), (3, _), (5, _)]) (dc dkX0_encloses 95 rfl) (Nat.le_of_ble_eq_true rfl) rfl (np 161 rfl ?_)
    refine r_iinc (lv' := [(5, _), (4, _), (10, _), (9, _), (8, _), (7, _), (6, _), (0, _), (1, _), (2, _), (3, _)]) (dc dkX0_encloses 96 rfl) (Nat.le_of_ble_eq_true rfl) rfl rfl (np 164 rfl ?_)
    refine r_goto (tgt := 6) (dc dkX0_encloses 97 rfl) rfl ?_
    refine r_pick [7, 8, 9, 10, 1, 0] rfl ?_
    exact ih6 _ _ ⟨by omega, by omega, by first | (rw [smI_s _ (by omega), bI_t ⟨by omega, by unfold crT; omega⟩]; omega) | (rw [smI_s _ (by omega), bI_f (fun q => by have q1 := q.1; have q2 := q.2; unfold crT at q2; omega)]; omega)⟩ (by omega)
  refine r_iconst (dc dkX0_encloses 58 rfl) (np 94 rfl ?_)
  refine r_goto (tgt := 98) (dc dkX0_encloses 59 rfl) rfl ?_
  refine r_icmp_eq (tgt := 161) (dc dkX0_encloses 61 rfl) rfl (by first | assumption | decide | omega) (by first | assumption | decide | omega) (fun h98 => ?_) (fun h98 => (np 101 rfl ?_))
  · skip
    refine r_iinc (lv' := [(5, _), (9, _), (8, _), (7, _), (6, _), (0, _), (1, _), (2, _), (3, _), (4, _)]) (dc dkX0_encloses 96 rfl) (Nat.le_of_ble_eq_true rfl) rfl rfl (np 164 rfl ?_)
    refine r_goto (tgt := 6) (dc dkX0_encloses 97 rfl) rfl ?_
    refine r_pick [5, 6, 7, 8, 9, 0] rfl ?_
    exact ih6 _ _ ⟨by omega, by omega, by first | (rw [smI_s _ (by omega), bI_t ⟨by omega, by unfold crT; omega⟩]; omega) | (rw [smI_s _ (by omega), bI_f (fun q => by have q1 := q.1; have q2 := q.2; unfold crT at q2; omega)]; omega)⟩ (by omega)
  exact absurd h98 (by decide)
set_option maxRecDepth 100000 in
set_option maxHeartbeats 4000000 in
theorem c_X0_holdsWithin {σ : jS} {k : Nat} (hk : isBands k) (hB : okB σ k) {b : Int} (h0 : 0 ≤ b) (h1 : b < 8) {p : Int} (hp : isPg p) : Jp 4 miX0_holdsWithin [.ref k, vI b, vI p] σ (vI (bI (wthB (σ (k + 2) b) (bAt σ k b) p))) := by
  refine jm_ofF (Po := (jP (vI (bI (wthB (σ (k + 2) b) (bAt σ k b) p))) σ)) (plainFor_of_name (by decide)) (Nat.le_of_ble_eq_true rfl) (lv := [(0, _), (1, _), (2, _)]) rfl ?_
  refine r_aload_n (dc dkX0_holdsWithin 0 rfl) rfl (np 1 rfl ?_)
  refine r_iload_n (dc dkX0_holdsWithin 1 rfl) rfl (np 2 rfl ?_)
  refine r_iload_n (dc dkX0_holdsWithin 2 rfl) rfl (np 3 rfl ?_)
  refine r_pV2 (y' := miX0_holdsOn) (dc dkX0_holdsWithin 3 rfl) mlX0_80 ceX0_holdsOn (obBands hk) (Nat.le_of_ble_eq_true rfl) (Nat.le_of_ble_eq_true rfl) (c_X0_holdsOn hk (by assumption) (by omega) (by omega) (by first | assumption | exact hP _ (by omega) (by omega) | omega)) (np 6 rfl ?_)
  refine r_bn (tgt := 33) (dc dkX0_holdsWithin 4 rfl) rfl (fun h6 => ?_) (fun h6 => (np 9 rfl ?_))
  · skip
    refine r_iconst (dc dkX0_holdsWithin 21 rfl) (np 34 rfl ?_)
    exact r_zret (dc dkX0_holdsWithin 22 rfl) rfl (by first | exact Or.inl rfl | exact Or.inr rfl) ⟨congrArg (fun z => some (vI z)) (by first | exact (bI_t ⟨by assumption, by assumption⟩).symm | exact (bI_f (fun q => by have := q.1; have := q.2; contradiction)).symm), rfl⟩
  refine r_aload_n (dc dkX0_holdsWithin 5 rfl) rfl (np 10 rfl ?_)
  refine r_iload_n (dc dkX0_holdsWithin 6 rfl) rfl (np 11 rfl ?_)
  refine r_iconst (dc dkX0_holdsWithin 7 rfl) (np 12 rfl ?_)
  refine r_iload_n (dc dkX0_holdsWithin 8 rfl) rfl (np 13 rfl ?_)
  refine r_bipush (dc dkX0_holdsWithin 9 rfl) bp_10 (np 15 rfl ?_)
  refine r_iremn (dc dkX0_holdsWithin 10 rfl) (by first | assumption | decide | omega) (by first | assumption | decide | omega) (np 16 rfl ?_)
  refine r_imul (dc dkX0_holdsWithin 11 rfl) (np 17 rfl ?_)
  refine r_iconst (dc dkX0_holdsWithin 12 rfl) (np 18 rfl ?_)
  refine r_iload_n (dc dkX0_holdsWithin 13 rfl) rfl (np 19 rfl ?_)
  refine r_bipush (dc dkX0_holdsWithin 14 rfl) bp_10 (np 21 rfl ?_)
  refine r_idivn (dc dkX0_holdsWithin 15 rfl) (by first | assumption | decide | omega) (by first | assumption | decide | omega) (np 22 rfl ?_)
  refine r_imul (dc dkX0_holdsWithin 16 rfl) (np 23 rfl ?_)
  refine r_pV3 (y' := miX0_encloses) (dc dkX0_holdsWithin 17 rfl) mlX0_84 ceX0_encloses (obBands hk) (Nat.le_of_ble_eq_true rfl) (Nat.le_of_ble_eq_true rfl) (c_X0_encloses hk (by assumption) (by omega) (by omega) (by omega) (by omega)) (np 26 rfl ?_)
  refine r_bz (tgt := 33) (dc dkX0_holdsWithin 18 rfl) rfl (fun h26 => ?_) (fun h26 => (np 29 rfl ?_))
  · skip
    refine r_iconst (dc dkX0_holdsWithin 21 rfl) (np 34 rfl ?_)
    exact r_zret (dc dkX0_holdsWithin 22 rfl) rfl (by first | exact Or.inl rfl | exact Or.inr rfl) ⟨congrArg (fun z => some (vI z)) (by first | exact (bI_t ⟨by assumption, by assumption⟩).symm | exact (bI_f (fun q => by have := q.1; have := q.2; contradiction)).symm), rfl⟩
  refine r_iconst (dc dkX0_holdsWithin 19 rfl) (np 30 rfl ?_)
  refine r_goto (tgt := 34) (dc dkX0_holdsWithin 20 rfl) rfl ?_
  exact r_zret (dc dkX0_holdsWithin 22 rfl) rfl (by first | exact Or.inl rfl | exact Or.inr rfl) ⟨congrArg (fun z => some (vI z)) (by first | exact (bI_t ⟨by assumption, by assumption⟩).symm | exact (bI_f (fun q => by have := q.1; have := q.2; contradiction)).symm), rfl⟩
set_option maxRecDepth 100000 in
set_option maxHeartbeats 4000000 in
theorem c_X0_holds {σ : jS} {k : Nat} (hk : isBands k) (hB : okB σ k) {b : Int} (h0 : 0 ≤ b) (h1 : b < 8) {p : Int} (hp : isPg p) : Jp 4 miX0_holds [.ref k, vI b, vI p] σ (vI (bI (hldB (σ (k + 2) b) (bAt σ k b) p))) := by
  refine jm_ofF (Po := (jP (vI (bI (hldB (σ (k + 2) b) (bAt σ k b) p))) σ)) (plainFor_of_name (by decide)) (Nat.le_of_ble_eq_true rfl) (lv := [(0, _), (1, _), (2, _)]) rfl ?_
  refine r_aload_n (dc dkX0_holds 0 rfl) rfl (np 1 rfl ?_)
  refine r_iload_n (dc dkX0_holds 1 rfl) rfl (np 2 rfl ?_)
  refine r_iload_n (dc dkX0_holds 2 rfl) rfl (np 3 rfl ?_)
  refine r_pV2 (y' := miX0_holdsOn) (dc dkX0_holds 3 rfl) mlX0_80 ceX0_holdsOn (obBands hk) (Nat.le_of_ble_eq_true rfl) (Nat.le_of_ble_eq_true rfl) (c_X0_holdsOn hk (by assumption) (by omega) (by omega) (by first | assumption | exact hP _ (by omega) (by omega) | omega)) (np 6 rfl ?_)
  refine r_bn (tgt := 29) (dc dkX0_holds 4 rfl) rfl (fun h6 => ?_) (fun h6 => (np 9 rfl ?_))
  · skip
    refine r_iconst (dc dkX0_holds 19 rfl) (np 30 rfl ?_)
    refine r_goto (tgt := 34) (dc dkX0_holds 20 rfl) rfl ?_
    exact r_zret (dc dkX0_holds 22 rfl) rfl (by first | exact Or.inl rfl | exact Or.inr rfl) ⟨congrArg (fun z => some (vI z)) (by first | exact (bI_t (Or.inl (by assumption))).symm | exact (bI_t (Or.inr (by assumption))).symm | exact (bI_f (fun q => by rcases q with q | q <;> contradiction)).symm), rfl⟩
  refine r_aload_n (dc dkX0_holds 5 rfl) rfl (np 10 rfl ?_)
  refine r_iload_n (dc dkX0_holds 6 rfl) rfl (np 11 rfl ?_)
  refine r_iconst (dc dkX0_holds 7 rfl) (np 12 rfl ?_)
  refine r_iload_n (dc dkX0_holds 8 rfl) rfl (np 13 rfl ?_)
  refine r_bipush (dc dkX0_holds 9 rfl) bp_10 (np 15 rfl ?_)
  refine r_iremn (dc dkX0_holds 10 rfl) (by first | assumption | decide | omega) (by first | assumption | decide | omega) (np 16 rfl ?_)
  refine r_imul (dc dkX0_holds 11 rfl) (np 17 rfl ?_)
  refine r_iconst (dc dkX0_holds 12 rfl) (np 18 rfl ?_)
  refine r_iload_n (dc dkX0_holds 13 rfl) rfl (np 19 rfl ?_)
  refine r_bipush (dc dkX0_holds 14 rfl) bp_10 (np 21 rfl ?_)
  refine r_idivn (dc dkX0_holds 15 rfl) (by first | assumption | decide | omega) (by first | assumption | decide | omega) (np 22 rfl ?_)
  refine r_imul (dc dkX0_holds 16 rfl) (np 23 rfl ?_)
  refine r_pV3 (y' := miX0_encloses) (dc dkX0_holds 17 rfl) mlX0_84 ceX0_encloses (obBands hk) (Nat.le_of_ble_eq_true rfl) (Nat.le_of_ble_eq_true rfl) (c_X0_encloses hk (by assumption) (by omega) (by omega) (by omega) (by omega)) (np 26 rfl ?_)
  refine r_bz (tgt := 33) (dc dkX0_holds 18 rfl) rfl (fun h26 => ?_) (fun h26 => (np 29 rfl ?_))
  · skip
    refine r_iconst (dc dkX0_holds 21 rfl) (np 34 rfl ?_)
    exact r_zret (dc dkX0_holds 22 rfl) rfl (by first | exact Or.inl rfl | exact Or.inr rfl) ⟨congrArg (fun z => some (vI z)) (by first | exact (bI_t (Or.inl (by assumption))).symm | exact (bI_t (Or.inr (by assumption))).symm | exact (bI_f (fun q => by rcases q with q | q <;> contradiction)).symm), rfl⟩
  refine r_iconst (dc dkX0_holds 19 rfl) (np 30 rfl ?_)
  refine r_goto (tgt := 34) (dc dkX0_holds 20 rfl) rfl ?_
  exact r_zret (dc dkX0_holds 22 rfl) rfl (by first | exact Or.inl rfl | exact Or.inr rfl) ⟨congrArg (fun z => some (vI z)) (by first | exact (bI_t (Or.inl (by assumption))).symm | exact (bI_t (Or.inr (by assumption))).symm | exact (bI_f (fun q => by rcases q with q | q <;> contradiction)).symm), rfl⟩
set_option maxRecDepth 100000 in
set_option maxHeartbeats 4000000 in
theorem c_X0_anyHolds {σ : jS} {k : Nat} (hk : isBands k) (hB : okB σ k) {p x : Int} (hp : isPg p) (hx : iR x) : Jp 5 miX0_anyHolds [.ref k, vI p, vI x] σ (vI (bI (∃ b, 0 ≤ b ∧ b < σ k 0 ∧ ¬ b = x ∧ hldB (σ (k + 2) b) (bAt σ k b) p))) := by
  have hm := hB.1
  refine jm_ofF (Po := (jP (vI (bI (∃ b, 0 ≤ b ∧ b < σ k 0 ∧ ¬ b = x ∧ hldB (σ (k + 2) b) (bAt σ k b) p))) σ)) (plainFor_of_name (by decide)) (Nat.le_of_ble_eq_true rfl) (lv := [(0, _), (1, _), (2, _)]) rfl ?_
  refine r_iconst (dc dkX0_anyHolds 0 rfl) (np 1 rfl ?_)
  refine r_istore_n (lv' := [(3, _), (0, _), (1, _), (2, _)]) (dc dkX0_anyHolds 1 rfl) (Nat.le_of_ble_eq_true rfl) rfl (np 2 rfl ?_)
  refine r_pick [1, 2, 3, 0] (lv' := [(0, _), (1, _), (2, _), (3, _)]) rfl ?_
  refine jlp1 (P := fun (i : Int) => jR _ _ _ 2 [(0, .ref k), (1, vI p), (2, vI x), (3, vI i)] [] σ) (I := fun (i : Int) => 0 ≤ i ∧ i ≤ σ k 0 ∧ ∀ b, 0 ≤ b → b < i → ¬ b = x → ¬ hldB (σ (k + 2) b) (bAt σ k b) p) (fun (i : Int) => (σ k 0 - i).toNat) ?_ _ ⟨by omega, by omega, fun j _ _ => by omega⟩
  intro i hI2 ih2
  refine r_iload_n (dc dkX0_anyHolds 2 rfl) rfl (np 3 rfl ?_)
  refine r_aload_n (dc dkX0_anyHolds 3 rfl) rfl (np 4 rfl ?_)
  refine r_gI 0 (dc dkX0_anyHolds 4 rfl) flX0_9 (fdBands_0 hk) rfl (np 7 rfl ?_)
  refine r_icmp_ge (tgt := 32) (dc dkX0_anyHolds 5 rfl) rfl (by first | assumption | decide | omega) (by first | assumption | decide | omega) (fun h7 => ?_) (fun h7 => (np 10 rfl ?_))
  · skip
    refine r_iconst (dc dkX0_anyHolds 18 rfl) (np 33 rfl ?_)
    exact r_zret (dc dkX0_anyHolds 19 rfl) rfl (by first | exact Or.inl rfl | exact Or.inr rfl) ⟨congrArg (fun z => some (vI z)) ((bI_f (fun ⟨j, g0, g1, g2, g3⟩ => hI2.2.2 j g0 (by omega) g2 g3)).symm), rfl⟩
  refine r_iload_n (dc dkX0_anyHolds 6 rfl) rfl (np 11 rfl ?_)
  refine r_iload_n (dc dkX0_anyHolds 7 rfl) rfl (np 12 rfl ?_)
  refine r_icmp_eq (tgt := 26) (dc dkX0_anyHolds 8 rfl) rfl (by first | assumption | decide | omega) (by first | assumption | decide | omega) (fun h12 => ?_) (fun h12 => (np 15 rfl ?_))
  · skip
    refine r_iinc (lv' := [(3, _), (0, _), (1, _), (2, _)]) (dc dkX0_anyHolds 16 rfl) (Nat.le_of_ble_eq_true rfl) rfl rfl (np 29 rfl ?_)
    refine r_goto (tgt := 2) (dc dkX0_anyHolds 17 rfl) rfl ?_
    refine r_pick [1, 2, 3, 0] rfl ?_
    exact ih2 _ ⟨by omega, by omega, fun j g0 g1 g2 => by rcases (show j < i ∨ j = i by omega) with q | q; exact hI2.2.2 j g0 q g2; subst q; first | exact absurd (by assumption) g2 | assumption⟩ (by omega)
  refine r_aload_n (dc dkX0_anyHolds 9 rfl) rfl (np 16 rfl ?_)
  refine r_iload_n (dc dkX0_anyHolds 10 rfl) rfl (np 17 rfl ?_)
  refine r_iload_n (dc dkX0_anyHolds 11 rfl) rfl (np 18 rfl ?_)
  refine r_pV2 (y' := miX0_holds) (dc dkX0_anyHolds 12 rfl) mlX0_87 ceX0_holds (obBands hk) (Nat.le_of_ble_eq_true rfl) (Nat.le_of_ble_eq_true rfl) (c_X0_holds hk (by assumption) (by omega) (by omega) (by first | assumption | exact hP _ (by omega) (by omega) | omega)) (np 21 rfl ?_)
  refine r_bz (tgt := 26) (dc dkX0_anyHolds 13 rfl) rfl (fun h21 => ?_) (fun h21 => (np 24 rfl ?_))
  · skip
    refine r_iinc (lv' := [(3, _), (0, _), (1, _), (2, _)]) (dc dkX0_anyHolds 16 rfl) (Nat.le_of_ble_eq_true rfl) rfl rfl (np 29 rfl ?_)
    refine r_goto (tgt := 2) (dc dkX0_anyHolds 17 rfl) rfl ?_
    refine r_pick [1, 2, 3, 0] rfl ?_
    exact ih2 _ ⟨by omega, by omega, fun j g0 g1 g2 => by rcases (show j < i ∨ j = i by omega) with q | q; exact hI2.2.2 j g0 q g2; subst q; first | exact absurd (by assumption) g2 | assumption⟩ (by omega)
  refine r_iconst (dc dkX0_anyHolds 14 rfl) (np 25 rfl ?_)
  exact r_zret (dc dkX0_anyHolds 15 rfl) rfl (by first | exact Or.inl rfl | exact Or.inr rfl) ⟨congrArg (fun z => some (vI z)) ((bI_t ⟨i, by omega, by omega, by omega, h21⟩).symm), rfl⟩
set_option maxRecDepth 100000 in
set_option maxHeartbeats 4000000 in
theorem c_X0_meetings {σ : jS} {k : Nat} (hk : isBands k) (hB : okB σ k) {a b : Int} (h0 : 0 ≤ a) (h1 : a < 8) (g0 : 0 ≤ b) (g1 : b < 8) {w : Int} (hw : iR w) : Jp 3 miX0_meetings [.ref k, vI a, vI b, vI w] σ (vI (meetN (σ (k + 2) a) (bAt σ k a) (σ (k + 2) b) (bAt σ k b) w)) := by
  have hs := hB.2.1 a h0 h1
  have hs2 := hB.2.1 b g0 g1
  have hP := bAt_P hB h0 h1
  have hQ := bAt_P hB g0 g1
  refine jm_ofF (Po := (jP (vI (meetN (σ (k + 2) a) (bAt σ k a) (σ (k + 2) b) (bAt σ k b) w)) σ)) (plainFor_of_name (by decide)) (Nat.le_of_ble_eq_true rfl) (lv := [(0, _), (1, _), (2, _), (3, _)]) rfl ?_
  refine r_iconst (dc dkX0_meetings 0 rfl) (np 1 rfl ?_)
  refine r_istore (lv' := [(4, _), (0, _), (1, _), (2, _), (3, _)]) (dc dkX0_meetings 1 rfl) (Nat.le_of_ble_eq_true rfl) rfl (np 3 rfl ?_)
  refine r_iconst (dc dkX0_meetings 2 rfl) (np 4 rfl ?_)
  refine r_istore (lv' := [(5, _), (4, _), (0, _), (1, _), (2, _), (3, _)]) (dc dkX0_meetings 3 rfl) (Nat.le_of_ble_eq_true rfl) rfl (np 6 rfl ?_)
  refine r_pick [2, 3, 4, 5, 1, 0] (lv' := [(0, _), (1, _), (2, _), (3, _), (4, _), (5, _)]) rfl ?_
  refine jlp2 (P := fun (s : Int) (i : Int) => jR _ _ _ 6 [(0, .ref k), (1, vI a), (2, vI b), (3, vI w), (4, vI s), (5, vI i)] [] σ) (I := fun (s : Int) (i : Int) => 0 ≤ i ∧ i ≤ (σ (k + 2) a) ∧ s = smI (fun i => smI (fun j => bI (mt (bAt σ k a i) (bAt σ k a (i + 1)) (bAt σ k b j) (bAt σ k b (j + 1)) = w)) (σ (k + 2) b)) i) (fun (s : Int) (i : Int) => ((σ (k + 2) a) - i).toNat) ?_ _ _ ⟨by omega, by omega, rfl⟩
  intro s i hI6 ih6
  refine r_iload (dc dkX0_meetings 4 rfl) rfl (np 8 rfl ?_)
  refine r_aload_n (dc dkX0_meetings 5 rfl) rfl (np 9 rfl ?_)
  refine r_iload_n (dc dkX0_meetings 6 rfl) rfl (np 10 rfl ?_)
  refine r_pV1 (y' := miX0_sizeOf) (dc dkX0_meetings 7 rfl) mlX0_35 ceX0_sizeOf (obBands hk) (Nat.le_of_ble_eq_true rfl) (Nat.le_of_ble_eq_true rfl) (c_X0_sizeOf hk (by omega) (by omega)) (np 13 rfl ?_)
  refine r_icmp_ge (tgt := 83) (dc dkX0_meetings 8 rfl) rfl (by first | assumption | decide | omega) (by first | assumption | decide | omega) (fun h13 => ?_) (fun h13 => (np 16 rfl ?_))
  · skip
    refine r_iload (dc dkX0_meetings 44 rfl) rfl (np 85 rfl ?_)
    exact r_iret (dc dkX0_meetings 45 rfl) rfl ⟨congrArg (fun z => some (vI z)) (by rw [hI6.2.2, show i = σ (k + 2) a by omega]; rfl), rfl⟩
  refine r_iconst (dc dkX0_meetings 9 rfl) (np 17 rfl ?_)
  refine r_istore (lv' := [(6, _), (0, _), (1, _), (2, _), (3, _), (4, _), (5, _)]) (dc dkX0_meetings 10 rfl) (Nat.le_of_ble_eq_true rfl) rfl (np 19 rfl ?_)
  refine r_pick [1, 2, 3, 4, 5, 6, 0] (lv' := [(0, _), (1, _), (2, _), (3, _), (4, _), (5, _), (6, _)]) rfl ?_
  refine jlp2 (P := fun (t : Int) (j : Int) => jR _ _ _ 19 [(0, .ref k), (1, vI a), (2, vI b), (3, vI w), (4, vI t), (5, vI i), (6, vI j)] [] σ) (I := fun (t : Int) (j : Int) => 0 ≤ j ∧ j ≤ (σ (k + 2) b) ∧ t = s + smI (fun j => bI (mt (bAt σ k a i) (bAt σ k a (i + 1)) (bAt σ k b j) (bAt σ k b (j + 1)) = w)) j) (fun (t : Int) (j : Int) => ((σ (k + 2) b) - j).toNat) ?_ _ _ ⟨by omega, by omega, by rw [smI_0, Int.add_zero]⟩
  intro t j hI19 ih19
  refine r_iload (dc dkX0_meetings 11 rfl) rfl (np 21 rfl ?_)
  refine r_aload_n (dc dkX0_meetings 12 rfl) rfl (np 22 rfl ?_)
  refine r_iload_n (dc dkX0_meetings 13 rfl) rfl (np 23 rfl ?_)
  refine r_pV1 (y' := miX0_sizeOf) (dc dkX0_meetings 14 rfl) mlX0_35 ceX0_sizeOf (obBands hk) (Nat.le_of_ble_eq_true rfl) (Nat.le_of_ble_eq_true rfl) (c_X0_sizeOf hk (by omega) (by omega)) (np 26 rfl ?_)
  refine r_icmp_ge (tgt := 77) (dc dkX0_meetings 15 rfl) rfl (by first | assumption | decide | omega) (by first | assumption | decide | omega) (fun h26 => ?_) (fun h26 => (np 29 rfl ?_))
  · skip
    refine r_iinc (lv' := [(5, _), (0, _), (1, _), (2, _), (3, _), (4, _), (6, _)]) (dc dkX0_meetings 42 rfl) (Nat.le_of_ble_eq_true rfl) rfl rfl (np 80 rfl ?_)
    refine r_goto (tgt := 6) (dc dkX0_meetings 43 rfl) rfl ?_
    refine r_pick [1, 2, 3, 4, 5, 0] rfl ?_
    exact ih6 _ _ ⟨by omega, by omega, by rw [smI_s _ (by omega), ← hI6.2.2, hI19.2.2, show j = σ (k + 2) b by omega]⟩ (by omega)
  refine r_aload_n (dc dkX0_meetings 16 rfl) rfl (np 30 rfl ?_)
  refine r_iload_n (dc dkX0_meetings 17 rfl) rfl (np 31 rfl ?_)
  refine r_iload (dc dkX0_meetings 18 rfl) rfl (np 33 rfl ?_)
  refine r_pV2 (y' := miX0_at) (dc dkX0_meetings 19 rfl) mlX0_39 ceX0_at (obBands hk) (Nat.le_of_ble_eq_true rfl) (Nat.le_of_ble_eq_true rfl) (c_X0_at hk (by assumption) (by omega) (by omega) (by omega) (by omega)) (np 36 rfl ?_)
  refine r_aload_n (dc dkX0_meetings 20 rfl) rfl (np 37 rfl ?_)
  refine r_iload_n (dc dkX0_meetings 21 rfl) rfl (np 38 rfl ?_)
  refine r_iload (dc dkX0_meetings 22 rfl) rfl (np 40 rfl ?_)
  refine r_iconst (dc dkX0_meetings 23 rfl) (np 41 rfl ?_)
  refine r_iadd (dc dkX0_meetings 24 rfl) (np 42 rfl ?_)
  refine r_pV2 (y' := miX0_at) (dc dkX0_meetings 25 rfl) mlX0_39 ceX0_at (obBands hk) (Nat.le_of_ble_eq_true rfl) (Nat.le_of_ble_eq_true rfl) (c_X0_at hk (by assumption) (by omega) (by omega) (by omega) (by omega)) (np 45 rfl ?_)
  refine r_aload_n (dc dkX0_meetings 26 rfl) rfl (np 46 rfl ?_)
  refine r_iload_n (dc dkX0_meetings 27 rfl) rfl (np 47 rfl ?_)
  refine r_iload (dc dkX0_meetings 28 rfl) rfl (np 49 rfl ?_)
  refine r_pV2 (y' := miX0_at) (dc dkX0_meetings 29 rfl) mlX0_39 ceX0_at (obBands hk) (Nat.le_of_ble_eq_true rfl) (Nat.le_of_ble_eq_true rfl) (c_X0_at hk (by assumption) (by omega) (by omega) (by omega) (by omega)) (np 52 rfl ?_)
  refine r_aload_n (dc dkX0_meetings 30 rfl) rfl (np 53 rfl ?_)
  refine r_iload_n (dc dkX0_meetings 31 rfl) rfl (np 54 rfl ?_)
  refine r_iload (dc dkX0_meetings 32 rfl) rfl (np 56 rfl ?_)
  refine r_iconst (dc dkX0_meetings 33 rfl) (np 57 rfl ?_)
  refine r_iadd (dc dkX0_meetings 34 rfl) (np 58 rfl ?_)
  refine r_pV2 (y' := miX0_at) (dc dkX0_meetings 35 rfl) mlX0_39 ceX0_at (obBands hk) (Nat.le_of_ble_eq_true rfl) (Nat.le_of_ble_eq_true rfl) (c_X0_at hk (by assumption) (by omega) (by omega) (by omega) (by omega)) (np 61 rfl ?_)
  refine r_pS4 (y' := miX7_meet) (dc dkX0_meetings 36 rfl) mlX0_90 seX7_meet (Nat.le_of_ble_eq_true rfl) (Nat.le_of_ble_eq_true rfl) (c_X7_meet (hP _ (by omega) (by omega)) (hP _ (by omega) (by omega)) (hQ _ (by omega) (by omega)) (hQ _ (by omega) (by omega))) (np 64 rfl ?_)
  refine r_iload_n (dc dkX0_meetings 37 rfl) rfl (np 65 rfl ?_)
  refine r_icmp_ne (tgt := 71) (dc dkX0_meetings 38 rfl) rfl (by have := mt_b (bAt σ k a i) (bAt σ k a (i + 1)) (bAt σ k b j) (bAt σ k b (j + 1)); omega) (by first | assumption | decide | omega) (fun h65 => ?_) (fun h65 => (np 68 rfl ?_))
  · skip
    refine r_iinc (lv' := [(6, _), (0, _), (1, _), (2, _), (3, _), (4, _), (5, _)]) (dc dkX0_meetings 40 rfl) (Nat.le_of_ble_eq_true rfl) rfl rfl (np 74 rfl ?_)
    refine r_goto (tgt := 19) (dc dkX0_meetings 41 rfl) rfl ?_
    refine r_pick [1, 2, 3, 4, 5, 6, 0] rfl ?_
    exact ih19 _ _ ⟨by omega, by omega, by first | (rw [smI_s _ (by omega), ← Int.add_assoc, ← hI19.2.2, bI_t (by omega)]; done) | rw [smI_s _ (by omega), ← Int.add_assoc, ← hI19.2.2, bI_f (by omega), Int.add_zero]⟩ (by omega)
  refine r_iinc (lv' := [(4, _), (0, _), (1, _), (2, _), (3, _), (5, _), (6, _)]) (dc dkX0_meetings 39 rfl) (Nat.le_of_ble_eq_true rfl) rfl rfl (np 71 rfl ?_)
  refine r_iinc (lv' := [(6, _), (4, _), (0, _), (1, _), (2, _), (3, _), (5, _)]) (dc dkX0_meetings 40 rfl) (Nat.le_of_ble_eq_true rfl) rfl rfl (np 74 rfl ?_)
  refine r_goto (tgt := 19) (dc dkX0_meetings 41 rfl) rfl ?_
  refine r_pick [2, 3, 4, 5, 1, 6, 0] rfl ?_
  exact ih19 _ _ ⟨by omega, by omega, by first | (rw [smI_s _ (by omega), ← Int.add_assoc, ← hI19.2.2, bI_t (by omega)]; done) | rw [smI_s _ (by omega), ← Int.add_assoc, ← hI19.2.2, bI_f (by omega), Int.add_zero]⟩ (by omega)
theorem meetN_b {n m : Int} {P Q : Int → Int} {w : Int} (hn : 0 ≤ n ∧ n ≤ 8) (hm : 0 ≤ m ∧ m ≤ 8) : 0 ≤ meetN n P m Q w ∧ meetN n P m Q w ≤ 64 := by
  have h := smI_nn (f := fun i => smI (fun j => bI (mt (P i) (P (i + 1)) (Q j) (Q (j + 1)) = w)) m) (A := 8) hn.1 (fun i _ _ => by
    have := smI_bI (f := fun j => mt (P i) (P (i + 1)) (Q j) (Q (j + 1)) = w) hm.1
    omega)
  unfold meetN
  omega
set_option maxRecDepth 100000 in
set_option maxHeartbeats 4000000 in
theorem c_X0_liesIn {σ : jS} {k : Nat} (hk : isBands k) (hB : okB σ k) {a b : Int} (h0 : 0 ≤ a) (h1 : a < 8) (g0 : 0 ≤ b) (g1 : b < 8) : Jp 5 miX0_liesIn [.ref k, vI a, vI b] σ (vI (bI (lieB (σ (k + 2) a) (bAt σ k a) (σ (k + 2) b) (bAt σ k b)))) := by
  have hs := hB.2.1 a h0 h1
  have hs2 := hB.2.1 b g0 g1
  have hP := bAt_P hB h0 h1
  have hQ := bAt_P hB g0 g1
  have hM := meetN_b (P := bAt σ k a) (Q := bAt σ k b) (w := 0) hs hs2
  have hmm : 0 ≤ (σ (k + 2) a) * (σ (k + 2) b) ∧ (σ (k + 2) a) * (σ (k + 2) b) ≤ 64 := by have := mulb (a := (σ (k + 2) a)) (b := (σ (k + 2) b)) (A := 8) (B := 8) (by omega) (by omega) (by omega) (by omega); exact ⟨Int.mul_nonneg hs.1 hs2.1, by omega⟩
  refine jm_ofF (Po := (jP (vI (bI (lieB (σ (k + 2) a) (bAt σ k a) (σ (k + 2) b) (bAt σ k b)))) σ)) (plainFor_of_name (by decide)) (Nat.le_of_ble_eq_true rfl) (lv := [(0, _), (1, _), (2, _)]) rfl ?_
  refine r_aload_n (dc dkX0_liesIn 0 rfl) rfl (np 1 rfl ?_)
  refine r_iload_n (dc dkX0_liesIn 1 rfl) rfl (np 2 rfl ?_)
  refine r_iload_n (dc dkX0_liesIn 2 rfl) rfl (np 3 rfl ?_)
  refine r_iconst (dc dkX0_liesIn 3 rfl) (np 4 rfl ?_)
  refine r_pV3 (y' := miX0_meetings) (dc dkX0_liesIn 4 rfl) mlX0_94 ceX0_meetings (obBands hk) (Nat.le_of_ble_eq_true rfl) (Nat.le_of_ble_eq_true rfl) (c_X0_meetings hk (by assumption) (by omega) (by omega) (by omega) (by omega) (by omega)) (np 7 rfl ?_)
  refine r_aload_n (dc dkX0_liesIn 5 rfl) rfl (np 8 rfl ?_)
  refine r_iload_n (dc dkX0_liesIn 6 rfl) rfl (np 9 rfl ?_)
  refine r_pV1 (y' := miX0_sizeOf) (dc dkX0_liesIn 7 rfl) mlX0_35 ceX0_sizeOf (obBands hk) (Nat.le_of_ble_eq_true rfl) (Nat.le_of_ble_eq_true rfl) (c_X0_sizeOf hk (by omega) (by omega)) (np 12 rfl ?_)
  refine r_aload_n (dc dkX0_liesIn 8 rfl) rfl (np 13 rfl ?_)
  refine r_iload_n (dc dkX0_liesIn 9 rfl) rfl (np 14 rfl ?_)
  refine r_pV1 (y' := miX0_sizeOf) (dc dkX0_liesIn 10 rfl) mlX0_35 ceX0_sizeOf (obBands hk) (Nat.le_of_ble_eq_true rfl) (Nat.le_of_ble_eq_true rfl) (c_X0_sizeOf hk (by omega) (by omega)) (np 17 rfl ?_)
  refine r_imul (dc dkX0_liesIn 11 rfl) (np 18 rfl ?_)
  refine r_icmp_eq (tgt := 23) (dc dkX0_liesIn 12 rfl) rfl (by first | assumption | decide | omega) (by first | assumption | decide | omega) (fun h18 => ?_) (fun h18 => (np 21 rfl ?_))
  · skip
    refine r_iconst (dc dkX0_liesIn 15 rfl) (np 24 rfl ?_)
    refine r_istore_n (lv' := [(3, _), (0, _), (1, _), (2, _)]) (dc dkX0_liesIn 16 rfl) (Nat.le_of_ble_eq_true rfl) rfl (np 25 rfl ?_)
    refine r_pick [1, 2, 3, 0] (lv' := [(0, _), (1, _), (2, _), (3, _)]) rfl ?_
    refine jlp1 (P := fun (i : Int) => jR _ _ _ 25 [(0, .ref k), (1, vI a), (2, vI b), (3, vI i)] [] σ) (I := fun (i : Int) => 0 ≤ i ∧ i ≤ (σ (k + 2) a) ∧ ∀ j, 0 ≤ j → j < i → wthB (σ (k + 2) b) (bAt σ k b) (bAt σ k a j)) (fun (i : Int) => ((σ (k + 2) a) - i).toNat) ?_ _ ⟨by omega, by omega, fun j _ _ => by omega⟩
    intro i hI25 ih25
    refine r_iload_n (dc dkX0_liesIn 17 rfl) rfl (np 26 rfl ?_)
    refine r_aload_n (dc dkX0_liesIn 18 rfl) rfl (np 27 rfl ?_)
    refine r_iload_n (dc dkX0_liesIn 19 rfl) rfl (np 28 rfl ?_)
    refine r_pV1 (y' := miX0_sizeOf) (dc dkX0_liesIn 20 rfl) mlX0_35 ceX0_sizeOf (obBands hk) (Nat.le_of_ble_eq_true rfl) (Nat.le_of_ble_eq_true rfl) (c_X0_sizeOf hk (by omega) (by omega)) (np 31 rfl ?_)
    refine r_icmp_ge (tgt := 56) (dc dkX0_liesIn 21 rfl) rfl (by first | assumption | decide | omega) (by first | assumption | decide | omega) (fun h31 => ?_) (fun h31 => (np 34 rfl ?_))
    · skip
      refine r_iconst (dc dkX0_liesIn 34 rfl) (np 57 rfl ?_)
      exact r_zret (dc dkX0_liesIn 35 rfl) rfl (by first | exact Or.inl rfl | exact Or.inr rfl) ⟨congrArg (fun z => some (vI z)) ((bI_t ⟨h18, fun j q0 q1 => hI25.2.2 j q0 (by omega)⟩).symm), rfl⟩
    refine r_aload_n (dc dkX0_liesIn 22 rfl) rfl (np 35 rfl ?_)
    refine r_iload_n (dc dkX0_liesIn 23 rfl) rfl (np 36 rfl ?_)
    refine r_aload_n (dc dkX0_liesIn 24 rfl) rfl (np 37 rfl ?_)
    refine r_iload_n (dc dkX0_liesIn 25 rfl) rfl (np 38 rfl ?_)
    refine r_iload_n (dc dkX0_liesIn 26 rfl) rfl (np 39 rfl ?_)
    refine r_pV2 (y' := miX0_at) (dc dkX0_liesIn 27 rfl) mlX0_39 ceX0_at (obBands hk) (Nat.le_of_ble_eq_true rfl) (Nat.le_of_ble_eq_true rfl) (c_X0_at hk (by assumption) (by omega) (by omega) (by omega) (by omega)) (np 42 rfl ?_)
    refine r_pV2 (y' := miX0_holdsWithin) (dc dkX0_liesIn 28 rfl) mlX0_97 ceX0_holdsWithin (obBands hk) (Nat.le_of_ble_eq_true rfl) (Nat.le_of_ble_eq_true rfl) (c_X0_holdsWithin hk (by assumption) (by omega) (by omega) (hP _ (by omega) (by omega))) (np 45 rfl ?_)
    refine r_bn (tgt := 50) (dc dkX0_liesIn 29 rfl) rfl (fun h45 => ?_) (fun h45 => (np 48 rfl ?_))
    · skip
      refine r_iinc (lv' := [(3, _), (0, _), (1, _), (2, _)]) (dc dkX0_liesIn 32 rfl) (Nat.le_of_ble_eq_true rfl) rfl rfl (np 53 rfl ?_)
      refine r_goto (tgt := 25) (dc dkX0_liesIn 33 rfl) rfl ?_
      refine r_pick [1, 2, 3, 0] rfl ?_
      exact ih25 _ ⟨by omega, by omega, fun j q0 q1 => by rcases (show j < i ∨ j = i by omega) with q | q; exact hI25.2.2 j q0 q; subst q; assumption⟩ (by omega)
    refine r_iconst (dc dkX0_liesIn 30 rfl) (np 49 rfl ?_)
    exact r_zret (dc dkX0_liesIn 31 rfl) rfl (by first | exact Or.inl rfl | exact Or.inr rfl) ⟨congrArg (fun z => some (vI z)) ((bI_f (fun q => h45 (q.2 i (by omega) (by omega)))).symm), rfl⟩
  refine r_iconst (dc dkX0_liesIn 13 rfl) (np 22 rfl ?_)
  exact r_zret (dc dkX0_liesIn 14 rfl) rfl (by first | exact Or.inl rfl | exact Or.inr rfl) ⟨congrArg (fun z => some (vI z)) ((bI_f (fun q => h18 q.1)).symm), rfl⟩
set_option maxRecDepth 100000 in
set_option maxHeartbeats 4000000 in
theorem c_X0_rimOf {σ : jS} {k : Nat} (hk : isBands k) (hB : okB σ k) {b : Int} (h0 : 0 ≤ b) (h1 : b < 8) {w : Int} (hw : 0 ≤ w ∧ w ≤ 3) : Jp 2 miX0_rimOf [.ref k, vI b, vI w] σ (vI (if w < 2 then mnN (fun i => if w % 2 = 0 then bAt σ k b i % 10 else bAt σ k b i / 10) 9 ((σ (k + 2) b)).toNat else mxN (fun i => if w % 2 = 0 then bAt σ k b i % 10 else bAt σ k b i / 10) 0 ((σ (k + 2) b)).toNat - mnN (fun i => if w % 2 = 0 then bAt σ k b i % 10 else bAt σ k b i / 10) 9 ((σ (k + 2) b)).toNat)) := by
  have hs := hB.2.1 b h0 h1
  have hP := bAt_P hB h0 h1
  refine jm_ofF (Po := (jP (vI (if w < 2 then mnN (fun i => if w % 2 = 0 then bAt σ k b i % 10 else bAt σ k b i / 10) 9 ((σ (k + 2) b)).toNat else mxN (fun i => if w % 2 = 0 then bAt σ k b i % 10 else bAt σ k b i / 10) 0 ((σ (k + 2) b)).toNat - mnN (fun i => if w % 2 = 0 then bAt σ k b i % 10 else bAt σ k b i / 10) 9 ((σ (k + 2) b)).toNat)) σ)) (plainFor_of_name (by decide)) (Nat.le_of_ble_eq_true rfl) (lv := [(0, _), (1, _), (2, _)]) rfl ?_
  refine r_bipush (dc dkX0_rimOf 0 rfl) bp_9 (np 2 rfl ?_)
  refine r_istore_n (lv' := [(3, _), (0, _), (1, _), (2, _)]) (dc dkX0_rimOf 1 rfl) (Nat.le_of_ble_eq_true rfl) rfl (np 3 rfl ?_)
  refine r_iconst (dc dkX0_rimOf 2 rfl) (np 4 rfl ?_)
  refine r_istore (lv' := [(4, _), (3, _), (0, _), (1, _), (2, _)]) (dc dkX0_rimOf 3 rfl) (Nat.le_of_ble_eq_true rfl) rfl (np 6 rfl ?_)
  refine r_iload_n (dc dkX0_rimOf 4 rfl) rfl (np 7 rfl ?_)
  refine r_iconst (dc dkX0_rimOf 5 rfl) (np 8 rfl ?_)
  refine r_iremn (dc dkX0_rimOf 6 rfl) (by first | assumption | decide | omega) (by first | assumption | decide | omega) (np 9 rfl ?_)
  refine r_if_ne (tgt := 16) (dc dkX0_rimOf 7 rfl) rfl (by first | assumption | decide | omega) (fun h9 => ?_) (fun h9 => (np 12 rfl ?_))
  · skip
    refine r_iconst (dc dkX0_rimOf 10 rfl) (np 17 rfl ?_)
    refine r_istore (lv' := [(5, _), (4, _), (3, _), (0, _), (1, _), (2, _)]) (dc dkX0_rimOf 11 rfl) (Nat.le_of_ble_eq_true rfl) rfl (np 19 rfl ?_)
    refine r_iconst (dc dkX0_rimOf 12 rfl) (np 20 rfl ?_)
    refine r_istore (lv' := [(6, _), (5, _), (4, _), (3, _), (0, _), (1, _), (2, _)]) (dc dkX0_rimOf 13 rfl) (Nat.le_of_ble_eq_true rfl) rfl (np 22 rfl ?_)
    refine r_pick [4, 5, 6, 3, 2, 1, 0] (lv' := [(0, _), (1, _), (2, _), (3, _), (4, _), (5, _), (6, _)]) rfl ?_
    refine jlp3 (P := fun (u : Int) (v : Int) (i : Int) => jR _ _ _ 22 [(0, .ref k), (1, vI b), (2, vI w), (3, vI u), (4, vI v), (5, vI (0)), (6, vI i)] [] σ) (I := fun (u : Int) (v : Int) (i : Int) => (0 ≤ i ∧ i ≤ (σ (k + 2) b) ∧ 0 ≤ u ∧ u ≤ 9 ∧ 0 ≤ v ∧ v ≤ 9) ∧ u = mnN (fun i => if w % 2 = 0 then bAt σ k b i % 10 else bAt σ k b i / 10) 9 i.toNat ∧ v = mxN (fun i => if w % 2 = 0 then bAt σ k b i % 10 else bAt σ k b i / 10) 0 i.toNat) (fun (u : Int) (v : Int) (i : Int) => ((σ (k + 2) b) - i).toNat) ?_ _ _ _ ⟨by omega, rfl, rfl⟩
    intro u v i hI22 ih22
    refine r_iload (dc dkX0_rimOf 14 rfl) rfl (np 24 rfl ?_)
    refine r_aload_n (dc dkX0_rimOf 15 rfl) rfl (np 25 rfl ?_)
    refine r_iload_n (dc dkX0_rimOf 16 rfl) rfl (np 26 rfl ?_)
    refine r_pV1 (y' := miX0_sizeOf) (dc dkX0_rimOf 17 rfl) mlX0_35 ceX0_sizeOf (obBands hk) (Nat.le_of_ble_eq_true rfl) (Nat.le_of_ble_eq_true rfl) (c_X0_sizeOf hk (by omega) (by omega)) (np 29 rfl ?_)
    refine r_icmp_ge (tgt := 84) (dc dkX0_rimOf 18 rfl) rfl (by first | assumption | decide | omega) (by first | assumption | decide | omega) (fun h29 => ?_) (fun h29 => (np 32 rfl ?_))
    · skip
      refine r_iload_n (dc dkX0_rimOf 45 rfl) rfl (np 85 rfl ?_)
      refine r_iconst (dc dkX0_rimOf 46 rfl) (np 86 rfl ?_)
      refine r_icmp_ge (tgt := 93) (dc dkX0_rimOf 47 rfl) rfl (by first | assumption | decide | omega) (by first | assumption | decide | omega) (fun h86 => ?_) (fun h86 => (np 89 rfl ?_))
      · skip
        refine r_iload (dc dkX0_rimOf 50 rfl) rfl (np 95 rfl ?_)
        refine r_iload_n (dc dkX0_rimOf 51 rfl) rfl (np 96 rfl ?_)
        refine r_isub (dc dkX0_rimOf 52 rfl) (np 97 rfl ?_)
        exact r_iret (dc dkX0_rimOf 53 rfl) rfl ⟨congrArg (fun z => some (vI z)) (by first | (rw [if_pos (by omega), hI22.2.1, show i = σ (k + 2) b by omega]; done) | rw [if_neg (by omega), hI22.2.1, hI22.2.2, show i = σ (k + 2) b by omega]), rfl⟩
      refine r_iload_n (dc dkX0_rimOf 48 rfl) rfl (np 90 rfl ?_)
      refine r_goto (tgt := 97) (dc dkX0_rimOf 49 rfl) rfl ?_
      exact r_iret (dc dkX0_rimOf 53 rfl) rfl ⟨congrArg (fun z => some (vI z)) (by first | (rw [if_pos (by omega), hI22.2.1, show i = σ (k + 2) b by omega]; done) | rw [if_neg (by omega), hI22.2.1, hI22.2.2, show i = σ (k + 2) b by omega]), rfl⟩
    have hp1 := hP i (by omega) (by omega)
    refine r_iload (dc dkX0_rimOf 19 rfl) rfl (np 34 rfl ?_)
    refine r_if_eq (tgt := 50) (dc dkX0_rimOf 20 rfl) rfl (by first | assumption | decide | omega) (fun h34 => ?_) (fun h34 => (np 37 rfl ?_))
    · skip
      refine r_aload_n (dc dkX0_rimOf 28 rfl) rfl (np 51 rfl ?_)
      refine r_iload_n (dc dkX0_rimOf 29 rfl) rfl (np 52 rfl ?_)
      refine r_iload (dc dkX0_rimOf 30 rfl) rfl (np 54 rfl ?_)
      refine r_pV2 (y' := miX0_at) (dc dkX0_rimOf 31 rfl) mlX0_39 ceX0_at (obBands hk) (Nat.le_of_ble_eq_true rfl) (Nat.le_of_ble_eq_true rfl) (c_X0_at hk (by assumption) (by omega) (by omega) (by omega) (by omega)) (np 57 rfl ?_)
      refine r_bipush (dc dkX0_rimOf 32 rfl) bp_10 (np 59 rfl ?_)
      refine r_idivn (dc dkX0_rimOf 33 rfl) (by first | assumption | decide | omega) (by first | assumption | decide | omega) (np 60 rfl ?_)
      refine r_istore (lv' := [(7, _), (0, _), (1, _), (2, _), (3, _), (4, _), (5, _), (6, _)]) (dc dkX0_rimOf 34 rfl) (Nat.le_of_ble_eq_true rfl) rfl (np 62 rfl ?_)
      refine r_iload_n (dc dkX0_rimOf 35 rfl) rfl (np 63 rfl ?_)
      refine r_iload (dc dkX0_rimOf 36 rfl) rfl (np 65 rfl ?_)
      refine r_pS2 (y' := miJ9_min_7cf53) (dc dkX0_rimOf 37 rfl) mlX0_100 seJ9_min_7cf53 (Nat.le_of_ble_eq_true rfl) (Nat.le_of_ble_eq_true rfl) (c_J9_min_7cf53 (by omega) (by omega)) (np 68 rfl ?_)
      refine r_istore_n (lv' := [(3, _), (7, _), (0, _), (1, _), (2, _), (4, _), (5, _), (6, _)]) (dc dkX0_rimOf 38 rfl) (Nat.le_of_ble_eq_true rfl) rfl (np 69 rfl ?_)
      refine r_iload (dc dkX0_rimOf 39 rfl) rfl (np 71 rfl ?_)
      refine r_iload (dc dkX0_rimOf 40 rfl) rfl (np 73 rfl ?_)
      refine r_pS2 (y' := miJ9_max_7cf53) (dc dkX0_rimOf 41 rfl) mlX0_103 seJ9_max_7cf53 (Nat.le_of_ble_eq_true rfl) (Nat.le_of_ble_eq_true rfl) (c_J9_max_7cf53 (by omega) (by omega)) (np 76 rfl ?_)
      refine r_istore (lv' := [(4, _), (3, _), (7, _), (0, _), (1, _), (2, _), (5, _), (6, _)]) (dc dkX0_rimOf 42 rfl) (Nat.le_of_ble_eq_true rfl) rfl (np 78 rfl ?_)
      refine r_iinc (lv' := [(6, _), (4, _), (3, _), (7, _), (0, _), (1, _), (2, _), (5, _)]) (dc dkX0_rimOf 43 rfl) (Nat.le_of_ble_eq_true rfl) rfl rfl (np 81 rfl ?_)
      refine r_goto (tgt := 22) (dc dkX0_rimOf 44 rfl) rfl ?_
      refine r_pick [4, 5, 6, 2, 1, 7, 0] rfl ?_
      exact ih22 _ _ _ ⟨by omega, by rw [mnN_s _ _ (by omega), ← hI22.2.1]; first | rw [if_pos h9] | rw [if_neg h9], by rw [mxN_s _ _ (by omega), ← hI22.2.2]; first | rw [if_pos h9] | rw [if_neg h9]⟩ (by omega)
    exact absurd h34 (by decide)
  refine r_iconst (dc dkX0_rimOf 8 rfl) (np 13 rfl ?_)
  refine r_goto (tgt := 17) (dc dkX0_rimOf 9 rfl) rfl ?_
  refine r_istore (lv' := [(5, _), (4, _), (3, _), (0, _), (1, _), (2, _)]) (dc dkX0_rimOf 11 rfl) (Nat.le_of_ble_eq_true rfl) rfl (np 19 rfl ?_)
  refine r_iconst (dc dkX0_rimOf 12 rfl) (np 20 rfl ?_)
  refine r_istore (lv' := [(6, _), (5, _), (4, _), (3, _), (0, _), (1, _), (2, _)]) (dc dkX0_rimOf 13 rfl) (Nat.le_of_ble_eq_true rfl) rfl (np 22 rfl ?_)
  refine r_pick [4, 5, 6, 3, 2, 1, 0] (lv' := [(0, _), (1, _), (2, _), (3, _), (4, _), (5, _), (6, _)]) rfl ?_
  refine jlp3 (P := fun (u : Int) (v : Int) (i : Int) => jR _ _ _ 22 [(0, .ref k), (1, vI b), (2, vI w), (3, vI u), (4, vI v), (5, vI (1)), (6, vI i)] [] σ) (I := fun (u : Int) (v : Int) (i : Int) => (0 ≤ i ∧ i ≤ (σ (k + 2) b) ∧ 0 ≤ u ∧ u ≤ 9 ∧ 0 ≤ v ∧ v ≤ 9) ∧ u = mnN (fun i => if w % 2 = 0 then bAt σ k b i % 10 else bAt σ k b i / 10) 9 i.toNat ∧ v = mxN (fun i => if w % 2 = 0 then bAt σ k b i % 10 else bAt σ k b i / 10) 0 i.toNat) (fun (u : Int) (v : Int) (i : Int) => ((σ (k + 2) b) - i).toNat) ?_ _ _ _ ⟨by omega, rfl, rfl⟩
  intro u v i hI22 ih22
  refine r_iload (dc dkX0_rimOf 14 rfl) rfl (np 24 rfl ?_)
  refine r_aload_n (dc dkX0_rimOf 15 rfl) rfl (np 25 rfl ?_)
  refine r_iload_n (dc dkX0_rimOf 16 rfl) rfl (np 26 rfl ?_)
  refine r_pV1 (y' := miX0_sizeOf) (dc dkX0_rimOf 17 rfl) mlX0_35 ceX0_sizeOf (obBands hk) (Nat.le_of_ble_eq_true rfl) (Nat.le_of_ble_eq_true rfl) (c_X0_sizeOf hk (by omega) (by omega)) (np 29 rfl ?_)
  refine r_icmp_ge (tgt := 84) (dc dkX0_rimOf 18 rfl) rfl (by first | assumption | decide | omega) (by first | assumption | decide | omega) (fun h29 => ?_) (fun h29 => (np 32 rfl ?_))
  · skip
    refine r_iload_n (dc dkX0_rimOf 45 rfl) rfl (np 85 rfl ?_)
    refine r_iconst (dc dkX0_rimOf 46 rfl) (np 86 rfl ?_)
    refine r_icmp_ge (tgt := 93) (dc dkX0_rimOf 47 rfl) rfl (by first | assumption | decide | omega) (by first | assumption | decide | omega) (fun h86 => ?_) (fun h86 => (np 89 rfl ?_))
    · skip
      refine r_iload (dc dkX0_rimOf 50 rfl) rfl (np 95 rfl ?_)
      refine r_iload_n (dc dkX0_rimOf 51 rfl) rfl (np 96 rfl ?_)
      refine r_isub (dc dkX0_rimOf 52 rfl) (np 97 rfl ?_)
      exact r_iret (dc dkX0_rimOf 53 rfl) rfl ⟨congrArg (fun z => some (vI z)) (by first | (rw [if_pos (by omega), hI22.2.1, show i = σ (k + 2) b by omega]; done) | rw [if_neg (by omega), hI22.2.1, hI22.2.2, show i = σ (k + 2) b by omega]), rfl⟩
    refine r_iload_n (dc dkX0_rimOf 48 rfl) rfl (np 90 rfl ?_)
    refine r_goto (tgt := 97) (dc dkX0_rimOf 49 rfl) rfl ?_
    exact r_iret (dc dkX0_rimOf 53 rfl) rfl ⟨congrArg (fun z => some (vI z)) (by first | (rw [if_pos (by omega), hI22.2.1, show i = σ (k + 2) b by omega]; done) | rw [if_neg (by omega), hI22.2.1, hI22.2.2, show i = σ (k + 2) b by omega]), rfl⟩
  have hp1 := hP i (by omega) (by omega)
  refine r_iload (dc dkX0_rimOf 19 rfl) rfl (np 34 rfl ?_)
  refine r_if_eq (tgt := 50) (dc dkX0_rimOf 20 rfl) rfl (by first | assumption | decide | omega) (fun h34 => ?_) (fun h34 => (np 37 rfl ?_))
  · exact absurd h34 (by decide)
  refine r_aload_n (dc dkX0_rimOf 21 rfl) rfl (np 38 rfl ?_)
  refine r_iload_n (dc dkX0_rimOf 22 rfl) rfl (np 39 rfl ?_)
  refine r_iload (dc dkX0_rimOf 23 rfl) rfl (np 41 rfl ?_)
  refine r_pV2 (y' := miX0_at) (dc dkX0_rimOf 24 rfl) mlX0_39 ceX0_at (obBands hk) (Nat.le_of_ble_eq_true rfl) (Nat.le_of_ble_eq_true rfl) (c_X0_at hk (by assumption) (by omega) (by omega) (by omega) (by omega)) (np 44 rfl ?_)
  refine r_bipush (dc dkX0_rimOf 25 rfl) bp_10 (np 46 rfl ?_)
  refine r_iremn (dc dkX0_rimOf 26 rfl) (by first | assumption | decide | omega) (by first | assumption | decide | omega) (np 47 rfl ?_)
  refine r_goto (tgt := 60) (dc dkX0_rimOf 27 rfl) rfl ?_
  refine r_istore (lv' := [(7, _), (0, _), (1, _), (2, _), (3, _), (4, _), (5, _), (6, _)]) (dc dkX0_rimOf 34 rfl) (Nat.le_of_ble_eq_true rfl) rfl (np 62 rfl ?_)
  refine r_iload_n (dc dkX0_rimOf 35 rfl) rfl (np 63 rfl ?_)
  refine r_iload (dc dkX0_rimOf 36 rfl) rfl (np 65 rfl ?_)
  refine r_pS2 (y' := miJ9_min_7cf53) (dc dkX0_rimOf 37 rfl) mlX0_100 seJ9_min_7cf53 (Nat.le_of_ble_eq_true rfl) (Nat.le_of_ble_eq_true rfl) (c_J9_min_7cf53 (by omega) (by omega)) (np 68 rfl ?_)
  refine r_istore_n (lv' := [(3, _), (7, _), (0, _), (1, _), (2, _), (4, _), (5, _), (6, _)]) (dc dkX0_rimOf 38 rfl) (Nat.le_of_ble_eq_true rfl) rfl (np 69 rfl ?_)
  refine r_iload (dc dkX0_rimOf 39 rfl) rfl (np 71 rfl ?_)
  refine r_iload (dc dkX0_rimOf 40 rfl) rfl (np 73 rfl ?_)
  refine r_pS2 (y' := miJ9_max_7cf53) (dc dkX0_rimOf 41 rfl) mlX0_103 seJ9_max_7cf53 (Nat.le_of_ble_eq_true rfl) (Nat.le_of_ble_eq_true rfl) (c_J9_max_7cf53 (by omega) (by omega)) (np 76 rfl ?_)
  refine r_istore (lv' := [(4, _), (3, _), (7, _), (0, _), (1, _), (2, _), (5, _), (6, _)]) (dc dkX0_rimOf 42 rfl) (Nat.le_of_ble_eq_true rfl) rfl (np 78 rfl ?_)
  refine r_iinc (lv' := [(6, _), (4, _), (3, _), (7, _), (0, _), (1, _), (2, _), (5, _)]) (dc dkX0_rimOf 43 rfl) (Nat.le_of_ble_eq_true rfl) rfl rfl (np 81 rfl ?_)
  refine r_goto (tgt := 22) (dc dkX0_rimOf 44 rfl) rfl ?_
  refine r_pick [4, 5, 6, 2, 1, 7, 0] rfl ?_
  exact ih22 _ _ _ ⟨by omega, by rw [mnN_s _ _ (by omega), ← hI22.2.1]; first | rw [if_pos h9] | rw [if_neg h9], by rw [mxN_s _ _ (by omega), ← hI22.2.2]; first | rw [if_pos h9] | rw [if_neg h9]⟩ (by omega)
set_option maxRecDepth 100000 in
set_option maxHeartbeats 4000000 in
theorem c_X0_widest {σ : jS} {k : Nat} (hk : isBands k) (hB : okB σ k) {b : Int} (h0 : 0 ≤ b) (h1 : b < 8) : Jp 3 miX0_widest [.ref k, vI b] σ (vI (wdN (bAt σ k b) ((σ (k + 2) b)).toNat)) := by
  have hs := hB.2.1 b h0 h1
  have hP := bAt_P hB h0 h1
  refine jm_ofF (Po := (jP (vI (wdN (bAt σ k b) ((σ (k + 2) b)).toNat)) σ)) (plainFor_of_name (by decide)) (Nat.le_of_ble_eq_true rfl) (lv := [(0, _), (1, _)]) rfl ?_
  refine r_iconst (dc dkX0_widest 0 rfl) (np 1 rfl ?_)
  refine r_istore_n (lv' := [(2, _), (0, _), (1, _)]) (dc dkX0_widest 1 rfl) (Nat.le_of_ble_eq_true rfl) rfl (np 2 rfl ?_)
  refine r_iconst (dc dkX0_widest 2 rfl) (np 3 rfl ?_)
  refine r_istore_n (lv' := [(3, _), (2, _), (0, _), (1, _)]) (dc dkX0_widest 3 rfl) (Nat.le_of_ble_eq_true rfl) rfl (np 4 rfl ?_)
  refine r_pick [2, 3, 1, 0] (lv' := [(0, _), (1, _), (2, _), (3, _)]) rfl ?_
  refine jlp2 (P := fun (s : Int) (i : Int) => jR _ _ _ 4 [(0, .ref k), (1, vI b), (2, vI s), (3, vI i)] [] σ) (I := fun (s : Int) (i : Int) => 0 ≤ i ∧ i ≤ (σ (k + 2) b) ∧ s = wdN (bAt σ k b) i.toNat ∧ 0 ≤ s ∧ s ≤ 162) (fun (s : Int) (i : Int) => ((σ (k + 2) b) - i).toNat) ?_ _ _ ⟨by omega, by omega, rfl, by omega, by omega⟩
  intro s i hI4 ih4
  refine r_iload_n (dc dkX0_widest 4 rfl) rfl (np 5 rfl ?_)
  refine r_aload_n (dc dkX0_widest 5 rfl) rfl (np 6 rfl ?_)
  refine r_iload_n (dc dkX0_widest 6 rfl) rfl (np 7 rfl ?_)
  refine r_pV1 (y' := miX0_sizeOf) (dc dkX0_widest 7 rfl) mlX0_35 ceX0_sizeOf (obBands hk) (Nat.le_of_ble_eq_true rfl) (Nat.le_of_ble_eq_true rfl) (c_X0_sizeOf hk (by omega) (by omega)) (np 10 rfl ?_)
  refine r_icmp_ge (tgt := 55) (dc dkX0_widest 8 rfl) rfl (by first | assumption | decide | omega) (by first | assumption | decide | omega) (fun h10 => ?_) (fun h10 => (np 13 rfl ?_))
  · skip
    refine r_iload_n (dc dkX0_widest 30 rfl) rfl (np 56 rfl ?_)
    exact r_iret (dc dkX0_widest 31 rfl) rfl ⟨congrArg (fun z => some (vI z)) (by rw [hI4.2.2.1, show i = σ (k + 2) b by omega]), rfl⟩
  refine r_iconst (dc dkX0_widest 9 rfl) (np 14 rfl ?_)
  refine r_istore (lv' := [(4, _), (0, _), (1, _), (2, _), (3, _)]) (dc dkX0_widest 10 rfl) (Nat.le_of_ble_eq_true rfl) rfl (np 16 rfl ?_)
  refine r_pick [1, 2, 3, 4, 0] (lv' := [(0, _), (1, _), (2, _), (3, _), (4, _)]) rfl ?_
  refine jlp2 (P := fun (t : Int) (j : Int) => jR _ _ _ 16 [(0, .ref k), (1, vI b), (2, vI t), (3, vI i), (4, vI j)] [] σ) (I := fun (t : Int) (j : Int) => 0 ≤ j ∧ j ≤ i ∧ t = mxN (fun j => al (bAt σ k b i) (bAt σ k b j) (bAt σ k b j)) s j.toNat ∧ 0 ≤ t ∧ t ≤ 162) (fun (t : Int) (j : Int) => (i - j).toNat) ?_ _ _ ⟨by omega, by omega, rfl, by omega, by omega⟩
  intro t j hI16 ih16
  refine r_iload (dc dkX0_widest 11 rfl) rfl (np 18 rfl ?_)
  refine r_iload_n (dc dkX0_widest 12 rfl) rfl (np 19 rfl ?_)
  refine r_icmp_ge (tgt := 49) (dc dkX0_widest 13 rfl) rfl (by first | assumption | decide | omega) (by first | assumption | decide | omega) (fun h19 => ?_) (fun h19 => (np 22 rfl ?_))
  · skip
    refine r_iinc (lv' := [(3, _), (0, _), (1, _), (2, _), (4, _)]) (dc dkX0_widest 28 rfl) (Nat.le_of_ble_eq_true rfl) rfl rfl (np 52 rfl ?_)
    refine r_goto (tgt := 4) (dc dkX0_widest 29 rfl) rfl ?_
    refine r_pick [1, 2, 3, 0] rfl ?_
    exact ih4 _ _ ⟨by omega, by omega, by rw [wdN_s _ (by omega), ← hI4.2.2.1, hI16.2.2.1, show j = i by omega], by omega, by omega⟩ (by omega)
  have hal := al_b (hP i (by omega) (by omega)) (hP j (by omega) (by omega)) (hP j (by omega) (by omega))
  refine r_iload_n (dc dkX0_widest 14 rfl) rfl (np 23 rfl ?_)
  refine r_aload_n (dc dkX0_widest 15 rfl) rfl (np 24 rfl ?_)
  refine r_iload_n (dc dkX0_widest 16 rfl) rfl (np 25 rfl ?_)
  refine r_iload_n (dc dkX0_widest 17 rfl) rfl (np 26 rfl ?_)
  refine r_pV2 (y' := miX0_at) (dc dkX0_widest 18 rfl) mlX0_39 ceX0_at (obBands hk) (Nat.le_of_ble_eq_true rfl) (Nat.le_of_ble_eq_true rfl) (c_X0_at hk (by assumption) (by omega) (by omega) (by omega) (by omega)) (np 29 rfl ?_)
  refine r_aload_n (dc dkX0_widest 19 rfl) rfl (np 30 rfl ?_)
  refine r_iload_n (dc dkX0_widest 20 rfl) rfl (np 31 rfl ?_)
  refine r_iload (dc dkX0_widest 21 rfl) rfl (np 33 rfl ?_)
  refine r_pV2 (y' := miX0_at) (dc dkX0_widest 22 rfl) mlX0_39 ceX0_at (obBands hk) (Nat.le_of_ble_eq_true rfl) (Nat.le_of_ble_eq_true rfl) (c_X0_at hk (by assumption) (by omega) (by omega) (by omega) (by omega)) (np 36 rfl ?_)
  refine r_pS2 (y' := miX7_square) (dc dkX0_widest 23 rfl) mlX0_106 seX7_square (Nat.le_of_ble_eq_true rfl) (Nat.le_of_ble_eq_true rfl) (c_X7_square (hP _ (by omega) (by omega)) (hP _ (by omega) (by omega))) (np 39 rfl ?_)
  refine r_pS2 (y' := miJ9_max_7cf53) (dc dkX0_widest 24 rfl) mlX0_103 seJ9_max_7cf53 (Nat.le_of_ble_eq_true rfl) (Nat.le_of_ble_eq_true rfl) (c_J9_max_7cf53 (by omega) (by omega)) (np 42 rfl ?_)
  refine r_istore_n (lv' := [(2, _), (0, _), (1, _), (3, _), (4, _)]) (dc dkX0_widest 25 rfl) (Nat.le_of_ble_eq_true rfl) rfl (np 43 rfl ?_)
  refine r_iinc (lv' := [(4, _), (2, _), (0, _), (1, _), (3, _)]) (dc dkX0_widest 26 rfl) (Nat.le_of_ble_eq_true rfl) rfl rfl (np 46 rfl ?_)
  refine r_goto (tgt := 16) (dc dkX0_widest 27 rfl) rfl ?_
  refine r_pick [2, 3, 1, 4, 0] rfl ?_
  exact ih16 _ _ ⟨by omega, by omega, by rw [mxN_s _ _ (by omega), ← hI16.2.2.1], by omega, by omega⟩ (by omega)
