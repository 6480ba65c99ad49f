/-! ===== triangles moved peg by peg: the class ===== -/
theorem shr6 {n : Int} (h : 0 ≤ n ∧ n ≤ 2147483647) : iShr n 6 = n / 64 := by
  unfold iShr
  have e1 : (Int32.ofInt n >>> (Int32.ofInt ((6 : Nat) : Int) &&& 31)).toBitVec = (Int32.ofInt n).toBitVec.sshiftRight 6 := by
    rw [Int32.toBitVec_shiftRight, BitVec.sshiftRight_eq', bx_c32 6 (by omega)]
  show (Int32.ofInt n >>> (Int32.ofInt ((6 : Nat) : Int) &&& 31)).toBitVec.toInt = _
  rw [e1, BitVec.toInt_sshiftRight, show (Int32.ofInt n).toBitVec.toInt = (Int32.ofInt n).toInt from rfl, i_of ⟨by omega, by omega⟩, Int.shiftRight_eq_div_pow]
  rfl
theorem and63 (z : Int) : iAnd z 63 = z % 64 := by
  unfold iAnd
  show ((Int32.ofInt z &&& Int32.ofInt 63).toBitVec).toInt = _
  rw [Int32.toBitVec_and, show (Int32.ofInt z).toBitVec = BitVec.ofInt 32 z from rfl, show (Int32.ofInt 63).toBitVec = BitVec.ofNat 32 63 from rfl]
  have h2 : (BitVec.ofInt 32 z &&& BitVec.ofNat 32 63).toNat = (BitVec.ofInt 32 z).toNat % 64 := by
    rw [BitVec.toNat_and, show (BitVec.ofNat 32 63).toNat = 2 ^ 6 - 1 by decide, Nat.and_two_pow_sub_one_eq_mod]
  rw [BitVec.toInt_eq_toNat_of_lt (by rw [h2]; omega), h2, BitVec.toNat_ofInt]
  omega
/-- a number's bit in a row of longs -/
def bs (f : Int → Int) (n : Int) : Prop := bt (f (n / 64)) (n % 64)
def c2 (m : Int) : Int := m * (m - 1) / 2
def c3 (h : Int) : Int := h * (h - 1) * (h - 2) / 6
theorem c3_bN : ∀ k : Nat, k < 36 → (0 ≤ (k : Int) * ((k : Int) - 1) * ((k : Int) - 2) ∧ (k : Int) * ((k : Int) - 1) * ((k : Int) - 2) ≤ 100000) ∧ (0 ≤ (k : Int) * ((k : Int) - 1) ∧ (k : Int) * ((k : Int) - 1) ≤ 100000) := by decide
theorem c3_b {h : Int} (hh : 0 ≤ h ∧ h < 36) : (0 ≤ h * (h - 1) * (h - 2) ∧ h * (h - 1) * (h - 2) ≤ 100000) ∧ (0 ≤ h * (h - 1) ∧ h * (h - 1) ≤ 100000) := by
  obtain ⟨k, rfl⟩ := Int.eq_ofNat_of_zero_le hh.1
  exact c3_bN k (by omega)
theorem c_sN : ∀ k : Nat, k < 36 → c2 ((k : Int) + 1) = c2 k + k ∧ c3 ((k : Int) + 1) = c3 k + c2 k ∧ 0 ≤ c2 k ∧ 0 ≤ c3 k ∧ c3 ((k : Int) + 1) ≤ 7140 := by decide
theorem c_s {k : Int} (hk : 0 ≤ k ∧ k < 36) : c2 (k + 1) = c2 k + k ∧ c3 (k + 1) = c3 k + c2 k ∧ 0 ≤ c2 k ∧ 0 ≤ c3 k ∧ c3 (k + 1) ≤ 7140 := by
  obtain ⟨n, rfl⟩ := Int.eq_ofNat_of_zero_le hk.1
  exact c_sN n (by omega)
theorem c2_m {a b : Int} (h0 : 0 ≤ a) (h1 : a ≤ b) (h2 : b < 36) : c2 a ≤ c2 b := by
  obtain ⟨n, hn⟩ : ∃ n : Nat, b = a + n := ⟨(b - a).toNat, by omega⟩
  subst hn
  induction n with
  | zero => simp
  | succ n ih =>
    have := ih (by omega) (by omega)
    have s := (c_s (k := a + n) (by omega)).1
    rw [show a + ((n + 1 : Nat) : Int) = a + n + 1 by omega, s]
    omega
theorem c3_m {a b : Int} (h0 : 0 ≤ a) (h1 : a ≤ b) (h2 : b < 36) : c3 a ≤ c3 b := by
  obtain ⟨n, hn⟩ : ∃ n : Nat, b = a + n := ⟨(b - a).toNat, by omega⟩
  subst hn
  induction n with
  | zero => simp
  | succ n ih =>
    have := ih (by omega) (by omega)
    have s := c_s (k := a + n) (by omega)
    rw [show a + ((n + 1 : Nat) : Int) = a + n + 1 by omega, s.2.1]
    omega
def hi3 (p q r : Int) : Int := max p (max q r)
def lo3 (p q r : Int) : Int := min p (min q r)
def md3 (p q r : Int) : Int := p + q + r - hi3 p q r - lo3 p q r
def nm3 (p q r : Int) : Int := c3 (hi3 p q r) + c2 (md3 p q r) + lo3 p q r
theorem srt3 {p q r : Int} (hd : ¬ p = q ∧ ¬ p = r ∧ ¬ q = r) : lo3 p q r < md3 p q r ∧ md3 p q r < hi3 p q r := by
  unfold md3 lo3 hi3
  omega
theorem nm3_b {p q r : Int} (hp : 0 ≤ p ∧ p < 36) (hq : 0 ≤ q ∧ q < 36) (hr : 0 ≤ r ∧ r < 36) (hd : ¬ p = q ∧ ¬ p = r ∧ ¬ q = r) : 0 ≤ nm3 p q r ∧ nm3 p q r < 7140 := by
  have s := srt3 hd
  have b0 : 0 ≤ lo3 p q r := by unfold lo3; omega
  have b1 : hi3 p q r < 36 := by unfold hi3; omega
  unfold nm3
  have u := c_s (k := hi3 p q r) (by omega)
  have v := c_s (k := md3 p q r) (by omega)
  have w := c2_m (a := md3 p q r + 1) (b := hi3 p q r) (by omega) (by omega) b1
  omega
theorem nm3_inj {p q r p' q' r' : Int} (hp : 0 ≤ p ∧ p < 36) (hq : 0 ≤ q ∧ q < 36) (hr : 0 ≤ r ∧ r < 36) (hd : ¬ p = q ∧ ¬ p = r ∧ ¬ q = r) (hp' : 0 ≤ p' ∧ p' < 36) (hq' : 0 ≤ q' ∧ q' < 36) (hr' : 0 ≤ r' ∧ r' < 36) (hd' : ¬ p' = q' ∧ ¬ p' = r' ∧ ¬ q' = r')
    (e : nm3 p q r = nm3 p' q' r') : hi3 p q r = hi3 p' q' r' ∧ md3 p q r = md3 p' q' r' ∧ lo3 p q r = lo3 p' q' r' := by
  have s := srt3 hd
  have s' := srt3 hd'
  have b0 : 0 ≤ lo3 p q r := by unfold lo3; omega
  have b1 : hi3 p q r < 36 := by unfold hi3; omega
  have b0' : 0 ≤ lo3 p' q' r' := by unfold lo3; omega
  have b1' : hi3 p' q' r' < 36 := by unfold hi3; omega
  unfold nm3 at e
  generalize hi3 p q r = h at *
  generalize md3 p q r = m at *
  generalize lo3 p q r = l at *
  generalize hi3 p' q' r' = h' at *
  generalize md3 p' q' r' = m' at *
  generalize lo3 p' q' r' = l' at *
  have v := c_s (k := m) (by omega)
  have v' := c_s (k := m') (by omega)
  have u := c_s (k := h) (by omega)
  have u' := c_s (k := h') (by omega)
  have w := c2_m (a := m + 1) (b := h) (by omega) (by omega) b1
  have w' := c2_m (a := m' + 1) (b := h') (by omega) (by omega) b1'
  have eh : h = h' := by
    rcases Int.lt_trichotomy h h' with c | c | c
    · have := c3_m (a := h + 1) (b := h') (by omega) (by omega) b1'; omega
    · exact c
    · have := c3_m (a := h' + 1) (b := h) (by omega) (by omega) b1; omega
  subst eh
  have em : m = m' := by
    rcases Int.lt_trichotomy m m' with c | c | c
    · have := c2_m (a := m + 1) (b := m') (by omega) (by omega) (by omega); omega
    · exact c
    · have := c2_m (a := m' + 1) (b := m) (by omega) (by omega) (by omega); omega
  subst em
  exact ⟨rfl, rfl, by omega⟩
theorem nm3_s {p q r : Int} (h : p < q ∧ q < r) : nm3 p q r = c3 r + c2 q + p := by
  unfold nm3 md3
  rw [show hi3 p q r = r by unfold hi3; omega, show lo3 p q r = p by unfold lo3; omega, show p + q + r - r - p = q by omega]
theorem nm3_12 (p q r : Int) : nm3 q p r = nm3 p q r := by
  unfold nm3 md3
  rw [show hi3 q p r = hi3 p q r by unfold hi3; omega, show lo3 q p r = lo3 p q r by unfold lo3; omega, show q + p + r = p + q + r by omega]
theorem nm3_23 (p q r : Int) : nm3 p r q = nm3 p q r := by
  unfold nm3 md3
  rw [show hi3 p r q = hi3 p q r by unfold hi3; omega, show lo3 p r q = lo3 p q r by unfold lo3; omega, show p + r + q = p + q + r by omega]
/-- the peg of a place -/
def pgW (w p : Int) : Int := p / w * 10 + p % w
theorem pgW_b {w h p : Int} (hw : 2 ≤ w ∧ w ≤ 10) (hh : 2 ≤ h ∧ h ≤ 10) (hp : 0 ≤ p ∧ p < w * h) : isPg (pgW w p) ∧ pgW w p % 10 = p % w ∧ pgW w p / 10 = p / w ∧ (0 ≤ p % w ∧ p % w < w) ∧ (0 ≤ p / w ∧ p / w < h) := by
  have a1 := Int.emod_nonneg p (show w ≠ 0 by omega)
  have a2 := Int.emod_lt_of_pos p (show 0 < w by omega)
  have a3 := Int.ediv_nonneg hp.1 (show 0 ≤ w by omega)
  have a4 := Int.ediv_lt_of_lt_mul (show 0 < w by omega) (show p < h * w by rw [Int.mul_comm]; exact hp.2)
  unfold pgW
  refine ⟨⟨by omega, by omega⟩, by omega, by omega, ⟨a1, a2⟩, ⟨a3, a4⟩⟩
/-- the class' rows for moves -/
def MV (σ : jS) (w h : Int) (pk : Int → Int) : Prop := (2 ≤ w ∧ w ≤ 10) ∧ (2 ≤ h ∧ h ≤ 10) ∧ w * h ≤ 36 ∧ σ 17 5 = w ∧ σ 17 6 = w * h ∧ ∀ p, 0 ≤ p → p < w * h → σ 21 p = pgW w p ∧ σ 22 p = bI (pk (pgW w p) = 1)
theorem MV_c {σ τ : jS} {w h : Int} {pk : Int → Int} (m : MV σ w h pk) (e1 : τ 17 = σ 17) (e2 : τ 21 = σ 21) (e3 : τ 22 = σ 22) : MV τ w h pk := by
  unfold MV
  rw [e1, e2, e3]; exact m
def SA (σ : jS) (S0 A : Int → Prop) : Prop := ∀ n, 0 ≤ n → n < 7168 → (bs (σ 18) n ↔ S0 n ∨ A n) ∧ (bs (σ 20) n ↔ A n ∧ ¬ S0 n)
theorem SA_c {σ : jS} {S0 A A' : Int → Prop} (h : SA σ S0 A) (e : ∀ n, 0 ≤ n → n < 7168 → (A n ↔ A' n)) : SA σ S0 A' := fun n n0 n1 => by
  have := h n n0 n1
  rw [← e n n0 n1]; exact this
def okr (w h : Int) (pk : Int → Int) (p q r : Int) : Prop := (0 ≤ p ∧ p < w * h) ∧ pk (pgW w p) = 1 ∧ ¬ tn (pgW w p) (pgW w q) (pgW w r) = 0
theorem tn_aa (a c : Int) : tn a a c = 0 := by unfold tn crs; rw [Int.sub_self, Int.sub_self, Int.zero_mul, Int.zero_mul]; rfl
theorem tn_ac (a c : Int) : tn a c a = 0 := by unfold tn crs; rw [Int.sub_self, Int.sub_self, Int.mul_zero, Int.mul_zero]; rfl
theorem tn_cc (a c : Int) : tn a c c = 0 := by unfold tn crs; rw [Int.mul_comm]; omega
theorem tn_ds {w p q r : Int} (h : ¬ tn (pgW w p) (pgW w q) (pgW w r) = 0) : ¬ p = q ∧ ¬ p = r ∧ ¬ q = r :=
  ⟨fun e => h (by rw [e]; exact tn_aa _ _), fun e => h (by rw [e]; exact tn_ac _ _), fun e => h (by rw [e]; exact tn_cc _ _)⟩
def nbr (w h : Int) (pk : Int → Int) (p p' : Int) : Prop := ((p' = p - 1 ∧ 0 < p % w) ∨ (p' = p + 1 ∧ p % w < w - 1) ∨ p' = p - w ∨ p' = p + w) ∧ (0 ≤ p' ∧ p' < w * h) ∧ pk (pgW w p') = 1
def mvA (w h : Int) (pk : Int → Int) (p q r n : Int) : Prop := ∃ p', nbr w h pk p p' ∧ ¬ tn (pgW w p') (pgW w q) (pgW w r) = 0 ∧ n = nm3 p' q r
set_option maxRecDepth 100000 in
set_option maxHeartbeats 4000000 in
theorem c_J7_fill_d0a16 {σ : jS} {a : Nat} (ha : jAr a = some (1, 112)) : Jm 1 miJ7_fill_d0a16 [.ref a, vL 0] σ (fun r τ => r = none ∧ (∀ c, ¬ c = a → τ c = σ c) ∧ ∀ i, 0 ≤ i → i < 112 → τ a i = 0) := by
  refine jm_ofF (Po := (fun r τ => r = none ∧ (∀ c, ¬ c = a → τ c = σ c) ∧ ∀ i, 0 ≤ i → i < 112 → τ a i = 0)) (by decide +kernel) (Nat.le_of_ble_eq_true rfl) (lv := [(0, _), (1, _)]) rfl ?_
  refine r_iconst (dc dkJ7_fill_d0a16 0 rfl) (np 1 rfl ?_)
  refine r_istore_n (lv' := [(3, _), (0, _), (1, _)]) (dc dkJ7_fill_d0a16 1 rfl) (Nat.le_of_ble_eq_true rfl) rfl (np 2 rfl ?_)
  refine r_aload_n (dc dkJ7_fill_d0a16 2 rfl) rfl (np 3 rfl ?_)
  refine r_alen (dc dkJ7_fill_d0a16 3 rfl) ha (Nat.le_of_ble_eq_true rfl) (np 4 rfl ?_)
  refine r_eqI 112 rfl ?_
  refine r_istore (lv' := [(4, _), (3, _), (0, _), (1, _)]) (dc dkJ7_fill_d0a16 4 rfl) (Nat.le_of_ble_eq_true rfl) rfl (np 6 rfl ?_)
  refine r_pick [2, 3, 1, 0] (lv' := [(0, _), (1, _), (3, _), (4, _)]) rfl ?_
  refine jlp2 (P := fun (i : Int) (τ : jS) => jR _ _ _ 6 [(0, .ref a), (1, vL 0), (3, vI i), (4, vI 112)] [] τ) (I := fun (i : Int) (τ : jS) => (0 ≤ i ∧ i ≤ 112) ∧ (∀ c, ¬ c = a → τ c = σ c) ∧ ∀ j, 0 ≤ j → j < i → τ a j = 0) (fun (i : Int) (τ : jS) => (112 - i).toNat) ?_ _ _ ⟨by omega, fun _ _ => rfl, fun j j0 j1 => by omega⟩
  intro i τ hI6 ih6
  refine r_iload_n (dc dkJ7_fill_d0a16 5 rfl) rfl (np 7 rfl ?_)
  refine r_iload (dc dkJ7_fill_d0a16 6 rfl) rfl (np 9 rfl ?_)
  refine r_icmp_ge (tgt := 22) (dc dkJ7_fill_d0a16 7 rfl) rfl (by first | assumption | decide | omega) (by first | assumption | decide | omega) (fun h9 => ?_) (fun h9 => (np 12 rfl ?_))
  · skip
    exact r_vret (dc dkJ7_fill_d0a16 14 rfl) rfl ⟨rfl, hI6.2.1, fun j j0 j1 => hI6.2.2 j j0 (by omega)⟩
  refine r_aload_n (dc dkJ7_fill_d0a16 8 rfl) rfl (np 13 rfl ?_)
  refine r_iload_n (dc dkJ7_fill_d0a16 9 rfl) rfl (np 14 rfl ?_)
  refine r_lload_n (dc dkJ7_fill_d0a16 10 rfl) rfl (np 15 rfl ?_)
  refine r_last (dc dkJ7_fill_d0a16 11 rfl) ha (by omega) (np 16 rfl ?_)
  refine r_iinc (lv' := [(3, _), (0, _), (1, _), (4, _)]) (dc dkJ7_fill_d0a16 12 rfl) (Nat.le_of_ble_eq_true rfl) rfl rfl (np 19 rfl ?_)
  refine r_goto (tgt := 6) (dc dkJ7_fill_d0a16 13 rfl) rfl ?_
  refine r_pick [1, 2, 0, 3] rfl ?_
  exact ih6 _ _ ⟨by omega, fun c hc => by rw [ju_off _ _ _ _ _ hc]; exact hI6.2.1 c hc, fun j j0 j1 => by by_cases q : j = i; rw [q, ju_at]; rw [ju_ne (by omega)]; exact hI6.2.2 j j0 (by omega)⟩ (by omega)
set_option maxRecDepth 100000 in
set_option maxHeartbeats 4000000 in
theorem c_X5_isMarked {σ : jS} {a : Nat} (ha : jAr a = some (1, 112)) {n : Int} (hn : iR n) : Jp 1 miX5_isMarked [.ref a, vI n] σ (vI (bI ((0 ≤ n ∧ n < 7168) ∧ bs (σ a) n))) := by
  refine jm_ofF (Po := (jP (vI (bI ((0 ≤ n ∧ n < 7168) ∧ bs (σ a) n))) σ)) (plainFor_of_name (by decide)) (Nat.le_of_ble_eq_true rfl) (lv := [(0, _), (1, _)]) rfl ?_
  refine r_iload_n (dc dkX5_isMarked 0 rfl) rfl (np 1 rfl ?_)
  refine r_if_lt (tgt := 35) (dc dkX5_isMarked 1 rfl) rfl (by first | assumption | decide | omega) (fun h1 => ?_) (fun h1 => (np 4 rfl ?_))
  · skip
    refine r_iconst (dc dkX5_isMarked 24 rfl) (np 36 rfl ?_)
    exact r_zret (dc dkX5_isMarked 25 rfl) rfl (by first | exact Or.inl rfl | exact Or.inr rfl) ⟨congrArg (fun z => some (vI z)) (by first | exact bT ⟨by omega, Classical.byContradiction (fun w => h28 (jcmp_b.mpr w))⟩ | exact bF (fun w => by have := w.1; omega) | exact bF (fun w => (jcmp_b.mp h28) w.2)), rfl⟩
  refine r_iload_n (dc dkX5_isMarked 2 rfl) rfl (np 5 rfl ?_)
  refine r_bipush (dc dkX5_isMarked 3 rfl) bp_6 (np 7 rfl ?_)
  refine r_ishr (dc dkX5_isMarked 4 rfl) (np 8 rfl ?_)
  refine r_eqI (n / 64) (shr6 (by omega)) ?_
  refine r_aload_n (dc dkX5_isMarked 5 rfl) rfl (np 9 rfl ?_)
  refine r_alen (dc dkX5_isMarked 6 rfl) ha (Nat.le_of_ble_eq_true rfl) (np 10 rfl ?_)
  refine r_eqI 112 rfl ?_
  refine r_icmp_ge (tgt := 35) (dc dkX5_isMarked 7 rfl) rfl (by first | assumption | decide | omega) (by first | assumption | decide | omega) (fun h10 => ?_) (fun h10 => (np 13 rfl ?_))
  · skip
    refine r_iconst (dc dkX5_isMarked 24 rfl) (np 36 rfl ?_)
    exact r_zret (dc dkX5_isMarked 25 rfl) rfl (by first | exact Or.inl rfl | exact Or.inr rfl) ⟨congrArg (fun z => some (vI z)) (by first | exact bT ⟨by omega, Classical.byContradiction (fun w => h28 (jcmp_b.mpr w))⟩ | exact bF (fun w => by have := w.1; omega) | exact bF (fun w => (jcmp_b.mp h28) w.2)), rfl⟩
  refine r_aload_n (dc dkX5_isMarked 8 rfl) rfl (np 14 rfl ?_)
  refine r_iload_n (dc dkX5_isMarked 9 rfl) rfl (np 15 rfl ?_)
  refine r_bipush (dc dkX5_isMarked 10 rfl) bp_6 (np 17 rfl ?_)
  refine r_ishr (dc dkX5_isMarked 11 rfl) (np 18 rfl ?_)
  refine r_eqI (n / 64) (shr6 (by omega)) ?_
  refine r_lald (dc dkX5_isMarked 12 rfl) ha (by omega) (np 19 rfl ?_)
  refine r_iload_n (dc dkX5_isMarked 13 rfl) rfl (np 20 rfl ?_)
  refine r_bipush (dc dkX5_isMarked 14 rfl) bp_63 (np 22 rfl ?_)
  refine r_iand (dc dkX5_isMarked 15 rfl) (np 23 rfl ?_)
  refine r_eqI (n % 64) (and63 n) ?_
  refine r_lshr (dc dkX5_isMarked 16 rfl) (np 24 rfl ?_)
  refine r_lconst (dc dkX5_isMarked 17 rfl) lc_1 (np 25 rfl ?_)
  refine r_land (dc dkX5_isMarked 18 rfl) (np 26 rfl ?_)
  refine r_eqL (bI (bs (σ a) n)) (lbit (by omega)) ?_
  refine r_lconst (dc dkX5_isMarked 19 rfl) lc_0 (np 27 rfl ?_)
  refine r_lcmp (dc dkX5_isMarked 20 rfl) (by have := bI_01 (bs (σ a) n); omega) (by decide) (np 28 rfl ?_)
  refine r_if_eq (tgt := 35) (dc dkX5_isMarked 21 rfl) rfl (by unfold jcmp; split <;> (try split) <;> decide) (fun h28 => ?_) (fun h28 => (np 31 rfl ?_))
  · skip
    refine r_iconst (dc dkX5_isMarked 24 rfl) (np 36 rfl ?_)
    exact r_zret (dc dkX5_isMarked 25 rfl) rfl (by first | exact Or.inl rfl | exact Or.inr rfl) ⟨congrArg (fun z => some (vI z)) (by first | exact bT ⟨by omega, Classical.byContradiction (fun w => h28 (jcmp_b.mpr w))⟩ | exact bF (fun w => by have := w.1; omega) | exact bF (fun w => (jcmp_b.mp h28) w.2)), rfl⟩
  refine r_iconst (dc dkX5_isMarked 22 rfl) (np 32 rfl ?_)
  refine r_goto (tgt := 36) (dc dkX5_isMarked 23 rfl) rfl ?_
  exact r_zret (dc dkX5_isMarked 25 rfl) rfl (by first | exact Or.inl rfl | exact Or.inr rfl) ⟨congrArg (fun z => some (vI z)) (by first | exact bT ⟨by omega, Classical.byContradiction (fun w => h28 (jcmp_b.mpr w))⟩ | exact bF (fun w => by have := w.1; omega) | exact bF (fun w => (jcmp_b.mp h28) w.2)), rfl⟩
set_option maxRecDepth 100000 in
set_option maxHeartbeats 4000000 in
theorem c_X5_mark {σ : jS} {a : Nat} (ha : jAr a = some (1, 112)) {n : Int} (hn : 0 ≤ n ∧ n < 7168) : Jm 1 miX5_mark [.ref a, vI n] σ (fun r τ => r = none ∧ (∀ c, ¬ c = a → τ c = σ c) ∧ ∀ m, 0 ≤ m → m < 7168 → (bs (τ a) m ↔ bs (σ a) m ∨ m = n)) := by
  refine jm_ofF (Po := (fun r τ => r = none ∧ (∀ c, ¬ c = a → τ c = σ c) ∧ ∀ m, 0 ≤ m → m < 7168 → (bs (τ a) m ↔ bs (σ a) m ∨ m = n))) (plainFor_of_name (by decide)) (Nat.le_of_ble_eq_true rfl) (lv := [(0, _), (1, _)]) rfl ?_
  refine r_iload_n (dc dkX5_mark 0 rfl) rfl (np 1 rfl ?_)
  refine r_if_lt (tgt := 28) (dc dkX5_mark 1 rfl) rfl (by first | assumption | decide | omega) (fun h1 => ?_) (fun h1 => (np 4 rfl ?_))
  · skip
    omega
  refine r_iload_n (dc dkX5_mark 2 rfl) rfl (np 5 rfl ?_)
  refine r_bipush (dc dkX5_mark 3 rfl) bp_6 (np 7 rfl ?_)
  refine r_ishr (dc dkX5_mark 4 rfl) (np 8 rfl ?_)
  refine r_eqI (n / 64) (shr6 (by omega)) ?_
  refine r_aload_n (dc dkX5_mark 5 rfl) rfl (np 9 rfl ?_)
  refine r_alen (dc dkX5_mark 6 rfl) ha (Nat.le_of_ble_eq_true rfl) (np 10 rfl ?_)
  refine r_eqI 112 rfl ?_
  refine r_icmp_ge (tgt := 28) (dc dkX5_mark 7 rfl) rfl (by first | assumption | decide | omega) (by first | assumption | decide | omega) (fun h10 => ?_) (fun h10 => (np 13 rfl ?_))
  · skip
    omega
  refine r_aload_n (dc dkX5_mark 8 rfl) rfl (np 14 rfl ?_)
  refine r_iload_n (dc dkX5_mark 9 rfl) rfl (np 15 rfl ?_)
  refine r_bipush (dc dkX5_mark 10 rfl) bp_6 (np 17 rfl ?_)
  refine r_ishr (dc dkX5_mark 11 rfl) (np 18 rfl ?_)
  refine r_eqI (n / 64) (shr6 (by omega)) ?_
  refine r_dup2 (dc dkX5_mark 12 rfl) ⟨rfl, rfl⟩ (np 19 rfl ?_)
  refine r_lald (dc dkX5_mark 13 rfl) ha (by omega) (np 20 rfl ?_)
  refine r_lconst (dc dkX5_mark 14 rfl) lc_1 (np 21 rfl ?_)
  refine r_iload_n (dc dkX5_mark 15 rfl) rfl (np 22 rfl ?_)
  refine r_bipush (dc dkX5_mark 16 rfl) bp_63 (np 24 rfl ?_)
  refine r_iand (dc dkX5_mark 17 rfl) (np 25 rfl ?_)
  refine r_eqI (n % 64) (and63 n) ?_
  refine r_lshl (dc dkX5_mark 18 rfl) (np 26 rfl ?_)
  refine r_lor (dc dkX5_mark 19 rfl) (np 27 rfl ?_)
  refine r_last (dc dkX5_mark 20 rfl) ha (by omega) (np 28 rfl ?_)
  exact r_vret (dc dkX5_mark 21 rfl) rfl ⟨rfl, fun c hc => ju_off _ _ _ _ _ hc, fun m m0 m1 => by
      unfold bs
      by_cases q : m / 64 = n / 64
      · rw [q, ju_at, bt_or (by omega) (by omega)]
        exact ⟨fun w => w.imp id (fun e => by omega), fun w => w.imp id (fun e => by omega)⟩
      · rw [ju_ne (by omega)]
        exact ⟨Or.inl, fun w => w.resolve_right (fun e => q (by rw [e]))⟩⟩
set_option maxRecDepth 100000 in
set_option maxHeartbeats 4000000 in
theorem c_X5_number {σ : jS} {p q r : Int} (hp : 0 ≤ p ∧ p < 36) (hq : 0 ≤ q ∧ q < 36) (hr : 0 ≤ r ∧ r < 36) : Jp 2 miX5_number [vI p, vI q, vI r] σ (vI (nm3 p q r)) := by
  refine jm_ofF (Po := (jP (vI (nm3 p q r)) σ)) (plainFor_of_name (by decide)) (Nat.le_of_ble_eq_true rfl) (lv := [(0, _), (1, _), (2, _)]) rfl ?_
  refine r_iload_n (dc dkX5_number 0 rfl) rfl (np 1 rfl ?_)
  refine r_iload_n (dc dkX5_number 1 rfl) rfl (np 2 rfl ?_)
  refine r_iload_n (dc dkX5_number 2 rfl) rfl (np 3 rfl ?_)
  refine r_pS2 (y' := miJ9_max_7cf53) (dc dkX5_number 3 rfl) mlX5_85 seJ9_max_7cf53 (Nat.le_of_ble_eq_true rfl) (Nat.le_of_ble_eq_true rfl) (c_J9_max_7cf53 (by omega) (by omega)) (np 6 rfl ?_)
  refine r_pS2 (y' := miJ9_max_7cf53) (dc dkX5_number 4 rfl) mlX5_85 seJ9_max_7cf53 (Nat.le_of_ble_eq_true rfl) (Nat.le_of_ble_eq_true rfl) (c_J9_max_7cf53 (by omega) (by omega)) (np 9 rfl ?_)
  refine r_eqI (hi3 p q r) rfl ?_
  have b1 : 0 ≤ hi3 p q r ∧ hi3 p q r < 36 := by unfold hi3; omega
  refine r_istore_n (lv' := [(3, _), (0, _), (1, _), (2, _)]) (dc dkX5_number 5 rfl) (Nat.le_of_ble_eq_true rfl) rfl (np 10 rfl ?_)
  refine r_iload_n (dc dkX5_number 6 rfl) rfl (np 11 rfl ?_)
  refine r_iload_n (dc dkX5_number 7 rfl) rfl (np 12 rfl ?_)
  refine r_iload_n (dc dkX5_number 8 rfl) rfl (np 13 rfl ?_)
  refine r_pS2 (y' := miJ9_min_7cf53) (dc dkX5_number 9 rfl) mlX5_90 seJ9_min_7cf53 (Nat.le_of_ble_eq_true rfl) (Nat.le_of_ble_eq_true rfl) (c_J9_min_7cf53 (by omega) (by omega)) (np 16 rfl ?_)
  refine r_pS2 (y' := miJ9_min_7cf53) (dc dkX5_number 10 rfl) mlX5_90 seJ9_min_7cf53 (Nat.le_of_ble_eq_true rfl) (Nat.le_of_ble_eq_true rfl) (c_J9_min_7cf53 (by omega) (by omega)) (np 19 rfl ?_)
  refine r_eqI (lo3 p q r) rfl ?_
  refine r_istore (lv' := [(4, _), (3, _), (0, _), (1, _), (2, _)]) (dc dkX5_number 11 rfl) (Nat.le_of_ble_eq_true rfl) rfl (np 21 rfl ?_)
  refine r_iload_n (dc dkX5_number 12 rfl) rfl (np 22 rfl ?_)
  refine r_iload_n (dc dkX5_number 13 rfl) rfl (np 23 rfl ?_)
  refine r_iadd (dc dkX5_number 14 rfl) (np 24 rfl ?_)
  refine r_iload_n (dc dkX5_number 15 rfl) rfl (np 25 rfl ?_)
  refine r_iadd (dc dkX5_number 16 rfl) (np 26 rfl ?_)
  refine r_iload_n (dc dkX5_number 17 rfl) rfl (np 27 rfl ?_)
  refine r_isub (dc dkX5_number 18 rfl) (np 28 rfl ?_)
  refine r_iload (dc dkX5_number 19 rfl) rfl (np 30 rfl ?_)
  refine r_isub (dc dkX5_number 20 rfl) (np 31 rfl ?_)
  refine r_eqI (md3 p q r) rfl ?_
  have b2 : 0 ≤ md3 p q r ∧ md3 p q r < 36 := by unfold md3 lo3 hi3; omega
  have k1 := c3_b b1
  have k2 := c3_b b2
  refine r_istore (lv' := [(5, _), (4, _), (3, _), (0, _), (1, _), (2, _)]) (dc dkX5_number 21 rfl) (Nat.le_of_ble_eq_true rfl) rfl (np 33 rfl ?_)
  refine r_iload_n (dc dkX5_number 22 rfl) rfl (np 34 rfl ?_)
  refine r_iload_n (dc dkX5_number 23 rfl) rfl (np 35 rfl ?_)
  refine r_iconst (dc dkX5_number 24 rfl) (np 36 rfl ?_)
  refine r_isub (dc dkX5_number 25 rfl) (np 37 rfl ?_)
  refine r_imul (dc dkX5_number 26 rfl) (np 38 rfl ?_)
  refine r_iload_n (dc dkX5_number 27 rfl) rfl (np 39 rfl ?_)
  refine r_iconst (dc dkX5_number 28 rfl) (np 40 rfl ?_)
  refine r_isub (dc dkX5_number 29 rfl) (np 41 rfl ?_)
  refine r_imul (dc dkX5_number 30 rfl) (np 42 rfl ?_)
  refine r_bipush (dc dkX5_number 31 rfl) bp_6 (np 44 rfl ?_)
  refine r_idivn (dc dkX5_number 32 rfl) (by first | assumption | decide | omega) (by first | assumption | decide | omega) (np 45 rfl ?_)
  refine r_iload (dc dkX5_number 33 rfl) rfl (np 47 rfl ?_)
  refine r_iload (dc dkX5_number 34 rfl) rfl (np 49 rfl ?_)
  refine r_iconst (dc dkX5_number 35 rfl) (np 50 rfl ?_)
  refine r_isub (dc dkX5_number 36 rfl) (np 51 rfl ?_)
  refine r_imul (dc dkX5_number 37 rfl) (np 52 rfl ?_)
  refine r_iconst (dc dkX5_number 38 rfl) (np 53 rfl ?_)
  refine r_idivn (dc dkX5_number 39 rfl) (by first | assumption | decide | omega) (by first | assumption | decide | omega) (np 54 rfl ?_)
  refine r_iadd (dc dkX5_number 40 rfl) (np 55 rfl ?_)
  refine r_iload (dc dkX5_number 41 rfl) rfl (np 57 rfl ?_)
  refine r_iadd (dc dkX5_number 42 rfl) (np 58 rfl ?_)
  exact r_iret (dc dkX5_number 43 rfl) rfl ⟨rfl, rfl⟩
set_option maxRecDepth 100000 in
set_option maxHeartbeats 4000000 in
theorem c_X5_indexOf {σ : jS} {w h : Int} {pk : Int → Int} (hM : MV σ w h pk) {p : Int} (hp : isPg p) : Jp 1 miX5_indexOf [.ref 17, vI p] σ (vI (p / 10 * w + p % 10)) := by
  have e5 := hM.2.2.2.1
  refine jm_ofF (Po := (jP (vI (p / 10 * w + p % 10)) σ)) (plainFor_of_name (by decide)) (Nat.le_of_ble_eq_true rfl) (lv := [(0, _), (1, _)]) rfl ?_
  refine r_iload_n (dc dkX5_indexOf 0 rfl) rfl (np 1 rfl ?_)
  refine r_bipush (dc dkX5_indexOf 1 rfl) bp_10 (np 3 rfl ?_)
  refine r_idivn (dc dkX5_indexOf 2 rfl) (by first | assumption | decide | omega) (by first | assumption | decide | omega) (np 4 rfl ?_)
  refine r_aload_n (dc dkX5_indexOf 3 rfl) rfl (np 5 rfl ?_)
  refine r_gI 5 (dc dkX5_indexOf 4 rfl) flX5_29 fd_17_5 rfl (np 8 rfl ?_)
  refine r_eqI _ e5 ?_
  refine r_imul (dc dkX5_indexOf 5 rfl) (np 9 rfl ?_)
  refine r_iload_n (dc dkX5_indexOf 6 rfl) rfl (np 10 rfl ?_)
  refine r_bipush (dc dkX5_indexOf 7 rfl) bp_10 (np 12 rfl ?_)
  refine r_iremn (dc dkX5_indexOf 8 rfl) (by first | assumption | decide | omega) (by first | assumption | decide | omega) (np 13 rfl ?_)
  refine r_iadd (dc dkX5_indexOf 9 rfl) (np 14 rfl ?_)
  exact r_iret (dc dkX5_indexOf 10 rfl) rfl ⟨rfl, rfl⟩
set_option maxRecDepth 100000 in
set_option maxHeartbeats 4000000 in
theorem c_X5_reach {σ : jS} {w h : Int} {pk : Int → Int} (hM : MV σ w h pk) {p q r : Int} (hp : iR p) (hq : 0 ≤ q ∧ q < w * h) (hr : 0 ≤ r ∧ r < w * h) {S0 A : Int → Prop} (hS : SA σ S0 A) : Jm 3 miX5_reach [.ref 17, vI p, vI q, vI r] σ (fun r2 τ => r2 = none ∧ same [18, 20] σ τ ∧ SA τ S0 (fun n => A n ∨ (okr w h pk p q r ∧ n = nm3 p q r))) := by
  obtain ⟨hw, hh, h36, e5, e6, eR⟩ := hM
  refine jm_ofF (Po := (fun r2 τ => r2 = none ∧ same [18, 20] σ τ ∧ SA τ S0 (fun n => A n ∨ (okr w h pk p q r ∧ n = nm3 p q r)))) (plainFor_of_name (by decide)) (Nat.le_of_ble_eq_true rfl) (lv := [(0, _), (1, _), (2, _), (3, _)]) rfl ?_
  refine r_iload_n (dc dkX5_reach 0 rfl) rfl (np 1 rfl ?_)
  refine r_if_lt (tgt := 27) (dc dkX5_reach 1 rfl) rfl (by first | assumption | decide | omega) (fun h1 => ?_) (fun h1 => (np 4 rfl ?_))
  · skip
    exact r_vret (dc dkX5_reach 14 rfl) rfl ⟨rfl, same.refl _ _, SA_c hS (fun n _ _ => ⟨Or.inl, fun z => z.resolve_right (fun u => by have u1 := u.1.1; first | omega | exact h24 u.1.2.1)⟩)⟩
  refine r_iload_n (dc dkX5_reach 2 rfl) rfl (np 5 rfl ?_)
  refine r_aload_n (dc dkX5_reach 3 rfl) rfl (np 6 rfl ?_)
  refine r_gI 6 (dc dkX5_reach 4 rfl) flX5_33 fd_17_6 rfl (np 9 rfl ?_)
  refine r_eqI _ e6 ?_
  refine r_icmp_ge (tgt := 27) (dc dkX5_reach 5 rfl) rfl (by first | assumption | decide | omega) (by first | assumption | decide | omega) (fun h9 => ?_) (fun h9 => (np 12 rfl ?_))
  · skip
    exact r_vret (dc dkX5_reach 14 rfl) rfl ⟨rfl, same.refl _ _, SA_c hS (fun n _ _ => ⟨Or.inl, fun z => z.resolve_right (fun u => by have u1 := u.1.1; first | omega | exact h24 u.1.2.1)⟩)⟩
  refine r_iload_n (dc dkX5_reach 6 rfl) rfl (np 13 rfl ?_)
  refine r_bipush (dc dkX5_reach 7 rfl) bp_36 (np 15 rfl ?_)
  refine r_icmp_ge (tgt := 27) (dc dkX5_reach 8 rfl) rfl (by first | assumption | decide | omega) (by first | assumption | decide | omega) (fun h15 => ?_) (fun h15 => (np 18 rfl ?_))
  · skip
    exact r_vret (dc dkX5_reach 14 rfl) rfl ⟨rfl, same.refl _ _, SA_c hS (fun n _ _ => ⟨Or.inl, fun z => z.resolve_right (fun u => by have u1 := u.1.1; first | omega | exact h24 u.1.2.1)⟩)⟩
  refine r_aload_n (dc dkX5_reach 9 rfl) rfl (np 19 rfl ?_)
  refine r_getR (dc dkX5_reach 10 rfl) flX5_25 fd_17_4 (np 22 rfl ?_)
  refine r_iload_n (dc dkX5_reach 11 rfl) rfl (np 23 rfl ?_)
  refine r_zald (dc dkX5_reach 12 rfl) ar_22 (by omega) (np 24 rfl ?_)
  refine r_eqI _ (eR p (by omega) (by omega)).2 ?_
  refine r_bn (tgt := 28) (dc dkX5_reach 13 rfl) rfl (fun h24 => ?_) (fun h24 => (np 27 rfl ?_))
  · skip
    refine r_aload_n (dc dkX5_reach 15 rfl) rfl (np 29 rfl ?_)
    refine r_getR (dc dkX5_reach 16 rfl) flX5_21 fd_17_3 (np 32 rfl ?_)
    refine r_iload_n (dc dkX5_reach 17 rfl) rfl (np 33 rfl ?_)
    refine r_iald (dc dkX5_reach 18 rfl) ar_21 (by omega) (np 34 rfl ?_)
    refine r_eqI _ (eR p (by omega) (by omega)).1 ?_
    have g1 := (pgW_b hw hh (p := p) (by omega)).1
    have g2 := (pgW_b hw hh hq).1
    have g3 := (pgW_b hw hh hr).1
    refine r_aload_n (dc dkX5_reach 19 rfl) rfl (np 35 rfl ?_)
    refine r_getR (dc dkX5_reach 20 rfl) flX5_21 fd_17_3 (np 38 rfl ?_)
    refine r_iload_n (dc dkX5_reach 21 rfl) rfl (np 39 rfl ?_)
    refine r_iald (dc dkX5_reach 22 rfl) ar_21 (by omega) (np 40 rfl ?_)
    refine r_eqI _ (eR q (by omega) (by omega)).1 ?_
    refine r_aload_n (dc dkX5_reach 23 rfl) rfl (np 41 rfl ?_)
    refine r_getR (dc dkX5_reach 24 rfl) flX5_21 fd_17_3 (np 44 rfl ?_)
    refine r_iload_n (dc dkX5_reach 25 rfl) rfl (np 45 rfl ?_)
    refine r_iald (dc dkX5_reach 26 rfl) ar_21 (by omega) (np 46 rfl ?_)
    refine r_eqI _ (eR r (by omega) (by omega)).1 ?_
    have tb := tn_b g1 g2 g3
    refine r_pS3 (y' := miX7_turn) (dc dkX5_reach 27 rfl) mlX5_106 seX7_turn (Nat.le_of_ble_eq_true rfl) (Nat.le_of_ble_eq_true rfl) (c_X7_turn g1 g2 g3) (np 49 rfl ?_)
    refine r_if_ne (tgt := 53) (dc dkX5_reach 28 rfl) rfl (by first | assumption | decide | omega) (fun h49 => ?_) (fun h49 => (np 52 rfl ?_))
    · skip
      have ds := tn_ds h49
      have nb := nm3_b (p := p) (q := q) (r := r) (by omega) (by omega) (by omega) ds
      have ok : okr w h pk p q r := ⟨by omega, h24, h49⟩
      refine r_iload_n (dc dkX5_reach 30 rfl) rfl (np 54 rfl ?_)
      refine r_iload_n (dc dkX5_reach 31 rfl) rfl (np 55 rfl ?_)
      refine r_iload_n (dc dkX5_reach 32 rfl) rfl (np 56 rfl ?_)
      refine r_pS3 (y' := miX5_number) (dc dkX5_reach 33 rfl) mlX5_81 seX5_number (Nat.le_of_ble_eq_true rfl) (Nat.le_of_ble_eq_true rfl) (c_X5_number (by omega) (by omega) (by omega)) (np 59 rfl ?_)
      refine r_istore (lv' := [(4, _), (0, _), (1, _), (2, _), (3, _)]) (dc dkX5_reach 34 rfl) (Nat.le_of_ble_eq_true rfl) rfl (np 61 rfl ?_)
      refine r_aload_n (dc dkX5_reach 35 rfl) rfl (np 62 rfl ?_)
      refine r_getR (dc dkX5_reach 36 rfl) flX5_11 fd_17_0 (np 65 rfl ?_)
      refine r_iload (dc dkX5_reach 37 rfl) rfl (np 67 rfl ?_)
      refine r_pS2 (y' := miX5_isMarked) (dc dkX5_reach 38 rfl) mlX5_64 seX5_isMarked (Nat.le_of_ble_eq_true rfl) (Nat.le_of_ble_eq_true rfl) (c_X5_isMarked ar_18 (by omega)) (np 70 rfl ?_)
      refine r_bn (tgt := 91) (dc dkX5_reach 39 rfl) rfl (fun h70 => ?_) (fun h70 => (np 73 rfl ?_))
      · skip
        exact r_vret (dc dkX5_reach 48 rfl) rfl (by
            first
            | (refine ⟨rfl, fun c hc => by simp at hc; rw [S2 c (by omega), S1 c (by omega)], fun n n0 n1 => ?_⟩
               have a := hS n n0 n1
               have b : ¬ bs (σ 18) (nm3 p q r) := fun u => h70 ⟨by omega, u⟩
               have c := hS (nm3 p q r) (by omega) (by omega)
               rw [S2 18 (by decide), M1 n n0 n1, M2 n n0 n1, S1 20 (by decide), a.1, a.2]
               by_cases e : n = nm3 p q r
               · subst e
                 have d : ¬ S0 (nm3 p q r) := fun u => b (c.1.mpr (Or.inl u))
                 exact ⟨⟨fun _ => Or.inr (Or.inr ⟨ok, rfl⟩), fun _ => Or.inr rfl⟩, ⟨fun _ => ⟨Or.inr ⟨ok, rfl⟩, d⟩, fun _ => Or.inr rfl⟩⟩
               · constructor
                 · exact ⟨fun u => by rcases u with (u | u) | u; exact Or.inl u; exact Or.inr (Or.inl u); exact absurd u e, fun u => by rcases u with u | u | u; exact Or.inl (Or.inl u); exact Or.inl (Or.inr u); exact absurd u.2 e⟩
                 · exact ⟨fun u => by rcases u with u | u; exact ⟨Or.inl u.1, u.2⟩; exact absurd u e, fun u => by rcases u with ⟨u | u, v⟩; exact Or.inl ⟨u, v⟩; exact absurd u.2 e⟩)
            | (refine ⟨rfl, same.refl _ _, fun n n0 n1 => ?_⟩
               have a := hS n n0 n1
               have c := hS (nm3 p q r) (by omega) (by omega)
               have b := c.1.mp h70.2
               rw [a.1, a.2]
               by_cases e : n = nm3 p q r
               · subst e
                 constructor
                 · exact ⟨fun u => u.imp id Or.inl, fun u => b⟩
                 · exact ⟨fun u => ⟨Or.inl u.1, u.2⟩, fun u => ⟨b.resolve_left u.2, u.2⟩⟩
               · constructor
                 · exact ⟨fun u => u.imp id Or.inl, fun u => by rcases u with u | u | u; exact Or.inl u; exact Or.inr u; exact absurd u.2 e⟩
                 · exact ⟨fun u => ⟨Or.inl u.1, u.2⟩, fun u => by rcases u with ⟨u | u, v⟩; exact ⟨u, v⟩; exact absurd u.2 e⟩))
      refine r_aload_n (dc dkX5_reach 40 rfl) rfl (np 74 rfl ?_)
      refine r_getR (dc dkX5_reach 41 rfl) flX5_11 fd_17_0 (np 77 rfl ?_)
      refine r_iload (dc dkX5_reach 42 rfl) rfl (np 79 rfl ?_)
      refine r_cS2 (y' := miX5_mark) (dc dkX5_reach 43 rfl) mlX5_60 seX5_mark (Nat.le_of_ble_eq_true rfl) (Nat.le_of_ble_eq_true rfl) (c_X5_mark ar_18 (by omega)) (fun r1 τ1 hp1 => (np 82 rfl ?_))
      obtain ⟨rfl, S1, M1⟩ := hp1
      refine r_aload_n (dc dkX5_reach 44 rfl) rfl (np 83 rfl ?_)
      refine r_getR (dc dkX5_reach 45 rfl) flX5_18 fd_17_2 (np 86 rfl ?_)
      refine r_iload (dc dkX5_reach 46 rfl) rfl (np 88 rfl ?_)
      refine r_cS2 (y' := miX5_mark) (dc dkX5_reach 47 rfl) mlX5_60 seX5_mark (Nat.le_of_ble_eq_true rfl) (Nat.le_of_ble_eq_true rfl) (c_X5_mark ar_20 (by omega)) (fun r1 τ2 hp2 => (np 91 rfl ?_))
      obtain ⟨rfl, S2, M2⟩ := hp2
      exact r_vret (dc dkX5_reach 48 rfl) rfl (by
          first
          | (refine ⟨rfl, fun c hc => by simp at hc; rw [S2 c (by omega), S1 c (by omega)], fun n n0 n1 => ?_⟩
             have a := hS n n0 n1
             have b : ¬ bs (σ 18) (nm3 p q r) := fun u => h70 ⟨by omega, u⟩
             have c := hS (nm3 p q r) (by omega) (by omega)
             rw [S2 18 (by decide), M1 n n0 n1, M2 n n0 n1, S1 20 (by decide), a.1, a.2]
             by_cases e : n = nm3 p q r
             · subst e
               have d : ¬ S0 (nm3 p q r) := fun u => b (c.1.mpr (Or.inl u))
               exact ⟨⟨fun _ => Or.inr (Or.inr ⟨ok, rfl⟩), fun _ => Or.inr rfl⟩, ⟨fun _ => ⟨Or.inr ⟨ok, rfl⟩, d⟩, fun _ => Or.inr rfl⟩⟩
             · constructor
               · exact ⟨fun u => by rcases u with (u | u) | u; exact Or.inl u; exact Or.inr (Or.inl u); exact absurd u e, fun u => by rcases u with u | u | u; exact Or.inl (Or.inl u); exact Or.inl (Or.inr u); exact absurd u.2 e⟩
               · exact ⟨fun u => by rcases u with u | u; exact ⟨Or.inl u.1, u.2⟩; exact absurd u e, fun u => by rcases u with ⟨u | u, v⟩; exact Or.inl ⟨u, v⟩; exact absurd u.2 e⟩)
          | (refine ⟨rfl, same.refl _ _, fun n n0 n1 => ?_⟩
             have a := hS n n0 n1
             have c := hS (nm3 p q r) (by omega) (by omega)
             have b := c.1.mp h70.2
             rw [a.1, a.2]
             by_cases e : n = nm3 p q r
             · subst e
               constructor
               · exact ⟨fun u => u.imp id Or.inl, fun u => b⟩
               · exact ⟨fun u => ⟨Or.inl u.1, u.2⟩, fun u => ⟨b.resolve_left u.2, u.2⟩⟩
             · constructor
               · exact ⟨fun u => u.imp id Or.inl, fun u => by rcases u with u | u | u; exact Or.inl u; exact Or.inr u; exact absurd u.2 e⟩
               · exact ⟨fun u => ⟨Or.inl u.1, u.2⟩, fun u => by rcases u with ⟨u | u, v⟩; exact ⟨u, v⟩; exact absurd u.2 e⟩))
    exact r_vret (dc dkX5_reach 29 rfl) rfl ⟨rfl, same.refl _ _, SA_c hS (fun n _ _ => ⟨Or.inl, fun z => z.resolve_right (fun u => u.1.2.2 h49)⟩)⟩
  exact r_vret (dc dkX5_reach 14 rfl) rfl ⟨rfl, same.refl _ _, SA_c hS (fun n _ _ => ⟨Or.inl, fun z => z.resolve_right (fun u => by have u1 := u.1.1; first | omega | exact h24 u.1.2.1)⟩)⟩
