/-! ===== the places along a band ===== -/
def ALx (a b g s : Int) : Int := a % 10 + (b % 10 - a % 10).tdiv g * s
def ALy (a b g s : Int) : Int := a / 10 + (b / 10 - a / 10).tdiv g * s
def ALf (a b s : Int) : Int := 10 * ALy a b (pts a b) s + ALx a b (pts a b) s
def ALs (P : Int → Int) (i : Int) : List Int := fl (fun s => [ALf (P i) (P (i + 1)) s]) (pts (P i) (P (i + 1)))
def ALL (n : Int) (P : Int → Int) : List Int := fl (ALs P) n
theorem gd_dl (x y : Int) : gd x y ∣ x := Int.gcd_dvd_left ..
theorem gd_dr (x y : Int) : gd x y ∣ y := Int.gcd_dvd_right ..
theorem st_b {a d g s : Int} (hd : g ∣ d) (hs : 0 ≤ s ∧ s < g) (h1 : 0 ≤ a ∧ a ≤ 9) (h2 : 0 ≤ a + d ∧ a + d ≤ 9) : 0 ≤ a + d.tdiv g * s ∧ a + d.tdiv g * s ≤ 9 := by
  obtain ⟨e, rfl⟩ := hd
  rw [Int.mul_tdiv_cancel_left _ (by omega)]
  rcases Int.le_total 0 e with he | he
  · have q1 := Int.mul_nonneg he hs.1
    have q2 := Int.mul_le_mul_of_nonneg_left (show s ≤ g by omega) he
    rw [Int.mul_comm e g] at q2
    omega
  · have q1 := Int.mul_nonneg (show 0 ≤ -e by omega) hs.1
    have q2 := Int.mul_le_mul_of_nonneg_left (show s ≤ g by omega) (show 0 ≤ -e by omega)
    rw [Int.neg_mul, Int.neg_mul, Int.mul_comm e g] at q2
    rw [Int.neg_mul] at q1
    omega
theorem AL_xy {a b s : Int} (ha : isPg a) (hb : isPg b) (hs : 0 ≤ s ∧ s < pts a b) : (0 ≤ ALx a b (pts a b) s ∧ ALx a b (pts a b) s ≤ 9) ∧ (0 ≤ ALy a b (pts a b) s ∧ ALy a b (pts a b) s ≤ 9) := by
  have d1 : pts a b ∣ (b % 10 - a % 10) := by
    have := gd_dl (a % 10 - b % 10) (a / 10 - b / 10)
    rw [show b % 10 - a % 10 = -(a % 10 - b % 10) by omega]
    exact Int.dvd_neg.mpr this
  have d2 : pts a b ∣ (b / 10 - a / 10) := by
    have := gd_dr (a % 10 - b % 10) (a / 10 - b / 10)
    rw [show b / 10 - a / 10 = -(a / 10 - b / 10) by omega]
    exact Int.dvd_neg.mpr this
  exact ⟨st_b d1 hs (by omega) (by omega), st_b d2 hs (by omega) (by omega)⟩
theorem ALf_p {a b s : Int} (ha : isPg a) (hb : isPg b) (hs : 0 ≤ s ∧ s < pts a b) : isPg (ALf a b s) ∧ ALf a b s % 10 = ALx a b (pts a b) s ∧ ALf a b s / 10 = ALy a b (pts a b) s := by
  have := AL_xy ha hb hs
  unfold ALf
  omega
/-- pairs of places, in their order, that fit -/
noncomputable def H2 (pl : Int → Int) (Q : Int → Int → Prop) (i j : Int) : List Int := lif (i < j ∧ Q i j) [100 * pl i + pl j]
noncomputable def F2 (pl : Int → Int) (Q : Int → Int → Prop) (m i : Int) : List Int := fl (H2 pl Q i) m
noncomputable def PL2 (pl : Int → Int) (Q : Int → Int → Prop) (m : Int) : List Int := fl (F2 pl Q m) m
theorem H2_t {pl : Int → Int} {Q : Int → Int → Prop} {i j : Int} (h : i < j) (q : Q i j) : H2 pl Q i j = [100 * pl i + pl j] := lif_t ⟨h, q⟩
theorem H2_f {pl : Int → Int} {Q : Int → Int → Prop} {i j : Int} (q : ¬ Q i j) : H2 pl Q i j = [] := lif_f (fun z => q z.2)
theorem H2_0 {pl : Int → Int} {Q : Int → Int → Prop} {i : Int} : fl (H2 pl Q i) (i + 1) = [] := fl_nil (fun l l0 l1 => lif_f (fun z => by omega))
theorem PL2_at {pl : Int → Int} {Q : Int → Int → Prop} {m i j : Int} (hi : 0 ≤ i ∧ i < m) (hj : i < j ∧ j < m) (q : Q i j) : (fl (F2 pl Q m) i ++ fl (H2 pl Q i) j) ++ [100 * pl i + pl j] <+: PL2 pl Q m := by
  refine List.IsPrefix.trans ?_ (fl_pre hi.1 hi.2)
  rw [List.append_assoc]
  refine pre_in ?_
  refine List.IsPrefix.trans ?_ (fl_pre (show 0 ≤ j by omega) hj.2)
  refine pre_in ?_
  rw [H2_t hj.1 q]
  exact List.prefix_refl _
theorem L2_len {pl : Int → Int} {Q : Int → Int → Prop} {m i j : Int} (hm : m ≤ 100) (hi : i ≤ 100) (hj : j ≤ 100) : (fl (F2 pl Q m) i ++ fl (H2 pl Q i) j).length ≤ 11000 := by
  have h1 : ∀ i j, (H2 pl Q i j).length ≤ 1 := fun i j => lif_len (by simp)
  have h2 : ∀ i, (F2 pl Q m i).length ≤ 100 * 1 := fun i => fl_len (h1 i) hm
  have x := fl_len (h1 i) hj
  have y := fl_len h2 hi
  rw [List.length_append]
  omega
theorem PL2_c {pl pl' : Int → Int} {Q Q' : Int → Int → Prop} {m : Int} (hp : ∀ i, 0 ≤ i → i < m → pl i = pl' i) (hq : ∀ i j, 0 ≤ i → i < j → j < m → (Q i j ↔ Q' i j)) : PL2 pl Q m = PL2 pl' Q' m := by
  refine fl_c (fun i i0 i1 => fl_c (fun j j0 j1 => ?_))
  unfold H2
  rw [hp i i0 i1, hp j j0 j1]
  refine lif_iff ⟨fun z => ⟨z.1, (hq i j i0 z.1 j1).mp z.2⟩, fun z => ⟨z.1, (hq i j i0 z.1 j1).mpr z.2⟩⟩ _
/-- the i-th place along a band -/
def alP (n : Int) (P : Int → Int) (i : Int) : Int := (ALL n P).getD i.toNat 0
def alN (n : Int) (P : Int → Int) : Int := (ALL n P).length
theorem LI_at {f : Int → Int} {m : Int} {L : List Int} (h : LI f m L) {i : Int} (i0 : 0 ≤ i) (i1 : i < m) : f i = L.getD i.toNat 0 := by
  have := h.2 i.toNat (by have := h.1; omega)
  rw [Int.toNat_of_nonneg i0] at this
  exact this
/-- what lies between two places, twice -/
def prS (pl : Int → Int) (i j : Int) : Int := smI (fun q => sh (pl q) (pl (q + 1))) j - smI (fun q => sh (pl q) (pl (q + 1))) i + sh (pl j) (pl i)
def QKc (n : Int) (P pl : Int → Int) (i j : Int) : Prop := 2 * prS pl i j = areaS n P ∧ rnsI n P (pl i) (pl j)
theorem prS_c {pl pl' : Int → Int} {m i j : Int} (hp : ∀ i, 0 ≤ i → i < m → pl i = pl' i) (hi : 0 ≤ i ∧ i < m) (hj : 0 ≤ j ∧ j < m) : prS pl i j = prS pl' i j := by
  have e : ∀ x, 0 ≤ x → x < m → smI (fun q => sh (pl q) (pl (q + 1))) x = smI (fun q => sh (pl' q) (pl' (q + 1))) x := fun x x0 x1 => smI_congr (fun q q0 q1 => by rw [hp q q0 (by omega), hp (q + 1) (by omega) (by omega)])
  unfold prS
  rw [e i hi.1 hi.2, e j hj.1 hj.2, hp i hi.1 hi.2, hp j hj.1 hj.2]
set_option maxRecDepth 100000 in
set_option maxHeartbeats 4000000 in
theorem c_X6_takeAlong {σ : jS} (hB : okB σ 30) {b : Int} (h0 : 0 ≤ b) (h1 : b < 8) (hn : 3 ≤ σ 32 b) : Jm 3 miX6_takeAlong [.ref 15, .ref 30, vI b] σ (fun r τ => r = none ∧ same [15, 16] σ τ ∧ LI (τ 16) (τ 15 1) (ALL (σ 32 b) (bAt σ 30 b)) ∧ cB 72 (τ 15 1) ∧ ∀ j, 0 ≤ j → j < τ 15 1 → isPg (τ 16 j)) := by
  have s8 : σ 32 b ≤ 8 := (hB.2.1 b h0 h1).2
  have pg : ∀ i, 0 ≤ i → 0 ≤ bAt σ 30 b i ∧ bAt σ 30 b i ≤ 99 := fun i i0 => bAt_p hB h0 h1 (show 0 < σ 32 b by omega) i0
  refine jm_ofF (Po := (fun r τ => r = none ∧ same [15, 16] σ τ ∧ LI (τ 16) (τ 15 1) (ALL (σ 32 b) (bAt σ 30 b)) ∧ cB 72 (τ 15 1) ∧ ∀ j, 0 ≤ j → j < τ 15 1 → isPg (τ 16 j))) (plainFor_of_name (by decide)) (Nat.le_of_ble_eq_true rfl) (lv := [(0, _), (1, _), (2, _)]) rfl ?_
  refine r_aload_n (dc dkX6_takeAlong 0 rfl) rfl (np 1 rfl ?_)
  refine r_iconst (dc dkX6_takeAlong 1 rfl) (np 2 rfl ?_)
  refine r_pI 1 (dc dkX6_takeAlong 2 rfl) fpX6_15 fd_15_1 rfl (np 5 rfl ?_)
  refine r_iconst (dc dkX6_takeAlong 3 rfl) (np 6 rfl ?_)
  refine r_istore_n (lv' := [(3, _), (0, _), (1, _), (2, _)]) (dc dkX6_takeAlong 4 rfl) (Nat.le_of_ble_eq_true rfl) rfl (np 7 rfl ?_)
  refine r_pick [1, 2, 3, 0] (lv' := [(0, _), (1, _), (2, _), (3, _)]) rfl ?_
  refine jlp2 (P := fun (i : Int) (τ : jS) => jR _ _ _ 7 [(0, .ref 15), (1, .ref 30), (2, vI b), (3, vI i)] [] τ) (I := fun (i : Int) (τ : jS) => (0 ≤ i ∧ i ≤ σ 32 b) ∧ same [15, 16] σ τ ∧ LI (τ 16) (τ 15 1) (fl (ALs (bAt σ 30 b)) i) ∧ (0 ≤ τ 15 1 ∧ τ 15 1 ≤ 9 * i) ∧ ∀ j, 0 ≤ j → j < τ 15 1 → isPg (τ 16 j)) (fun (i : Int) (τ : jS) => (σ 32 b - i).toNat) ?_ _ _ ⟨by omega, (same.refl _ _).put (by decide), by rw [ju_at]; exact LI_0 _, by rw [ju_at]; omega, fun j j0 j1 => by rw [ju_at] at j1; omega⟩
  intro i τ hI7 ih7
  have S := hI7.2.1
  have oB : okB τ 30 := okB_t hB (S 30 (by decide)) (S 31 (by decide)) (S 32 (by decide)) (S 33 (by decide))
  have hz : 0 < τ 32 b := by rw [S 32 (by decide)]; omega
  have eA : ∀ x y, bAt τ 30 x y = bAt σ 30 x y := bAt_t (S 32 (by decide)) (S 33 (by decide))
  have e32 : τ 32 b = σ 32 b := by rw [S 32 (by decide)]
  have B := hI7.2.2.2.1
  refine r_iload_n (dc dkX6_takeAlong 5 rfl) rfl (np 8 rfl ?_)
  refine r_aload_n (dc dkX6_takeAlong 6 rfl) rfl (np 9 rfl ?_)
  refine r_iload_n (dc dkX6_takeAlong 7 rfl) rfl (np 10 rfl ?_)
  refine r_pV1 (y' := miX0_sizeOf) (dc dkX6_takeAlong 8 rfl) mlX6_64 ceX0_sizeOf ob_30 (Nat.le_of_ble_eq_true rfl) (Nat.le_of_ble_eq_true rfl) (c_X0_sizeOf isBands_at30 h0 h1) (np 13 rfl ?_)
  refine r_eqI _ e32 ?_
  refine r_icmp_ge (tgt := 151) (dc dkX6_takeAlong 9 rfl) rfl (by first | assumption | decide | omega) (by first | assumption | decide | omega) (fun h13 => ?_) (fun h13 => (np 16 rfl ?_))
  · skip
    exact r_vret (dc dkX6_takeAlong 87 rfl) rfl ⟨rfl, S, by have T := hI7.2.2.1; rw [show i = σ 32 b by omega] at T; exact T, by omega, hI7.2.2.2.2⟩
  have p1 := pg i (by omega)
  have p2 := pg (i + 1) (by omega)
  have pb := pts_b p1 p2
  refine r_aload_n (dc dkX6_takeAlong 10 rfl) rfl (np 17 rfl ?_)
  refine r_iload_n (dc dkX6_takeAlong 11 rfl) rfl (np 18 rfl ?_)
  refine r_iload_n (dc dkX6_takeAlong 12 rfl) rfl (np 19 rfl ?_)
  refine r_pV2 (y' := miX0_at) (dc dkX6_takeAlong 13 rfl) mlX6_67 ceX0_at ob_30 (Nat.le_of_ble_eq_true rfl) (Nat.le_of_ble_eq_true rfl) (c_X0_at isBands_at30 oB h0 h1 (by omega) hz) (np 22 rfl ?_)
  refine r_eqI _ (eA b i) ?_
  refine r_istore (lv' := [(4, _), (0, _), (1, _), (2, _), (3, _)]) (dc dkX6_takeAlong 14 rfl) (Nat.le_of_ble_eq_true rfl) rfl (np 24 rfl ?_)
  refine r_aload_n (dc dkX6_takeAlong 15 rfl) rfl (np 25 rfl ?_)
  refine r_iload_n (dc dkX6_takeAlong 16 rfl) rfl (np 26 rfl ?_)
  refine r_iload_n (dc dkX6_takeAlong 17 rfl) rfl (np 27 rfl ?_)
  refine r_iconst (dc dkX6_takeAlong 18 rfl) (np 28 rfl ?_)
  refine r_iadd (dc dkX6_takeAlong 19 rfl) (np 29 rfl ?_)
  refine r_pV2 (y' := miX0_at) (dc dkX6_takeAlong 20 rfl) mlX6_67 ceX0_at ob_30 (Nat.le_of_ble_eq_true rfl) (Nat.le_of_ble_eq_true rfl) (c_X0_at isBands_at30 oB h0 h1 (by omega) hz) (np 32 rfl ?_)
  refine r_eqI _ (eA b (i + 1)) ?_
  refine r_istore (lv' := [(5, _), (4, _), (0, _), (1, _), (2, _), (3, _)]) (dc dkX6_takeAlong 21 rfl) (Nat.le_of_ble_eq_true rfl) rfl (np 34 rfl ?_)
  refine r_iload (dc dkX6_takeAlong 22 rfl) rfl (np 36 rfl ?_)
  refine r_iload (dc dkX6_takeAlong 23 rfl) rfl (np 38 rfl ?_)
  refine r_pS2 (y' := miX7_parts) (dc dkX6_takeAlong 24 rfl) mlX6_39 seX7_parts (Nat.le_of_ble_eq_true rfl) (Nat.le_of_ble_eq_true rfl) (c_X7_parts p1 p2) (np 41 rfl ?_)
  refine r_istore (lv' := [(6, _), (5, _), (4, _), (0, _), (1, _), (2, _), (3, _)]) (dc dkX6_takeAlong 25 rfl) (Nat.le_of_ble_eq_true rfl) rfl (np 43 rfl ?_)
  refine r_iconst (dc dkX6_takeAlong 26 rfl) (np 44 rfl ?_)
  refine r_istore (lv' := [(7, _), (6, _), (5, _), (4, _), (0, _), (1, _), (2, _), (3, _)]) (dc dkX6_takeAlong 27 rfl) (Nat.le_of_ble_eq_true rfl) rfl (np 46 rfl ?_)
  refine r_pick [4, 5, 6, 7, 3, 2, 1, 0] (lv' := [(0, _), (1, _), (2, _), (3, _), (4, _), (5, _), (6, _), (7, _)]) rfl ?_
  refine jlp2 (P := fun (s : Int) (τ : jS) => jR _ _ _ 46 [(0, .ref 15), (1, .ref 30), (2, vI b), (3, vI i), (4, vI (bAt σ 30 b i)), (5, vI (bAt σ 30 b (i + 1))), (6, vI (pts (bAt σ 30 b i) (bAt σ 30 b (i + 1)))), (7, vI s)] [] τ) (I := fun (s : Int) (τ : jS) => (0 ≤ s ∧ s ≤ pts (bAt σ 30 b i) (bAt σ 30 b (i + 1))) ∧ same [15, 16] σ τ ∧ LI (τ 16) (τ 15 1) (fl (ALs (bAt σ 30 b)) i ++ fl (fun s => [ALf (bAt σ 30 b i) (bAt σ 30 b (i + 1)) s]) s) ∧ (0 ≤ τ 15 1 ∧ τ 15 1 ≤ 9 * i + s) ∧ ∀ j, 0 ≤ j → j < τ 15 1 → isPg (τ 16 j)) (fun (s : Int) (τ : jS) => (pts (bAt σ 30 b i) (bAt σ 30 b (i + 1)) - s).toNat) ?_ _ _ ⟨by omega, S, by rw [fl_0, List.append_nil]; exact hI7.2.2.1, by omega, hI7.2.2.2.2⟩
  intro s τ hI46 ih46
  have S := hI46.2.1
  have oB : okB τ 30 := okB_t hB (S 30 (by decide)) (S 31 (by decide)) (S 32 (by decide)) (S 33 (by decide))
  have hz : 0 < τ 32 b := by rw [S 32 (by decide)]; omega
  have eA : ∀ x y, bAt τ 30 x y = bAt σ 30 x y := bAt_t (S 32 (by decide)) (S 33 (by decide))
  have e32 : τ 32 b = σ 32 b := by rw [S 32 (by decide)]
  replace B := hI46.2.2.2.1
  refine r_iload (dc dkX6_takeAlong 28 rfl) rfl (np 48 rfl ?_)
  refine r_iload (dc dkX6_takeAlong 29 rfl) rfl (np 50 rfl ?_)
  refine r_icmp_ge (tgt := 145) (dc dkX6_takeAlong 30 rfl) rfl (by first | assumption | decide | omega) (by first | assumption | decide | omega) (fun h50 => ?_) (fun h50 => (np 53 rfl ?_))
  · skip
    refine r_iinc (lv' := [(3, _), (0, _), (1, _), (2, _), (4, _), (5, _), (6, _), (7, _)]) (dc dkX6_takeAlong 85 rfl) (Nat.le_of_ble_eq_true rfl) rfl rfl (np 148 rfl ?_)
    refine r_goto (tgt := 7) (dc dkX6_takeAlong 86 rfl) rfl ?_
    refine r_pick [1, 2, 3, 0] rfl ?_
    exact ih7 _ _ (by first | (exfalso; omega) | (refine ⟨by omega, S, ?_, by omega, hI46.2.2.2.2⟩; rw [fl_s _ (by omega)]; have T := hI46.2.2.1; rw [show s = pts (bAt σ 30 b i) (bAt σ 30 b (i + 1)) by omega] at T; exact T)) (by omega)
  refine r_aload_n (dc dkX6_takeAlong 31 rfl) rfl (np 54 rfl ?_)
  refine r_gI 1 (dc dkX6_takeAlong 32 rfl) flX6_15 fd_15_1 rfl (np 57 rfl ?_)
  refine r_bipush (dc dkX6_takeAlong 33 rfl) bp_100 (np 59 rfl ?_)
  refine r_icmp_ge (tgt := 145) (dc dkX6_takeAlong 34 rfl) rfl (by first | assumption | decide | omega) (by first | assumption | decide | omega) (fun h59 => ?_) (fun h59 => (np 62 rfl ?_))
  · skip
    refine r_iinc (lv' := [(3, _), (0, _), (1, _), (2, _), (4, _), (5, _), (6, _), (7, _)]) (dc dkX6_takeAlong 85 rfl) (Nat.le_of_ble_eq_true rfl) rfl rfl (np 148 rfl ?_)
    refine r_goto (tgt := 7) (dc dkX6_takeAlong 86 rfl) rfl ?_
    refine r_pick [1, 2, 3, 0] rfl ?_
    exact ih7 _ _ (by first | (exfalso; omega) | (refine ⟨by omega, S, ?_, by omega, hI46.2.2.2.2⟩; rw [fl_s _ (by omega)]; have T := hI46.2.2.1; rw [show s = pts (bAt σ 30 b i) (bAt σ 30 b (i + 1)) by omega] at T; exact T)) (by omega)
  have AL := ALf_p p1 p2 (s := s) (by omega)
  refine r_iload (dc dkX6_takeAlong 35 rfl) rfl (np 64 rfl ?_)
  refine r_bipush (dc dkX6_takeAlong 36 rfl) bp_10 (np 66 rfl ?_)
  refine r_iremn (dc dkX6_takeAlong 37 rfl) (by first | assumption | decide | omega) (by first | assumption | decide | omega) (np 67 rfl ?_)
  refine r_iload (dc dkX6_takeAlong 38 rfl) rfl (np 69 rfl ?_)
  refine r_bipush (dc dkX6_takeAlong 39 rfl) bp_10 (np 71 rfl ?_)
  refine r_iremn (dc dkX6_takeAlong 40 rfl) (by first | assumption | decide | omega) (by first | assumption | decide | omega) (np 72 rfl ?_)
  refine r_iload (dc dkX6_takeAlong 41 rfl) rfl (np 74 rfl ?_)
  refine r_bipush (dc dkX6_takeAlong 42 rfl) bp_10 (np 76 rfl ?_)
  refine r_iremn (dc dkX6_takeAlong 43 rfl) (by first | assumption | decide | omega) (by first | assumption | decide | omega) (np 77 rfl ?_)
  refine r_isub (dc dkX6_takeAlong 44 rfl) (np 78 rfl ?_)
  refine r_iload (dc dkX6_takeAlong 45 rfl) rfl (np 80 rfl ?_)
  refine r_idiv (dc dkX6_takeAlong 46 rfl) (by first | assumption | decide | omega) (by first | assumption | decide | omega) (np 81 rfl ?_)
  refine r_iload (dc dkX6_takeAlong 47 rfl) rfl (np 83 rfl ?_)
  refine r_imul (dc dkX6_takeAlong 48 rfl) (np 84 rfl ?_)
  refine r_iadd (dc dkX6_takeAlong 49 rfl) (np 85 rfl ?_)
  refine r_istore (lv' := [(8, _), (0, _), (1, _), (2, _), (3, _), (4, _), (5, _), (6, _), (7, _)]) (dc dkX6_takeAlong 50 rfl) (Nat.le_of_ble_eq_true rfl) rfl (np 87 rfl ?_)
  refine r_iload (dc dkX6_takeAlong 51 rfl) rfl (np 89 rfl ?_)
  refine r_bipush (dc dkX6_takeAlong 52 rfl) bp_10 (np 91 rfl ?_)
  refine r_idivn (dc dkX6_takeAlong 53 rfl) (by first | assumption | decide | omega) (by first | assumption | decide | omega) (np 92 rfl ?_)
  refine r_iload (dc dkX6_takeAlong 54 rfl) rfl (np 94 rfl ?_)
  refine r_bipush (dc dkX6_takeAlong 55 rfl) bp_10 (np 96 rfl ?_)
  refine r_idivn (dc dkX6_takeAlong 56 rfl) (by first | assumption | decide | omega) (by first | assumption | decide | omega) (np 97 rfl ?_)
  refine r_iload (dc dkX6_takeAlong 57 rfl) rfl (np 99 rfl ?_)
  refine r_bipush (dc dkX6_takeAlong 58 rfl) bp_10 (np 101 rfl ?_)
  refine r_idivn (dc dkX6_takeAlong 59 rfl) (by first | assumption | decide | omega) (by first | assumption | decide | omega) (np 102 rfl ?_)
  refine r_isub (dc dkX6_takeAlong 60 rfl) (np 103 rfl ?_)
  refine r_iload (dc dkX6_takeAlong 61 rfl) rfl (np 105 rfl ?_)
  refine r_idiv (dc dkX6_takeAlong 62 rfl) (by first | assumption | decide | omega) (by first | assumption | decide | omega) (np 106 rfl ?_)
  refine r_iload (dc dkX6_takeAlong 63 rfl) rfl (np 108 rfl ?_)
  refine r_imul (dc dkX6_takeAlong 64 rfl) (np 109 rfl ?_)
  refine r_iadd (dc dkX6_takeAlong 65 rfl) (np 110 rfl ?_)
  refine r_istore (lv' := [(9, _), (8, _), (0, _), (1, _), (2, _), (3, _), (4, _), (5, _), (6, _), (7, _)]) (dc dkX6_takeAlong 66 rfl) (Nat.le_of_ble_eq_true rfl) rfl (np 112 rfl ?_)
  refine r_aload_n (dc dkX6_takeAlong 67 rfl) rfl (np 113 rfl ?_)
  refine r_getR (dc dkX6_takeAlong 68 rfl) flX6_9 fd_15_0 (np 116 rfl ?_)
  refine r_aload_n (dc dkX6_takeAlong 69 rfl) rfl (np 117 rfl ?_)
  refine r_gI 1 (dc dkX6_takeAlong 70 rfl) flX6_15 fd_15_1 rfl (np 120 rfl ?_)
  refine r_bipush (dc dkX6_takeAlong 71 rfl) bp_10 (np 122 rfl ?_)
  refine r_iload (dc dkX6_takeAlong 72 rfl) rfl (np 124 rfl ?_)
  refine r_imul (dc dkX6_takeAlong 73 rfl) (np 125 rfl ?_)
  refine r_iload (dc dkX6_takeAlong 74 rfl) rfl (np 127 rfl ?_)
  refine r_iadd (dc dkX6_takeAlong 75 rfl) (np 128 rfl ?_)
  refine r_iast (dc dkX6_takeAlong 76 rfl) ar_16 (by omega) (np 129 rfl ?_)
  refine r_aload_n (dc dkX6_takeAlong 77 rfl) rfl (np 130 rfl ?_)
  refine r_dup (dc dkX6_takeAlong 78 rfl) rfl (np 131 rfl ?_)
  refine r_gI 1 (dc dkX6_takeAlong 79 rfl) flX6_15 fd_15_1 rfl (np 134 rfl ?_)
  refine r_iconst (dc dkX6_takeAlong 80 rfl) (np 135 rfl ?_)
  refine r_iadd (dc dkX6_takeAlong 81 rfl) (np 136 rfl ?_)
  refine r_pI 1 (dc dkX6_takeAlong 82 rfl) fpX6_15 fd_15_1 rfl (np 139 rfl ?_)
  refine r_iinc (lv' := [(7, _), (9, _), (8, _), (0, _), (1, _), (2, _), (3, _), (4, _), (5, _), (6, _)]) (dc dkX6_takeAlong 83 rfl) (Nat.le_of_ble_eq_true rfl) rfl rfl (np 142 rfl ?_)
  refine r_goto (tgt := 46) (dc dkX6_takeAlong 84 rfl) rfl ?_
  refine r_pick [3, 4, 5, 6, 7, 8, 9, 0] rfl ?_
  exact ih46 _ _ (by
        have eT : ∀ v, ju (ju τ 16 (τ 15 1) v) 15 1 (ju τ 16 (τ 15 1) v 15 1 + 1) 15 1 = τ 15 1 + 1 := fun v => by rw [ju_at, ju_off _ _ _ _ _ (by decide)]
        refine ⟨by omega, (S.put (by decide)).put (by decide), ?_, ?_, fun j j0 j1 => ?_⟩
        · rw [eT, fl_s _ (by omega), ← List.append_assoc, ju_off _ _ _ _ _ (by decide)]
          exact LI_1 hI46.2.2.1 (ju_at _ _ _ _) (fun j hj => ju_ne (by omega))
        · rw [eT]; omega
        · rw [eT] at j1
          rw [ju_off _ _ _ _ _ (by decide)]
          by_cases q : j = τ 15 1
          · rw [q, ju_at]; exact AL.1
          · rw [ju_ne (by omega)]; exact hI46.2.2.2.2 j j0 (by omega)) (by omega)
set_option maxRecDepth 100000 in
set_option maxHeartbeats 4000000 in
theorem c_X6_findCut {σ : jS} (hB : okB σ 30) {b : Int} (h0 : 0 ≤ b) (h1 : b < 8) (hn : 3 ≤ σ 32 b) {k : Int} (hk : iR k) : Jm 5 miX6_findCut [.ref 15, .ref 30, vI b, vI k] σ (fun r τ => r = some (vI (nthL (PL2 (alP (σ 32 b) (bAt σ 30 b)) (QKc (σ 32 b) (bAt σ 30 b) (alP (σ 32 b) (bAt σ 30 b))) (alN (σ 32 b) (bAt σ 30 b))) k)) ∧ same [15, 16] σ τ) := by
  have s8 : σ 32 b ≤ 8 := (hB.2.1 b h0 h1).2
  have pg : ∀ i, 0 ≤ i → 0 ≤ bAt σ 30 b i ∧ bAt σ 30 b i ≤ 99 := fun i i0 => bAt_p hB h0 h1 (show 0 < σ 32 b by omega) i0
  have ab := smI_b (f := fun i => sh (bAt σ 30 b i) (bAt σ 30 b (i + 1))) (A := 81) (n := σ 32 b) (by omega) (fun i i0 i1 => sh_b (pg i i0) (pg (i + 1) (by omega)))
  replace ab : -(σ 32 b * 81) ≤ areaS (σ 32 b) (bAt σ 30 b) ∧ areaS (σ 32 b) (bAt σ 30 b) ≤ σ 32 b * 81 := ab
  refine jm_ofF (Po := (fun r τ => r = some (vI (nthL (PL2 (alP (σ 32 b) (bAt σ 30 b)) (QKc (σ 32 b) (bAt σ 30 b) (alP (σ 32 b) (bAt σ 30 b))) (alN (σ 32 b) (bAt σ 30 b))) k)) ∧ same [15, 16] σ τ)) (plainFor_of_name (by decide)) (Nat.le_of_ble_eq_true rfl) (lv := [(0, _), (1, _), (2, _), (3, _)]) rfl ?_
  refine r_aload_n (dc dkX6_findCut 0 rfl) rfl (np 1 rfl ?_)
  refine r_aload_n (dc dkX6_findCut 1 rfl) rfl (np 2 rfl ?_)
  refine r_iload_n (dc dkX6_findCut 2 rfl) rfl (np 3 rfl ?_)
  refine r_cV2 (y' := miX6_takeAlong) (dc dkX6_findCut 3 rfl) mlX6_48 ceX6_takeAlong ob_15 (Nat.le_of_ble_eq_true rfl) (Nat.le_of_ble_eq_true rfl) (c_X6_takeAlong hB h0 h1 hn) (fun r τ hp => (np 6 rfl ?_))
  obtain ⟨rfl, S, T, B, G⟩ := hp
  have oB : okB τ 30 := okB_t hB (S 30 (by decide)) (S 31 (by decide)) (S 32 (by decide)) (S 33 (by decide))
  have e32 : τ 32 = σ 32 := S 32 (by decide)
  have eA : bAt τ 30 b = bAt σ 30 b := by funext y; exact bAt_t e32 (S 33 (by decide)) b y
  have eN : nthL (PL2 (τ 16) (QKc (σ 32 b) (bAt σ 30 b) (τ 16)) (τ 15 1)) k = nthL (PL2 (alP (σ 32 b) (bAt σ 30 b)) (QKc (σ 32 b) (bAt σ 30 b) (alP (σ 32 b) (bAt σ 30 b))) (alN (σ 32 b) (bAt σ 30 b))) k := by
    have e : ∀ i, 0 ≤ i → i < τ 15 1 → τ 16 i = alP (σ 32 b) (bAt σ 30 b) i := fun i i0 i1 => LI_at T i0 i1
    rw [show alN (σ 32 b) (bAt σ 30 b) = τ 15 1 from T.1.symm]
    rw [PL2_c e (fun i j i0 ij j1 => ?_)]
    unfold QKc
    rw [prS_c e ⟨i0, by omega⟩ ⟨by omega, j1⟩, e i i0 (by omega), e j (by omega) j1]
  refine r_aload_n (dc dkX6_findCut 4 rfl) rfl (np 7 rfl ?_)
  refine r_iload_n (dc dkX6_findCut 5 rfl) rfl (np 8 rfl ?_)
  refine r_pV1 (y' := miX0_signedArea) (dc dkX6_findCut 6 rfl) mlX6_52 ceX0_signedArea ob_30 (Nat.le_of_ble_eq_true rfl) (Nat.le_of_ble_eq_true rfl) (c_X0_signedArea isBands_at30 oB h0 h1) (np 11 rfl ?_)
  refine r_eqI (areaS (σ 32 b) (bAt σ 30 b)) (by rw [show τ (30 + 2) = σ 32 from e32, eA]) ?_
  refine r_istore (lv' := [(4, _), (0, _), (1, _), (2, _), (3, _)]) (dc dkX6_findCut 7 rfl) (Nat.le_of_ble_eq_true rfl) rfl (np 13 rfl ?_)
  refine r_iconst (dc dkX6_findCut 8 rfl) (np 14 rfl ?_)
  refine r_istore (lv' := [(5, _), (4, _), (0, _), (1, _), (2, _), (3, _)]) (dc dkX6_findCut 9 rfl) (Nat.le_of_ble_eq_true rfl) rfl (np 16 rfl ?_)
  refine r_iconst (dc dkX6_findCut 10 rfl) (np 17 rfl ?_)
  refine r_istore (lv' := [(6, _), (5, _), (4, _), (0, _), (1, _), (2, _), (3, _)]) (dc dkX6_findCut 11 rfl) (Nat.le_of_ble_eq_true rfl) rfl (np 19 rfl ?_)
  refine r_pick [3, 4, 5, 6, 2, 1, 0] (lv' := [(0, _), (1, _), (2, _), (3, _), (4, _), (5, _), (6, _)]) rfl ?_
  refine jlp2 (P := fun (n : Int) (i : Int) => jR _ _ _ 19 [(0, .ref 15), (1, .ref 30), (2, vI b), (3, vI k), (4, vI (areaS (σ 32 b) (bAt σ 30 b))), (5, vI n), (6, vI i)] [] τ) (I := fun (n : Int) (i : Int) => (0 ≤ i ∧ i ≤ τ 15 1) ∧ n = (fl (F2 (τ 16) (QKc (σ 32 b) (bAt σ 30 b) (τ 16)) (τ 15 1)) i).length ∧ ¬ (0 ≤ k ∧ k < n)) (fun (n : Int) (i : Int) => (τ 15 1 - i).toNat) ?_ _ _ ⟨by omega, rfl, by omega⟩
  intro n i hI19 ih19
  refine r_iload (dc dkX6_findCut 12 rfl) rfl (np 21 rfl ?_)
  refine r_aload_n (dc dkX6_findCut 13 rfl) rfl (np 22 rfl ?_)
  refine r_gI 1 (dc dkX6_findCut 14 rfl) flX6_15 fd_15_1 rfl (np 25 rfl ?_)
  refine r_icmp_ge (tgt := 171) (dc dkX6_findCut 15 rfl) rfl (by first | assumption | decide | omega) (by first | assumption | decide | omega) (fun h25 => ?_) (fun h25 => (np 28 rfl ?_))
  · skip
    refine r_iload_n (dc dkX6_findCut 93 rfl) rfl (np 172 rfl ?_)
    refine r_iconst (dc dkX6_findCut 94 rfl) (np 173 rfl ?_)
    refine r_icmp_ne (tgt := 181) (dc dkX6_findCut 95 rfl) rfl (by first | assumption | decide | omega) (by first | assumption | decide | omega) (fun h173 => ?_) (fun h173 => (np 176 rfl ?_))
    · skip
      refine r_iconst (dc dkX6_findCut 98 rfl) (np 182 rfl ?_)
      exact r_iret (dc dkX6_findCut 99 rfl) rfl ⟨congrArg (fun z => some (vI z)) (by rw [show i = τ 15 1 by omega] at hI19; rw [← eN, nthL_end (T := PL2 _ _ _) hI19.2.1 hI19.2.2]; first | (rw [if_pos (by omega)]; done) | (rw [if_neg (by omega)]; done)), S⟩
    refine r_iload (dc dkX6_findCut 96 rfl) rfl (np 178 rfl ?_)
    refine r_goto (tgt := 182) (dc dkX6_findCut 97 rfl) rfl ?_
    exact r_iret (dc dkX6_findCut 99 rfl) rfl ⟨congrArg (fun z => some (vI z)) (by rw [show i = τ 15 1 by omega] at hI19; rw [← eN, nthL_end (T := PL2 _ _ _) hI19.2.1 hI19.2.2]; first | (rw [if_pos (by omega)]; done) | (rw [if_neg (by omega)]; done)), S⟩
  refine r_iconst (dc dkX6_findCut 16 rfl) (np 29 rfl ?_)
  refine r_istore (lv' := [(7, _), (0, _), (1, _), (2, _), (3, _), (4, _), (5, _), (6, _)]) (dc dkX6_findCut 17 rfl) (Nat.le_of_ble_eq_true rfl) rfl (np 31 rfl ?_)
  refine r_iload (dc dkX6_findCut 18 rfl) rfl (np 33 rfl ?_)
  refine r_iconst (dc dkX6_findCut 19 rfl) (np 34 rfl ?_)
  refine r_iadd (dc dkX6_findCut 20 rfl) (np 35 rfl ?_)
  refine r_istore (lv' := [(8, _), (7, _), (0, _), (1, _), (2, _), (3, _), (4, _), (5, _), (6, _)]) (dc dkX6_findCut 21 rfl) (Nat.le_of_ble_eq_true rfl) rfl (np 37 rfl ?_)
  refine r_pick [2, 3, 4, 5, 6, 7, 8, 1, 0] (lv' := [(0, _), (1, _), (2, _), (3, _), (4, _), (5, _), (6, _), (7, _), (8, _)]) rfl ?_
  refine jlp3 (P := fun (n : Int) (z : Int) (j : Int) => jR _ _ _ 37 [(0, .ref 15), (1, .ref 30), (2, vI b), (3, vI k), (4, vI (areaS (σ 32 b) (bAt σ 30 b))), (5, vI n), (6, vI i), (7, vI z), (8, vI j)] [] τ) (I := fun (n : Int) (z : Int) (j : Int) => (i + 1 ≤ j ∧ j ≤ τ 15 1) ∧ z = smI (fun q => sh (τ 16 q) (τ 16 (q + 1))) (j - 1) - smI (fun q => sh (τ 16 q) (τ 16 (q + 1))) i ∧ n = (fl (F2 (τ 16) (QKc (σ 32 b) (bAt σ 30 b) (τ 16)) (τ 15 1)) i ++ fl (H2 (τ 16) (QKc (σ 32 b) (bAt σ 30 b) (τ 16)) i) j).length ∧ ¬ (0 ≤ k ∧ k < n)) (fun (n : Int) (z : Int) (j : Int) => (τ 15 1 - j).toNat) ?_ _ _ _ ⟨by omega, by rw [show i + 1 - 1 = i by omega]; omega, by rw [H2_0, List.append_nil]; exact hI19.2.1, hI19.2.2⟩
  intro n z j hI37 ih37
  refine r_iload (dc dkX6_findCut 22 rfl) rfl (np 39 rfl ?_)
  refine r_aload_n (dc dkX6_findCut 23 rfl) rfl (np 40 rfl ?_)
  refine r_gI 1 (dc dkX6_findCut 24 rfl) flX6_15 fd_15_1 rfl (np 43 rfl ?_)
  refine r_icmp_ge (tgt := 165) (dc dkX6_findCut 25 rfl) rfl (by first | assumption | decide | omega) (by first | assumption | decide | omega) (fun h43 => ?_) (fun h43 => (np 46 rfl ?_))
  · skip
    refine r_iinc (lv' := [(6, _), (0, _), (1, _), (2, _), (3, _), (4, _), (5, _), (7, _), (8, _)]) (dc dkX6_findCut 91 rfl) (Nat.le_of_ble_eq_true rfl) rfl rfl (np 168 rfl ?_)
    refine r_goto (tgt := 19) (dc dkX6_findCut 92 rfl) rfl ?_
    refine r_pick [1, 2, 3, 4, 5, 6, 0] rfl ?_
    exact ih19 _ _ ⟨by omega, by rw [fl_s _ (by omega)]; rw [show j = τ 15 1 by omega] at hI37; exact hI37.2.2.1, hI37.2.2.2⟩ (by omega)
  have nb2 := L2_len (pl := τ 16) (Q := QKc (σ 32 b) (bAt σ 30 b) (τ 16)) (m := τ 15 1) (i := i) (j := j) (by omega) (by omega) (by omega)
  rw [← Int.ofNat_le, ← hI37.2.2.1] at nb2
  have g1 := G i (by omega) (by omega)
  have g2 := G j (by omega) (by omega)
  have g3 := G (j - 1) (by omega) (by omega)
  have x1 := sh_b g3 g2
  have x2 := sh_b g2 g1
  have x3 := smI_b (f := fun q => sh (τ 16 q) (τ 16 (q + 1))) (A := 81) (n := j) (by omega) (fun q q0 q1 => sh_b (G q q0 (by omega)) (G (q + 1) (by omega) (by omega)))
  have x4 := smI_b (f := fun q => sh (τ 16 q) (τ 16 (q + 1))) (A := 81) (n := i) (by omega) (fun q q0 q1 => sh_b (G q q0 (by omega)) (G (q + 1) (by omega) (by omega)))
  have x5 := smI_s (fun q => sh (τ 16 q) (τ 16 (q + 1))) (show 0 ≤ j - 1 by omega)
  rw [show j - 1 + 1 = j by omega] at x5
  have x6 : z + sh (τ 16 (j - 1)) (τ 16 j) + sh (τ 16 j) (τ 16 i) = prS (τ 16) i j := by unfold prS; omega
  have x7 : -20000 ≤ prS (τ 16) i j ∧ prS (τ 16) i j ≤ 20000 := by unfold prS; omega
  refine r_iload (dc dkX6_findCut 26 rfl) rfl (np 48 rfl ?_)
  refine r_aload_n (dc dkX6_findCut 27 rfl) rfl (np 49 rfl ?_)
  refine r_getR (dc dkX6_findCut 28 rfl) flX6_9 fd_15_0 (np 52 rfl ?_)
  refine r_iload (dc dkX6_findCut 29 rfl) rfl (np 54 rfl ?_)
  refine r_iconst (dc dkX6_findCut 30 rfl) (np 55 rfl ?_)
  refine r_isub (dc dkX6_findCut 31 rfl) (np 56 rfl ?_)
  refine r_iald (dc dkX6_findCut 32 rfl) ar_16 (by omega) (np 57 rfl ?_)
  refine r_aload_n (dc dkX6_findCut 33 rfl) rfl (np 58 rfl ?_)
  refine r_getR (dc dkX6_findCut 34 rfl) flX6_9 fd_15_0 (np 61 rfl ?_)
  refine r_iload (dc dkX6_findCut 35 rfl) rfl (np 63 rfl ?_)
  refine r_iald (dc dkX6_findCut 36 rfl) ar_16 (by omega) (np 64 rfl ?_)
  refine r_pS2 (y' := miX7_shoelace) (dc dkX6_findCut 37 rfl) mlX6_57 seX7_shoelace (Nat.le_of_ble_eq_true rfl) (Nat.le_of_ble_eq_true rfl) (c_X7_shoelace g3 g2) (np 67 rfl ?_)
  refine r_iadd (dc dkX6_findCut 38 rfl) (np 68 rfl ?_)
  refine r_istore (lv' := [(7, _), (0, _), (1, _), (2, _), (3, _), (4, _), (5, _), (6, _), (8, _)]) (dc dkX6_findCut 39 rfl) (Nat.le_of_ble_eq_true rfl) rfl (np 70 rfl ?_)
  refine r_iconst (dc dkX6_findCut 40 rfl) (np 71 rfl ?_)
  refine r_iload (dc dkX6_findCut 41 rfl) rfl (np 73 rfl ?_)
  refine r_aload_n (dc dkX6_findCut 42 rfl) rfl (np 74 rfl ?_)
  refine r_getR (dc dkX6_findCut 43 rfl) flX6_9 fd_15_0 (np 77 rfl ?_)
  refine r_iload (dc dkX6_findCut 44 rfl) rfl (np 79 rfl ?_)
  refine r_iald (dc dkX6_findCut 45 rfl) ar_16 (by omega) (np 80 rfl ?_)
  refine r_aload_n (dc dkX6_findCut 46 rfl) rfl (np 81 rfl ?_)
  refine r_getR (dc dkX6_findCut 47 rfl) flX6_9 fd_15_0 (np 84 rfl ?_)
  refine r_iload (dc dkX6_findCut 48 rfl) rfl (np 86 rfl ?_)
  refine r_iald (dc dkX6_findCut 49 rfl) ar_16 (by omega) (np 87 rfl ?_)
  refine r_pS2 (y' := miX7_shoelace) (dc dkX6_findCut 50 rfl) mlX6_57 seX7_shoelace (Nat.le_of_ble_eq_true rfl) (Nat.le_of_ble_eq_true rfl) (c_X7_shoelace g2 g1) (np 90 rfl ?_)
  refine r_iadd (dc dkX6_findCut 51 rfl) (np 91 rfl ?_)
  refine r_eqI (prS (τ 16) i j) x6 ?_
  refine r_imul (dc dkX6_findCut 52 rfl) (np 92 rfl ?_)
  have jj102 : ∀ g : Int, ((g = 1 ∧ 2 * prS (τ 16) i j = areaS (σ 32 b) (bAt σ 30 b)) ∨ (g = 0 ∧ ¬ 2 * prS (τ 16) i j = areaS (σ 32 b) (bAt σ 30 b))) → jR 5 miX6_findCut (fun r τ => r = some (vI (nthL (PL2 (alP (σ 32 b) (bAt σ 30 b)) (QKc (σ 32 b) (bAt σ 30 b) (alP (σ 32 b) (bAt σ 30 b))) (alN (σ 32 b) (bAt σ 30 b))) k)) ∧ same [15, 16] σ τ) 102 [(0, .ref 15), (1, .ref 30), (2, vI b), (3, vI k), (4, vI (areaS (σ 32 b) (bAt σ 30 b))), (5, vI n), (6, vI i), (7, vI (z + sh (τ 16 (j - 1)) (τ 16 j))), (8, vI j)] [vI g] τ := by
    intro g hg
    refine r_istore (lv' := [(9, _), (0, _), (1, _), (2, _), (3, _), (4, _), (5, _), (6, _), (7, _), (8, _)]) (dc dkX6_findCut 58 rfl) (Nat.le_of_ble_eq_true rfl) rfl (np 104 rfl ?_)
    refine r_iload (dc dkX6_findCut 59 rfl) rfl (np 106 rfl ?_)
    refine r_if_eq (tgt := 159) (dc dkX6_findCut 60 rfl) rfl (by first | assumption | decide | omega) (fun h106 => ?_) (fun h106 => (np 109 rfl ?_))
    · skip
      refine r_iinc (lv' := [(8, _), (9, _), (0, _), (1, _), (2, _), (3, _), (4, _), (5, _), (6, _), (7, _)]) (dc dkX6_findCut 89 rfl) (Nat.le_of_ble_eq_true rfl) rfl rfl (np 162 rfl ?_)
      refine r_goto (tgt := 37) (dc dkX6_findCut 90 rfl) rfl ?_
      refine r_pick [2, 3, 4, 5, 6, 7, 8, 9, 0] rfl ?_
      exact ih37 _ _ _ (by
            refine ⟨by omega, by rw [show j + 1 - 1 = j by omega]; omega, ?_⟩
            rw [fl_s _ (by omega)]
            first
            | (rw [H2_f (fun q => by have := q.1; omega), List.append_nil]; exact hI37.2.2)
            | (rw [H2_f (fun q => h128 q.2), List.append_nil]; exact hI37.2.2)
            | (rw [H2_t (by omega) ⟨by omega, h128⟩, ← List.append_assoc]; exact fnd_s hI37.2.2.1 hI37.2.2.2 (by omega))) (by omega)
    refine r_aload_n (dc dkX6_findCut 61 rfl) rfl (np 110 rfl ?_)
    refine r_iload_n (dc dkX6_findCut 62 rfl) rfl (np 111 rfl ?_)
    refine r_aload_n (dc dkX6_findCut 63 rfl) rfl (np 112 rfl ?_)
    refine r_getR (dc dkX6_findCut 64 rfl) flX6_9 fd_15_0 (np 115 rfl ?_)
    refine r_iload (dc dkX6_findCut 65 rfl) rfl (np 117 rfl ?_)
    refine r_iald (dc dkX6_findCut 66 rfl) ar_16 (by omega) (np 118 rfl ?_)
    refine r_aload_n (dc dkX6_findCut 67 rfl) rfl (np 119 rfl ?_)
    refine r_getR (dc dkX6_findCut 68 rfl) flX6_9 fd_15_0 (np 122 rfl ?_)
    refine r_iload (dc dkX6_findCut 69 rfl) rfl (np 124 rfl ?_)
    refine r_iald (dc dkX6_findCut 70 rfl) ar_16 (by omega) (np 125 rfl ?_)
    refine r_pS4 (y' := miX6_runsInside) (dc dkX6_findCut 71 rfl) mlX6_60 seX6_runsInside (Nat.le_of_ble_eq_true rfl) (Nat.le_of_ble_eq_true rfl) (c_X6_runsInside isBands_at30 oB h0 h1 g1 g2) (np 128 rfl ?_)
    refine r_eqI (bI (rnsI (σ 32 b) (bAt σ 30 b) (τ 16 i) (τ 16 j))) (by rw [show τ (30 + 2) = σ 32 from e32, eA]) ?_
    refine r_bz (tgt := 159) (dc dkX6_findCut 72 rfl) rfl (fun h128 => ?_) (fun h128 => (np 131 rfl ?_))
    · skip
      refine r_iinc (lv' := [(8, _), (9, _), (0, _), (1, _), (2, _), (3, _), (4, _), (5, _), (6, _), (7, _)]) (dc dkX6_findCut 89 rfl) (Nat.le_of_ble_eq_true rfl) rfl rfl (np 162 rfl ?_)
      refine r_goto (tgt := 37) (dc dkX6_findCut 90 rfl) rfl ?_
      refine r_pick [2, 3, 4, 5, 6, 7, 8, 9, 0] rfl ?_
      exact ih37 _ _ _ (by
            refine ⟨by omega, by rw [show j + 1 - 1 = j by omega]; omega, ?_⟩
            rw [fl_s _ (by omega)]
            first
            | (rw [H2_f (fun q => by have := q.1; omega), List.append_nil]; exact hI37.2.2)
            | (rw [H2_f (fun q => h128 q.2), List.append_nil]; exact hI37.2.2)
            | (rw [H2_t (by omega) ⟨by omega, h128⟩, ← List.append_assoc]; exact fnd_s hI37.2.2.1 hI37.2.2.2 (by omega))) (by omega)
    refine r_iload (dc dkX6_findCut 73 rfl) rfl (np 133 rfl ?_)
    refine r_iload_n (dc dkX6_findCut 74 rfl) rfl (np 134 rfl ?_)
    refine r_icmp_ne (tgt := 156) (dc dkX6_findCut 75 rfl) rfl (by first | assumption | decide | omega) (by first | assumption | decide | omega) (fun h134 => ?_) (fun h134 => (np 137 rfl ?_))
    · skip
      refine r_iinc (lv' := [(5, _), (9, _), (0, _), (1, _), (2, _), (3, _), (4, _), (6, _), (7, _), (8, _)]) (dc dkX6_findCut 88 rfl) (Nat.le_of_ble_eq_true rfl) rfl rfl (np 159 rfl ?_)
      refine r_iinc (lv' := [(8, _), (5, _), (9, _), (0, _), (1, _), (2, _), (3, _), (4, _), (6, _), (7, _)]) (dc dkX6_findCut 89 rfl) (Nat.le_of_ble_eq_true rfl) rfl rfl (np 162 rfl ?_)
      refine r_goto (tgt := 37) (dc dkX6_findCut 90 rfl) rfl ?_
      refine r_pick [3, 4, 5, 6, 7, 1, 8, 9, 0] rfl ?_
      exact ih37 _ _ _ (by
            refine ⟨by omega, by rw [show j + 1 - 1 = j by omega]; omega, ?_⟩
            rw [fl_s _ (by omega)]
            first
            | (rw [H2_f (fun q => by have := q.1; omega), List.append_nil]; exact hI37.2.2)
            | (rw [H2_f (fun q => h128 q.2), List.append_nil]; exact hI37.2.2)
            | (rw [H2_t (by omega) ⟨by omega, h128⟩, ← List.append_assoc]; exact fnd_s hI37.2.2.1 hI37.2.2.2 (by omega))) (by omega)
    refine r_bipush (dc dkX6_findCut 76 rfl) bp_100 (np 139 rfl ?_)
    refine r_aload_n (dc dkX6_findCut 77 rfl) rfl (np 140 rfl ?_)
    refine r_getR (dc dkX6_findCut 78 rfl) flX6_9 fd_15_0 (np 143 rfl ?_)
    refine r_iload (dc dkX6_findCut 79 rfl) rfl (np 145 rfl ?_)
    refine r_iald (dc dkX6_findCut 80 rfl) ar_16 (by omega) (np 146 rfl ?_)
    refine r_imul (dc dkX6_findCut 81 rfl) (np 147 rfl ?_)
    refine r_aload_n (dc dkX6_findCut 82 rfl) rfl (np 148 rfl ?_)
    refine r_getR (dc dkX6_findCut 83 rfl) flX6_9 fd_15_0 (np 151 rfl ?_)
    refine r_iload (dc dkX6_findCut 84 rfl) rfl (np 153 rfl ?_)
    refine r_iald (dc dkX6_findCut 85 rfl) ar_16 (by omega) (np 154 rfl ?_)
    refine r_iadd (dc dkX6_findCut 86 rfl) (np 155 rfl ?_)
    exact r_iret (dc dkX6_findCut 87 rfl) rfl ⟨congrArg (fun z => some (vI z)) (by rw [← eN]; exact (nthL_at (PL2_at (by omega) (by omega) ⟨by omega, h128⟩) (by rw [← hI37.2.2.1]; omega)).symm), S⟩
  refine r_iload (dc dkX6_findCut 53 rfl) rfl (np 94 rfl ?_)
  refine r_icmp_ne (tgt := 101) (dc dkX6_findCut 54 rfl) rfl (by first | assumption | decide | omega) (by first | assumption | decide | omega) (fun h94 => ?_) (fun h94 => (np 97 rfl ?_))
  · skip
    refine r_iconst (dc dkX6_findCut 57 rfl) (np 102 rfl ?_)
    refine r_pick [1, 2, 3, 4, 5, 6, 7, 0, 8] rfl ?_
    exact jj102 _ (by omega)
  refine r_iconst (dc dkX6_findCut 55 rfl) (np 98 rfl ?_)
  refine r_goto (tgt := 102) (dc dkX6_findCut 56 rfl) rfl ?_
  refine r_pick [1, 2, 3, 4, 5, 6, 7, 0, 8] rfl ?_
  exact jj102 _ (by omega)
set_option maxRecDepth 100000 in
set_option maxHeartbeats 4000000 in
theorem c_X12_cuts {σ : jS} (hB : okB σ 30) (hn : ∀ b, 0 ≤ b → b < σ 30 0 → 3 ≤ σ 32 b) {b k : Int} (hb : iR b) (hk : iR k) : Jm 6 miX12_cuts [.ref 0, vI b, vI k] σ (fun r τ => r = some (vI (gte (0 ≤ b ∧ b < σ 30 0) (nthL (PL2 (alP (σ 32 b) (bAt σ 30 b)) (QKc (σ 32 b) (bAt σ 30 b) (alP (σ 32 b) (bAt σ 30 b))) (alN (σ 32 b) (bAt σ 30 b))) k) (-1))) ∧ same [15, 16] σ τ) := by
  have m8 := hB.1
  refine jm_ofF (Po := (fun r τ => r = some (vI (gte (0 ≤ b ∧ b < σ 30 0) (nthL (PL2 (alP (σ 32 b) (bAt σ 30 b)) (QKc (σ 32 b) (bAt σ 30 b) (alP (σ 32 b) (bAt σ 30 b))) (alN (σ 32 b) (bAt σ 30 b))) k) (-1))) ∧ same [15, 16] σ τ)) (plainFor_of_name (by decide)) (Nat.le_of_ble_eq_true rfl) (lv := [(0, _), (1, _), (2, _)]) rfl ?_
  refine r_aload_n (dc dkX12_cuts 0 rfl) rfl (np 1 rfl ?_)
  refine r_getR (dc dkX12_cuts 1 rfl) flX12_24 fd_0_2 (np 4 rfl ?_)
  refine r_getR (dc dkX12_cuts 2 rfl) flX12_105 fd_27_1 (np 7 rfl ?_)
  refine r_getR (dc dkX12_cuts 3 rfl) flX12_167 fd_28_9 (np 10 rfl ?_)
  refine r_iload_n (dc dkX12_cuts 4 rfl) rfl (np 11 rfl ?_)
  refine r_pV1 (y' := miX0_has) (dc dkX12_cuts 5 rfl) mlX12_171 ceX0_has ob_30 (Nat.le_of_ble_eq_true rfl) (Nat.le_of_ble_eq_true rfl) (c_X0_has isBands_at30 hB (by omega)) (np 14 rfl ?_)
  refine r_bz (tgt := 39) (dc dkX12_cuts 6 rfl) rfl (fun h14 => ?_) (fun h14 => (np 17 rfl ?_))
  · skip
    refine r_iconst (dc dkX12_cuts 17 rfl) (np 40 rfl ?_)
    exact r_iret (dc dkX12_cuts 18 rfl) rfl (by first | exact ⟨congrArg (fun z => some (vI z)) (by rw [gte_f h14]), same.refl _ _⟩ | exact ⟨congrArg (fun z => some (vI z)) (by rw [gte_t h14]), S⟩)
  refine r_aload_n (dc dkX12_cuts 7 rfl) rfl (np 18 rfl ?_)
  refine r_getR (dc dkX12_cuts 8 rfl) flX12_67 fd_0_10 (np 21 rfl ?_)
  refine r_aload_n (dc dkX12_cuts 9 rfl) rfl (np 22 rfl ?_)
  refine r_getR (dc dkX12_cuts 10 rfl) flX12_24 fd_0_2 (np 25 rfl ?_)
  refine r_getR (dc dkX12_cuts 11 rfl) flX12_105 fd_27_1 (np 28 rfl ?_)
  refine r_getR (dc dkX12_cuts 12 rfl) flX12_167 fd_28_9 (np 31 rfl ?_)
  refine r_iload_n (dc dkX12_cuts 13 rfl) rfl (np 32 rfl ?_)
  refine r_iload_n (dc dkX12_cuts 14 rfl) rfl (np 33 rfl ?_)
  refine r_cV3 (y' := miX6_findCut) (dc dkX12_cuts 15 rfl) mlX12_326 ceX6_findCut ob_15 (Nat.le_of_ble_eq_true rfl) (Nat.le_of_ble_eq_true rfl) (c_X6_findCut hB (by omega) (by omega) (hn b (by omega) (by omega)) hk) (fun r τ hp => (np 36 rfl ?_))
  obtain ⟨rfl, S⟩ := hp
  refine r_goto (tgt := 40) (dc dkX12_cuts 16 rfl) rfl ?_
  exact r_iret (dc dkX12_cuts 18 rfl) rfl (by first | exact ⟨congrArg (fun z => some (vI z)) (by rw [gte_f h14]), same.refl _ _⟩ | exact ⟨congrArg (fun z => some (vI z)) (by rw [gte_t h14]), S⟩)
