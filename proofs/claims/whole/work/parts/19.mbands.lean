/-! ===== words of the reference's bands ===== -/
def okN (σ : jS) : Prop := okH σ 113 ∧ ∀ b, 0 ≤ b → b < σ 113 4 → vB σ 113 b
noncomputable def bentR (n : Int) (P : Int → Int) : Int := smI (fun i => bI (¬ sgn (tn (P (i + n - 1)) (P i) (P (i + 1))) = sgn (areaS n P))) n
noncomputable def rightR (n : Int) (P : Int → Int) : Int := smI (fun i => bI (al (P i) (P (i + n - 1)) (P (i + 1)) = 0)) n
def crV (s px py ax ay bx by_ : Int) : Int := (s * bx - s * ax) * (py - s * ay) - (px - s * ax) * (s * by_ - s * ay)
def crR (s px py a b : Int) : Prop := ¬ (py < s * (a / 10) ↔ py < s * (b / 10)) ∧ (if s * (a / 10) < s * (b / 10) then 0 < crV s px py (a % 10) (a / 10) (b % 10) (b / 10) else crV s px py (a % 10) (a / 10) (b % 10) (b / 10) < 0)
noncomputable def encRN (s n : Int) (P : Int → Int) (px py : Int) : Int := smI (fun i => bI (crR s px py (P i) (P (i + 1)))) n
def encRB (s n : Int) (P : Int → Int) (px py : Int) : Prop := encRN s n P px py % 2 = 1
theorem gd_neg (a b c d : Int) : gd (a - b) (c - d) = gd (b - a) (d - c) := by
  unfold gd
  rw [show a - b = -(b - a) by omega, show c - d = -(d - c) by omega, Int.gcd_neg, Int.neg_gcd]
theorem crV_R {s px py a b : Int} (hs : s = 1 ∨ s = 2) (hx : 0 ≤ px ∧ px ≤ 18) (hy : 0 ≤ py ∧ py ≤ 18) (ha : isPg a) (hb : isPg b) : iR (crV s px py (a % 10) (a / 10) (b % 10) (b / 10)) := by
  have k1 : 0 ≤ s * (a % 10) ∧ s * (a % 10) ≤ 18 := by rcases hs with rfl | rfl <;> omega
  have k2 : 0 ≤ s * (a / 10) ∧ s * (a / 10) ≤ 18 := by rcases hs with rfl | rfl <;> omega
  have k3 : 0 ≤ s * (b % 10) ∧ s * (b % 10) ≤ 18 := by rcases hs with rfl | rfl <;> omega
  have k4 : 0 ≤ s * (b / 10) ∧ s * (b / 10) ≤ 18 := by rcases hs with rfl | rfl <;> omega
  have h1 := mulb (a := s * (b % 10) - s * (a % 10)) (b := py - s * (a / 10)) (A := 18) (B := 18) (by omega) (by omega) (by omega) (by omega)
  have h2 := mulb (a := px - s * (a % 10)) (b := s * (b / 10) - s * (a / 10)) (A := 18) (B := 18) (by omega) (by omega) (by omega) (by omega)
  unfold crV
  omega
theorem al_E {a b c : Int} (ha : isPg a) (hb : isPg b) (hc : isPg c) : iR ((b % 10 - a % 10) * (c % 10 - a % 10) + (b / 10 - a / 10) * (c / 10 - a / 10)) := al_R ha hb hc
theorem bT {P : Prop} (h : P) : 1 = bI P := (bI_t h).symm
theorem bF {P : Prop} (h : ¬ P) : 0 = bI P := (bI_f h).symm
set_option maxRecDepth 100000 in
set_option maxHeartbeats 4000000 in
theorem c_X13_bands {σ : jS} : Jp 1 miX13_bands [.ref 111] σ (vI (σ 113 4)) := by
  refine jm_ofF (Po := (jP (vI (σ 113 4)) σ)) (plainFor_of_name (by decide)) (Nat.le_of_ble_eq_true rfl) (lv := [(0, _)]) rfl ?_
  refine r_aload_n (dc dkX13_bands 0 rfl) rfl (np 1 rfl ?_)
  refine r_getR (dc dkX13_bands 1 rfl) flX13_13 fd_111_15 (np 4 rfl ?_)
  refine r_iconst (dc dkX13_bands 2 rfl) (np 5 rfl ?_)
  refine r_iald (dc dkX13_bands 3 rfl) ar_113 (by omega) (np 6 rfl ?_)
  exact r_iret (dc dkX13_bands 4 rfl) rfl ⟨rfl, rfl⟩
set_option maxRecDepth 100000 in
set_option maxHeartbeats 4000000 in
theorem c_X13_isBand {σ : jS} (hN : okN σ) {b : Int} (hb : iR b) : Jp 2 miX13_isBand [.ref 111, vI b] σ (vI (bI (0 ≤ b ∧ b < σ 113 4))) := by
  have m1 := hN.1.2.2.2.2.1
  refine jm_ofF (Po := (jP (vI (bI (0 ≤ b ∧ b < σ 113 4))) σ)) (plainFor_of_name (by decide)) (Nat.le_of_ble_eq_true rfl) (lv := [(0, _), (1, _)]) rfl ?_
  refine r_iload_n (dc dkX13_isBand 0 rfl) rfl (np 1 rfl ?_)
  refine r_if_lt (tgt := 16) (dc dkX13_isBand 1 rfl) rfl (by first | assumption | decide | omega) (fun h1 => ?_) (fun h1 => (np 4 rfl ?_))
  · skip
    refine r_iconst (dc dkX13_isBand 8 rfl) (np 17 rfl ?_)
    exact r_zret (dc dkX13_isBand 9 rfl) rfl (by first | exact Or.inl rfl | exact Or.inr rfl) ⟨congrArg (fun z => some (vI z)) (by first | exact (bI_t (by omega)).symm | exact (bI_f (by omega)).symm), rfl⟩
  refine r_iload_n (dc dkX13_isBand 2 rfl) rfl (np 5 rfl ?_)
  refine r_aload_n (dc dkX13_isBand 3 rfl) rfl (np 6 rfl ?_)
  refine r_pV0 (y' := miX13_bands) (dc dkX13_isBand 4 rfl) mlX13_276 ceX13_bands ob_111 (Nat.le_of_ble_eq_true rfl) (Nat.le_of_ble_eq_true rfl) (c_X13_bands ) (np 9 rfl ?_)
  refine r_icmp_ge (tgt := 16) (dc dkX13_isBand 5 rfl) rfl (by first | assumption | decide | omega) (by first | assumption | decide | omega) (fun h9 => ?_) (fun h9 => (np 12 rfl ?_))
  · skip
    refine r_iconst (dc dkX13_isBand 8 rfl) (np 17 rfl ?_)
    exact r_zret (dc dkX13_isBand 9 rfl) rfl (by first | exact Or.inl rfl | exact Or.inr rfl) ⟨congrArg (fun z => some (vI z)) (by first | exact (bI_t (by omega)).symm | exact (bI_f (by omega)).symm), rfl⟩
  refine r_iconst (dc dkX13_isBand 6 rfl) (np 13 rfl ?_)
  refine r_goto (tgt := 17) (dc dkX13_isBand 7 rfl) rfl ?_
  exact r_zret (dc dkX13_isBand 9 rfl) rfl (by first | exact Or.inl rfl | exact Or.inr rfl) ⟨congrArg (fun z => some (vI z)) (by first | exact (bI_t (by omega)).symm | exact (bI_f (by omega)).symm), rfl⟩
set_option maxRecDepth 100000 in
set_option maxHeartbeats 4000000 in
theorem c_X13_corners {σ : jS} {b : Int} (hb : cB 8 b) : Jp 2 miX13_corners [.ref 111, vI b] σ (vI (cn σ 113 b)) := by
  refine jm_ofF (Po := (jP (vI (cn σ 113 b)) σ)) (plainFor_of_name (by decide)) (Nat.le_of_ble_eq_true rfl) (lv := [(0, _), (1, _)]) rfl ?_
  refine r_aload_n (dc dkX13_corners 0 rfl) rfl (np 1 rfl ?_)
  refine r_getR (dc dkX13_corners 1 rfl) flX13_13 fd_111_15 (np 4 rfl ?_)
  refine r_iload_n (dc dkX13_corners 2 rfl) rfl (np 5 rfl ?_)
  refine r_pS2 (y' := miX13_cornersOf) (dc dkX13_corners 3 rfl) mlX13_203 seX13_cornersOf (Nat.le_of_ble_eq_true rfl) (Nat.le_of_ble_eq_true rfl) (c_X13_cornersOf ar_113 (by decide) (by omega)) (np 8 rfl ?_)
  exact r_iret (dc dkX13_corners 4 rfl) rfl ⟨rfl, rfl⟩
set_option maxRecDepth 100000 in
set_option maxHeartbeats 4000000 in
theorem c_X13_x {σ : jS} (hN : okN σ) {b : Int} (h0 : 0 ≤ b) (h1 : b < σ 113 4) {i : Int} (hi : 0 ≤ i ∧ i ≤ 1000) : Jp 3 miX13_x [.ref 111, vI b, vI i] σ (vI (rP σ 113 b i % 10)) := by
  have hv := hN.2 b h0 h1
  have n1 := hv.1
  have m1 := hN.1.2.2.2.2.1
  have em := em_b (i := i) n1
  refine jm_ofF (Po := (jP (vI (rP σ 113 b i % 10)) σ)) (plainFor_of_name (by decide)) (Nat.le_of_ble_eq_true rfl) (lv := [(0, _), (1, _), (2, _)]) rfl ?_
  refine r_aload_n (dc dkX13_x 0 rfl) rfl (np 1 rfl ?_)
  refine r_getR (dc dkX13_x 1 rfl) flX13_13 fd_111_15 (np 4 rfl ?_)
  refine r_iload_n (dc dkX13_x 2 rfl) rfl (np 5 rfl ?_)
  refine r_iload_n (dc dkX13_x 3 rfl) rfl (np 6 rfl ?_)
  refine r_aload_n (dc dkX13_x 4 rfl) rfl (np 7 rfl ?_)
  refine r_iload_n (dc dkX13_x 5 rfl) rfl (np 8 rfl ?_)
  refine r_pV1 (y' := miX13_corners) (dc dkX13_x 6 rfl) mlX13_279 ceX13_corners ob_111 (Nat.le_of_ble_eq_true rfl) (Nat.le_of_ble_eq_true rfl) (c_X13_corners (by omega)) (np 11 rfl ?_)
  refine r_iremn (dc dkX13_x 7 rfl) (by first | assumption | decide | omega) (by first | assumption | decide | omega) (np 12 rfl ?_)
  refine r_pS3 (y' := miX13_xOf) (dc dkX13_x 8 rfl) mlX13_207 seX13_xOf (Nat.le_of_ble_eq_true rfl) (Nat.le_of_ble_eq_true rfl) (c_X13_xOf ar_113 (by decide) (by omega) (by omega)) (np 15 rfl ?_)
  exact r_iret (dc dkX13_x 9 rfl) rfl ⟨congrArg (fun z => some (vI z)) ((rP_x hv i).symm), rfl⟩
set_option maxRecDepth 100000 in
set_option maxHeartbeats 4000000 in
theorem c_X13_y {σ : jS} (hN : okN σ) {b : Int} (h0 : 0 ≤ b) (h1 : b < σ 113 4) {i : Int} (hi : 0 ≤ i ∧ i ≤ 1000) : Jp 3 miX13_y [.ref 111, vI b, vI i] σ (vI (rP σ 113 b i / 10)) := by
  have hv := hN.2 b h0 h1
  have n1 := hv.1
  have m1 := hN.1.2.2.2.2.1
  have em := em_b (i := i) n1
  refine jm_ofF (Po := (jP (vI (rP σ 113 b i / 10)) σ)) (plainFor_of_name (by decide)) (Nat.le_of_ble_eq_true rfl) (lv := [(0, _), (1, _), (2, _)]) rfl ?_
  refine r_aload_n (dc dkX13_y 0 rfl) rfl (np 1 rfl ?_)
  refine r_getR (dc dkX13_y 1 rfl) flX13_13 fd_111_15 (np 4 rfl ?_)
  refine r_iload_n (dc dkX13_y 2 rfl) rfl (np 5 rfl ?_)
  refine r_iload_n (dc dkX13_y 3 rfl) rfl (np 6 rfl ?_)
  refine r_aload_n (dc dkX13_y 4 rfl) rfl (np 7 rfl ?_)
  refine r_iload_n (dc dkX13_y 5 rfl) rfl (np 8 rfl ?_)
  refine r_pV1 (y' := miX13_corners) (dc dkX13_y 6 rfl) mlX13_279 ceX13_corners ob_111 (Nat.le_of_ble_eq_true rfl) (Nat.le_of_ble_eq_true rfl) (c_X13_corners (by omega)) (np 11 rfl ?_)
  refine r_iremn (dc dkX13_y 7 rfl) (by first | assumption | decide | omega) (by first | assumption | decide | omega) (np 12 rfl ?_)
  refine r_pS3 (y' := miX13_yOf) (dc dkX13_y 8 rfl) mlX13_211 seX13_yOf (Nat.le_of_ble_eq_true rfl) (Nat.le_of_ble_eq_true rfl) (c_X13_yOf ar_113 (by decide) (by omega) (by omega)) (np 15 rfl ?_)
  exact r_iret (dc dkX13_y 9 rfl) rfl ⟨congrArg (fun z => some (vI z)) ((rP_y hv i).symm), rfl⟩
set_option maxRecDepth 100000 in
set_option maxHeartbeats 4000000 in
theorem c_X13_isAt {σ : jS} (hN : okN σ) {p : Int} (hp : iR p) : Jp 2 miX13_isAt [.ref 111, vI p] σ (vI (bI (0 ≤ p ∧ p % 10 < σ 113 0 ∧ p / 10 < σ 113 1))) := by
  refine jm_ofF (Po := (jP (vI (bI (0 ≤ p ∧ p % 10 < σ 113 0 ∧ p / 10 < σ 113 1))) σ)) (plainFor_of_name (by decide)) (Nat.le_of_ble_eq_true rfl) (lv := [(0, _), (1, _)]) rfl ?_
  refine r_iload_n (dc dkX13_isAt 0 rfl) rfl (np 1 rfl ?_)
  refine r_if_lt (tgt := 26) (dc dkX13_isAt 1 rfl) rfl (by first | assumption | decide | omega) (fun h1 => ?_) (fun h1 => (np 4 rfl ?_))
  · skip
    refine r_iconst (dc dkX13_isAt 14 rfl) (np 27 rfl ?_)
    exact r_zret (dc dkX13_isAt 15 rfl) rfl (by first | exact Or.inl rfl | exact Or.inr rfl) ⟨congrArg (fun z => some (vI z)) (by first | exact (bI_t (by omega)).symm | exact (bI_f (by omega)).symm), rfl⟩
  refine r_aload_n (dc dkX13_isAt 2 rfl) rfl (np 5 rfl ?_)
  refine r_getR (dc dkX13_isAt 3 rfl) flX13_13 fd_111_15 (np 8 rfl ?_)
  refine r_iload_n (dc dkX13_isAt 4 rfl) rfl (np 9 rfl ?_)
  refine r_bipush (dc dkX13_isAt 5 rfl) bp_10 (np 11 rfl ?_)
  refine r_iremn (dc dkX13_isAt 6 rfl) (by first | assumption | decide | omega) (by first | assumption | decide | omega) (np 12 rfl ?_)
  refine r_iload_n (dc dkX13_isAt 7 rfl) rfl (np 13 rfl ?_)
  refine r_bipush (dc dkX13_isAt 8 rfl) bp_10 (np 15 rfl ?_)
  refine r_idivn (dc dkX13_isAt 9 rfl) (by first | assumption | decide | omega) (by first | assumption | decide | omega) (np 16 rfl ?_)
  refine r_pS3 (y' := miX13_isPlace) (dc dkX13_isAt 10 rfl) mlX13_218 seX13_isPlace (Nat.le_of_ble_eq_true rfl) (Nat.le_of_ble_eq_true rfl) (c_X13_isPlace ar_113 (by decide) hN.1 (by omega) (by omega)) (np 19 rfl ?_)
  refine r_bz (tgt := 26) (dc dkX13_isAt 11 rfl) rfl (fun h19 => ?_) (fun h19 => (np 22 rfl ?_))
  · skip
    refine r_iconst (dc dkX13_isAt 14 rfl) (np 27 rfl ?_)
    exact r_zret (dc dkX13_isAt 15 rfl) rfl (by first | exact Or.inl rfl | exact Or.inr rfl) ⟨congrArg (fun z => some (vI z)) (by first | exact (bI_t (by omega)).symm | exact (bI_f (by omega)).symm), rfl⟩
  refine r_iconst (dc dkX13_isAt 12 rfl) (np 23 rfl ?_)
  refine r_goto (tgt := 27) (dc dkX13_isAt 13 rfl) rfl ?_
  exact r_zret (dc dkX13_isAt 15 rfl) rfl (by first | exact Or.inl rfl | exact Or.inr rfl) ⟨congrArg (fun z => some (vI z)) (by first | exact (bI_t (by omega)).symm | exact (bI_f (by omega)).symm), rfl⟩
set_option maxRecDepth 100000 in
set_option maxHeartbeats 4000000 in
theorem c_X13_signedArea {σ : jS} (hN : okN σ) {b : Int} (h0 : 0 ≤ b) (h1 : b < σ 113 4) : Jp 4 miX13_signedArea [.ref 111, vI b] σ (vI (areaS (cn σ 113 b) (rP σ 113 b))) := by
  have hv := hN.2 b h0 h1
  have n1 := hv.1
  have m1 := hN.1.2.2.2.2.1
  refine jm_ofF (Po := (jP (vI (areaS (cn σ 113 b) (rP σ 113 b))) σ)) (plainFor_of_name (by decide)) (Nat.le_of_ble_eq_true rfl) (lv := [(0, _), (1, _)]) rfl ?_
  refine r_iconst (dc dkX13_signedArea 0 rfl) (np 1 rfl ?_)
  refine r_istore_n (lv' := [(2, _), (0, _), (1, _)]) (dc dkX13_signedArea 1 rfl) (Nat.le_of_ble_eq_true rfl) rfl (np 2 rfl ?_)
  refine r_iconst (dc dkX13_signedArea 2 rfl) (np 3 rfl ?_)
  refine r_istore_n (lv' := [(3, _), (2, _), (0, _), (1, _)]) (dc dkX13_signedArea 3 rfl) (Nat.le_of_ble_eq_true rfl) rfl (np 4 rfl ?_)
  refine r_pick [2, 3, 1, 0] (lv' := [(0, _), (1, _), (2, _), (3, _)]) rfl ?_
  refine jlp2 (P := fun (s : Int) (i : Int) => jR _ _ _ 4 [(0, .ref 111), (1, vI b), (2, vI s), (3, vI i)] [] σ) (I := fun (s : Int) (i : Int) => 0 ≤ i ∧ i ≤ (cn σ 113 b) ∧ s = smI (fun i => sh (rP σ 113 b i) (rP σ 113 b (i + 1))) i) (fun (s : Int) (i : Int) => ((cn σ 113 b) - i).toNat) ?_ _ _ ⟨by omega, by omega, rfl⟩
  intro s i hI4 ih4
  refine r_iload_n (dc dkX13_signedArea 4 rfl) rfl (np 5 rfl ?_)
  refine r_aload_n (dc dkX13_signedArea 5 rfl) rfl (np 6 rfl ?_)
  refine r_iload_n (dc dkX13_signedArea 6 rfl) rfl (np 7 rfl ?_)
  refine r_pV1 (y' := miX13_corners) (dc dkX13_signedArea 7 rfl) mlX13_279 ceX13_corners ob_111 (Nat.le_of_ble_eq_true rfl) (Nat.le_of_ble_eq_true rfl) (c_X13_corners (by omega)) (np 10 rfl ?_)
  refine r_icmp_ge (tgt := 53) (dc dkX13_signedArea 8 rfl) rfl (by first | assumption | decide | omega) (by first | assumption | decide | omega) (fun h10 => ?_) (fun h10 => (np 13 rfl ?_))
  · skip
    refine r_iload_n (dc dkX13_signedArea 37 rfl) rfl (np 54 rfl ?_)
    exact r_iret (dc dkX13_signedArea 38 rfl) rfl ⟨congrArg (fun z => some (vI z)) (by rw [hI4.2.2, show i = cn σ 113 b by omega]; rfl), rfl⟩
  refine r_iload_n (dc dkX13_signedArea 9 rfl) rfl (np 14 rfl ?_)
  refine r_aload_n (dc dkX13_signedArea 10 rfl) rfl (np 15 rfl ?_)
  refine r_iload_n (dc dkX13_signedArea 11 rfl) rfl (np 16 rfl ?_)
  refine r_iload_n (dc dkX13_signedArea 12 rfl) rfl (np 17 rfl ?_)
  refine r_pV2 (y' := miX13_x) (dc dkX13_signedArea 13 rfl) mlX13_285 ceX13_x ob_111 (Nat.le_of_ble_eq_true rfl) (Nat.le_of_ble_eq_true rfl) (c_X13_x (by assumption) (by omega) (by omega) (by omega)) (np 20 rfl ?_)
  refine r_aload_n (dc dkX13_signedArea 14 rfl) rfl (np 21 rfl ?_)
  refine r_iload_n (dc dkX13_signedArea 15 rfl) rfl (np 22 rfl ?_)
  refine r_iload_n (dc dkX13_signedArea 16 rfl) rfl (np 23 rfl ?_)
  refine r_iconst (dc dkX13_signedArea 17 rfl) (np 24 rfl ?_)
  refine r_iadd (dc dkX13_signedArea 18 rfl) (np 25 rfl ?_)
  refine r_pV2 (y' := miX13_y) (dc dkX13_signedArea 19 rfl) mlX13_289 ceX13_y ob_111 (Nat.le_of_ble_eq_true rfl) (Nat.le_of_ble_eq_true rfl) (c_X13_y (by assumption) (by omega) (by omega) (by omega)) (np 28 rfl ?_)
  refine r_imul (dc dkX13_signedArea 20 rfl) (np 29 rfl ?_)
  refine r_aload_n (dc dkX13_signedArea 21 rfl) rfl (np 30 rfl ?_)
  refine r_iload_n (dc dkX13_signedArea 22 rfl) rfl (np 31 rfl ?_)
  refine r_iload_n (dc dkX13_signedArea 23 rfl) rfl (np 32 rfl ?_)
  refine r_iconst (dc dkX13_signedArea 24 rfl) (np 33 rfl ?_)
  refine r_iadd (dc dkX13_signedArea 25 rfl) (np 34 rfl ?_)
  refine r_pV2 (y' := miX13_x) (dc dkX13_signedArea 26 rfl) mlX13_285 ceX13_x ob_111 (Nat.le_of_ble_eq_true rfl) (Nat.le_of_ble_eq_true rfl) (c_X13_x (by assumption) (by omega) (by omega) (by omega)) (np 37 rfl ?_)
  refine r_aload_n (dc dkX13_signedArea 27 rfl) rfl (np 38 rfl ?_)
  refine r_iload_n (dc dkX13_signedArea 28 rfl) rfl (np 39 rfl ?_)
  refine r_iload_n (dc dkX13_signedArea 29 rfl) rfl (np 40 rfl ?_)
  refine r_pV2 (y' := miX13_y) (dc dkX13_signedArea 30 rfl) mlX13_289 ceX13_y ob_111 (Nat.le_of_ble_eq_true rfl) (Nat.le_of_ble_eq_true rfl) (c_X13_y (by assumption) (by omega) (by omega) (by omega)) (np 43 rfl ?_)
  refine r_imul (dc dkX13_signedArea 31 rfl) (np 44 rfl ?_)
  refine r_isub (dc dkX13_signedArea 32 rfl) (np 45 rfl ?_)
  refine r_iadd (dc dkX13_signedArea 33 rfl) (np 46 rfl ?_)
  refine r_istore_n (lv' := [(2, _), (0, _), (1, _), (3, _)]) (dc dkX13_signedArea 34 rfl) (Nat.le_of_ble_eq_true rfl) rfl (np 47 rfl ?_)
  refine r_iinc (lv' := [(3, _), (2, _), (0, _), (1, _)]) (dc dkX13_signedArea 35 rfl) (Nat.le_of_ble_eq_true rfl) rfl rfl (np 50 rfl ?_)
  refine r_goto (tgt := 4) (dc dkX13_signedArea 36 rfl) rfl ?_
  refine r_pick [2, 3, 1, 0] rfl ?_
  exact ih4 _ _ ⟨by omega, by omega, by rw [smI_s _ (by omega), ← hI4.2.2]; rfl⟩ (by omega)
set_option maxRecDepth 100000 in
set_option maxHeartbeats 4000000 in
theorem c_X13_area {σ : jS} (hN : okN σ) {b : Int} (h0 : 0 ≤ b) (h1 : b < σ 113 4) : Jp 5 miX13_area [.ref 111, vI b] σ (vI ((areaS (cn σ 113 b) (rP σ 113 b)).natAbs)) := by
  have hv := hN.2 b h0 h1
  have n1 := hv.1
  have m1 := hN.1.2.2.2.2.1
  have hP : ∀ i, 0 ≤ i → 0 < cn σ 113 b → isPg (rP σ 113 b i) := fun i _ _ => rP_p hv i
  have hA := areaS_b (n := cn σ 113 b) ⟨by omega, by omega⟩ hP
  refine jm_ofF (Po := (jP (vI ((areaS (cn σ 113 b) (rP σ 113 b)).natAbs)) σ)) (plainFor_of_name (by decide)) (Nat.le_of_ble_eq_true rfl) (lv := [(0, _), (1, _)]) rfl ?_
  refine r_aload_n (dc dkX13_area 0 rfl) rfl (np 1 rfl ?_)
  refine r_iload_n (dc dkX13_area 1 rfl) rfl (np 2 rfl ?_)
  refine r_pV1 (y' := miX13_signedArea) (dc dkX13_area 2 rfl) mlX13_292 ceX13_signedArea ob_111 (Nat.le_of_ble_eq_true rfl) (Nat.le_of_ble_eq_true rfl) (c_X13_signedArea (by assumption) (by omega) (by omega)) (np 5 rfl ?_)
  refine r_pS1 (y' := miX13_size) (dc dkX13_area 3 rfl) mlX13_105 seX13_size (Nat.le_of_ble_eq_true rfl) (Nat.le_of_ble_eq_true rfl) (c_X13_size (by first | assumption | omega)) (np 8 rfl ?_)
  exact r_iret (dc dkX13_area 4 rfl) rfl ⟨rfl, rfl⟩
set_option maxRecDepth 100000 in
set_option maxHeartbeats 4000000 in
theorem c_X13_onMany {σ : jS} (hN : okN σ) {b : Int} (h0 : 0 ≤ b) (h1 : b < σ 113 4) : Jp 4 miX13_onMany [.ref 111, vI b] σ (vI (onN (cn σ 113 b) (rP σ 113 b))) := by
  have hv := hN.2 b h0 h1
  have n1 := hv.1
  have m1 := hN.1.2.2.2.2.1
  refine jm_ofF (Po := (jP (vI (onN (cn σ 113 b) (rP σ 113 b))) σ)) (plainFor_of_name (by decide)) (Nat.le_of_ble_eq_true rfl) (lv := [(0, _), (1, _)]) rfl ?_
  refine r_iconst (dc dkX13_onMany 0 rfl) (np 1 rfl ?_)
  refine r_istore_n (lv' := [(2, _), (0, _), (1, _)]) (dc dkX13_onMany 1 rfl) (Nat.le_of_ble_eq_true rfl) rfl (np 2 rfl ?_)
  refine r_iconst (dc dkX13_onMany 2 rfl) (np 3 rfl ?_)
  refine r_istore_n (lv' := [(3, _), (2, _), (0, _), (1, _)]) (dc dkX13_onMany 3 rfl) (Nat.le_of_ble_eq_true rfl) rfl (np 4 rfl ?_)
  refine r_pick [2, 3, 1, 0] (lv' := [(0, _), (1, _), (2, _), (3, _)]) rfl ?_
  refine jlp2 (P := fun (s : Int) (i : Int) => jR _ _ _ 4 [(0, .ref 111), (1, vI b), (2, vI s), (3, vI i)] [] σ) (I := fun (s : Int) (i : Int) => 0 ≤ i ∧ i ≤ (cn σ 113 b) ∧ s = smI (fun i => pts (rP σ 113 b i) (rP σ 113 b (i + 1))) i) (fun (s : Int) (i : Int) => ((cn σ 113 b) - i).toNat) ?_ _ _ ⟨by omega, by omega, rfl⟩
  intro s i hI4 ih4
  refine r_iload_n (dc dkX13_onMany 4 rfl) rfl (np 5 rfl ?_)
  refine r_aload_n (dc dkX13_onMany 5 rfl) rfl (np 6 rfl ?_)
  refine r_iload_n (dc dkX13_onMany 6 rfl) rfl (np 7 rfl ?_)
  refine r_pV1 (y' := miX13_corners) (dc dkX13_onMany 7 rfl) mlX13_279 ceX13_corners ob_111 (Nat.le_of_ble_eq_true rfl) (Nat.le_of_ble_eq_true rfl) (c_X13_corners (by omega)) (np 10 rfl ?_)
  refine r_icmp_ge (tgt := 55) (dc dkX13_onMany 8 rfl) rfl (by first | assumption | decide | omega) (by first | assumption | decide | omega) (fun h10 => ?_) (fun h10 => (np 13 rfl ?_))
  · skip
    refine r_iload_n (dc dkX13_onMany 37 rfl) rfl (np 56 rfl ?_)
    exact r_iret (dc dkX13_onMany 38 rfl) rfl ⟨congrArg (fun z => some (vI z)) (by rw [hI4.2.2, show i = cn σ 113 b by omega]; rfl), rfl⟩
  have p1 := rP_p hv i
  have p2 := rP_p hv (i + 1)
  refine r_iload_n (dc dkX13_onMany 9 rfl) rfl (np 14 rfl ?_)
  refine r_aload_n (dc dkX13_onMany 10 rfl) rfl (np 15 rfl ?_)
  refine r_iload_n (dc dkX13_onMany 11 rfl) rfl (np 16 rfl ?_)
  refine r_iload_n (dc dkX13_onMany 12 rfl) rfl (np 17 rfl ?_)
  refine r_iconst (dc dkX13_onMany 13 rfl) (np 18 rfl ?_)
  refine r_iadd (dc dkX13_onMany 14 rfl) (np 19 rfl ?_)
  refine r_pV2 (y' := miX13_x) (dc dkX13_onMany 15 rfl) mlX13_285 ceX13_x ob_111 (Nat.le_of_ble_eq_true rfl) (Nat.le_of_ble_eq_true rfl) (c_X13_x (by assumption) (by omega) (by omega) (by omega)) (np 22 rfl ?_)
  refine r_aload_n (dc dkX13_onMany 16 rfl) rfl (np 23 rfl ?_)
  refine r_iload_n (dc dkX13_onMany 17 rfl) rfl (np 24 rfl ?_)
  refine r_iload_n (dc dkX13_onMany 18 rfl) rfl (np 25 rfl ?_)
  refine r_pV2 (y' := miX13_x) (dc dkX13_onMany 19 rfl) mlX13_285 ceX13_x ob_111 (Nat.le_of_ble_eq_true rfl) (Nat.le_of_ble_eq_true rfl) (c_X13_x (by assumption) (by omega) (by omega) (by omega)) (np 28 rfl ?_)
  refine r_isub (dc dkX13_onMany 20 rfl) (np 29 rfl ?_)
  refine r_aload_n (dc dkX13_onMany 21 rfl) rfl (np 30 rfl ?_)
  refine r_iload_n (dc dkX13_onMany 22 rfl) rfl (np 31 rfl ?_)
  refine r_iload_n (dc dkX13_onMany 23 rfl) rfl (np 32 rfl ?_)
  refine r_iconst (dc dkX13_onMany 24 rfl) (np 33 rfl ?_)
  refine r_iadd (dc dkX13_onMany 25 rfl) (np 34 rfl ?_)
  refine r_pV2 (y' := miX13_y) (dc dkX13_onMany 26 rfl) mlX13_289 ceX13_y ob_111 (Nat.le_of_ble_eq_true rfl) (Nat.le_of_ble_eq_true rfl) (c_X13_y (by assumption) (by omega) (by omega) (by omega)) (np 37 rfl ?_)
  refine r_aload_n (dc dkX13_onMany 27 rfl) rfl (np 38 rfl ?_)
  refine r_iload_n (dc dkX13_onMany 28 rfl) rfl (np 39 rfl ?_)
  refine r_iload_n (dc dkX13_onMany 29 rfl) rfl (np 40 rfl ?_)
  refine r_pV2 (y' := miX13_y) (dc dkX13_onMany 30 rfl) mlX13_289 ceX13_y ob_111 (Nat.le_of_ble_eq_true rfl) (Nat.le_of_ble_eq_true rfl) (c_X13_y (by assumption) (by omega) (by omega) (by omega)) (np 43 rfl ?_)
  refine r_isub (dc dkX13_onMany 31 rfl) (np 44 rfl ?_)
  refine r_pS2 (y' := miX13_common) (dc dkX13_onMany 32 rfl) mlX13_295 seX13_common (Nat.le_of_ble_eq_true rfl) (Nat.le_of_ble_eq_true rfl) (c_X13_common (by omega) (by omega)) (np 47 rfl ?_)
  refine r_iadd (dc dkX13_onMany 33 rfl) (np 48 rfl ?_)
  refine r_istore_n (lv' := [(2, _), (0, _), (1, _), (3, _)]) (dc dkX13_onMany 34 rfl) (Nat.le_of_ble_eq_true rfl) rfl (np 49 rfl ?_)
  refine r_iinc (lv' := [(3, _), (2, _), (0, _), (1, _)]) (dc dkX13_onMany 35 rfl) (Nat.le_of_ble_eq_true rfl) rfl rfl (np 52 rfl ?_)
  refine r_goto (tgt := 4) (dc dkX13_onMany 36 rfl) rfl ?_
  refine r_pick [2, 3, 1, 0] rfl ?_
  exact ih4 _ _ ⟨by omega, by omega, by rw [smI_s _ (by omega), ← hI4.2.2, pts, gd_neg]⟩ (by omega)
set_option maxRecDepth 100000 in
set_option maxHeartbeats 4000000 in
theorem c_X13_within {σ : jS} (hN : okN σ) {b : Int} (h0 : 0 ≤ b) (h1 : b < σ 113 4) : Jp 6 miX13_within [.ref 111, vI b] σ (vI (((areaS (cn σ 113 b) (rP σ 113 b)).natAbs - onN (cn σ 113 b) (rP σ 113 b) + 2).tdiv 2)) := by
  have hv := hN.2 b h0 h1
  have n1 := hv.1
  have m1 := hN.1.2.2.2.2.1
  have hP : ∀ i, 0 ≤ i → 0 < cn σ 113 b → isPg (rP σ 113 b i) := fun i _ _ => rP_p hv i
  have hA := areaS_b (n := cn σ 113 b) ⟨by omega, by omega⟩ hP
  have hO := onN_b (n := cn σ 113 b) ⟨by omega, by omega⟩ hP
  refine jm_ofF (Po := (jP (vI (((areaS (cn σ 113 b) (rP σ 113 b)).natAbs - onN (cn σ 113 b) (rP σ 113 b) + 2).tdiv 2)) σ)) (plainFor_of_name (by decide)) (Nat.le_of_ble_eq_true rfl) (lv := [(0, _), (1, _)]) rfl ?_
  refine r_aload_n (dc dkX13_within 0 rfl) rfl (np 1 rfl ?_)
  refine r_iload_n (dc dkX13_within 1 rfl) rfl (np 2 rfl ?_)
  refine r_pV1 (y' := miX13_area) (dc dkX13_within 2 rfl) mlX13_298 ceX13_area ob_111 (Nat.le_of_ble_eq_true rfl) (Nat.le_of_ble_eq_true rfl) (c_X13_area (by assumption) (by omega) (by omega)) (np 5 rfl ?_)
  refine r_aload_n (dc dkX13_within 3 rfl) rfl (np 6 rfl ?_)
  refine r_iload_n (dc dkX13_within 4 rfl) rfl (np 7 rfl ?_)
  refine r_pV1 (y' := miX13_onMany) (dc dkX13_within 5 rfl) mlX13_301 ceX13_onMany ob_111 (Nat.le_of_ble_eq_true rfl) (Nat.le_of_ble_eq_true rfl) (c_X13_onMany (by assumption) (by omega) (by omega)) (np 10 rfl ?_)
  refine r_isub (dc dkX13_within 6 rfl) (np 11 rfl ?_)
  refine r_iconst (dc dkX13_within 7 rfl) (np 12 rfl ?_)
  refine r_iadd (dc dkX13_within 8 rfl) (np 13 rfl ?_)
  refine r_iconst (dc dkX13_within 9 rfl) (np 14 rfl ?_)
  refine r_idiv (dc dkX13_within 10 rfl) (by first | assumption | decide | omega) (by first | assumption | decide | omega) (np 15 rfl ?_)
  exact r_iret (dc dkX13_within 11 rfl) rfl ⟨rfl, rfl⟩
set_option maxRecDepth 100000 in
set_option maxHeartbeats 4000000 in
theorem c_X13_bent {σ : jS} (hN : okN σ) {b : Int} (h0 : 0 ≤ b) (h1 : b < σ 113 4) : Jp 5 miX13_bent [.ref 111, vI b] σ (vI (bentR (cn σ 113 b) (rP σ 113 b))) := by
  have hv := hN.2 b h0 h1
  have n1 := hv.1
  have m1 := hN.1.2.2.2.2.1
  have hP : ∀ i, 0 ≤ i → 0 < cn σ 113 b → isPg (rP σ 113 b i) := fun i _ _ => rP_p hv i
  have hA := areaS_b (n := cn σ 113 b) ⟨by omega, by omega⟩ hP
  refine jm_ofF (Po := (jP (vI (bentR (cn σ 113 b) (rP σ 113 b))) σ)) (plainFor_of_name (by decide)) (Nat.le_of_ble_eq_true rfl) (lv := [(0, _), (1, _)]) rfl ?_
  refine r_iconst (dc dkX13_bent 0 rfl) (np 1 rfl ?_)
  refine r_istore_n (lv' := [(2, _), (0, _), (1, _)]) (dc dkX13_bent 1 rfl) (Nat.le_of_ble_eq_true rfl) rfl (np 2 rfl ?_)
  refine r_aload_n (dc dkX13_bent 2 rfl) rfl (np 3 rfl ?_)
  refine r_iload_n (dc dkX13_bent 3 rfl) rfl (np 4 rfl ?_)
  refine r_pV1 (y' := miX13_signedArea) (dc dkX13_bent 4 rfl) mlX13_292 ceX13_signedArea ob_111 (Nat.le_of_ble_eq_true rfl) (Nat.le_of_ble_eq_true rfl) (c_X13_signedArea (by assumption) (by omega) (by omega)) (np 7 rfl ?_)
  refine r_pS1 (y' := miX13_sign) (dc dkX13_bent 5 rfl) mlX13_189 seX13_sign (Nat.le_of_ble_eq_true rfl) (Nat.le_of_ble_eq_true rfl) (c_X13_sign (by first | assumption | omega)) (np 10 rfl ?_)
  refine r_istore_n (lv' := [(3, _), (2, _), (0, _), (1, _)]) (dc dkX13_bent 6 rfl) (Nat.le_of_ble_eq_true rfl) rfl (np 11 rfl ?_)
  refine r_iconst (dc dkX13_bent 7 rfl) (np 12 rfl ?_)
  refine r_istore (lv' := [(4, _), (3, _), (2, _), (0, _), (1, _)]) (dc dkX13_bent 8 rfl) (Nat.le_of_ble_eq_true rfl) rfl (np 14 rfl ?_)
  refine r_pick [3, 4, 2, 1, 0] (lv' := [(0, _), (1, _), (2, _), (3, _), (4, _)]) rfl ?_
  refine jlp2 (P := fun (s : Int) (i : Int) => jR _ _ _ 14 [(0, .ref 111), (1, vI b), (2, vI s), (3, vI (sgn (areaS (cn σ 113 b) (rP σ 113 b)))), (4, vI i)] [] σ) (I := fun (s : Int) (i : Int) => 0 ≤ i ∧ i ≤ (cn σ 113 b) ∧ s = smI (fun i => bI (¬ sgn (tn (rP σ 113 b (i + cn σ 113 b - 1)) (rP σ 113 b i) (rP σ 113 b (i + 1))) = sgn (areaS (cn σ 113 b) (rP σ 113 b)))) i) (fun (s : Int) (i : Int) => ((cn σ 113 b) - i).toNat) ?_ _ _ ⟨by omega, by omega, rfl⟩
  intro s i hI14 ih14
  refine r_iload (dc dkX13_bent 9 rfl) rfl (np 16 rfl ?_)
  refine r_aload_n (dc dkX13_bent 10 rfl) rfl (np 17 rfl ?_)
  refine r_iload_n (dc dkX13_bent 11 rfl) rfl (np 18 rfl ?_)
  refine r_pV1 (y' := miX13_corners) (dc dkX13_bent 12 rfl) mlX13_279 ceX13_corners ob_111 (Nat.le_of_ble_eq_true rfl) (Nat.le_of_ble_eq_true rfl) (c_X13_corners (by omega)) (np 21 rfl ?_)
  refine r_icmp_ge (tgt := 47) (dc dkX13_bent 13 rfl) rfl (by first | assumption | decide | omega) (by first | assumption | decide | omega) (fun h21 => ?_) (fun h21 => (np 24 rfl ?_))
  · skip
    refine r_iload_n (dc dkX13_bent 24 rfl) rfl (np 48 rfl ?_)
    exact r_iret (dc dkX13_bent 25 rfl) rfl ⟨congrArg (fun z => some (vI z)) (by rw [hI14.2.2, show i = cn σ 113 b by omega]; rfl), rfl⟩
  refine r_aload_n (dc dkX13_bent 14 rfl) rfl (np 25 rfl ?_)
  refine r_getR (dc dkX13_bent 15 rfl) flX13_13 fd_111_15 (np 28 rfl ?_)
  refine r_iload_n (dc dkX13_bent 16 rfl) rfl (np 29 rfl ?_)
  refine r_iload (dc dkX13_bent 17 rfl) rfl (np 31 rfl ?_)
  refine r_pS3 (y' := miX13_turnAt) (dc dkX13_bent 18 rfl) mlX13_229 seX13_turnAt (Nat.le_of_ble_eq_true rfl) (Nat.le_of_ble_eq_true rfl) (c_X13_turnAt ar_113 (by decide) (by omega) hv (by omega)) (np 34 rfl ?_)
  refine r_iload_n (dc dkX13_bent 19 rfl) rfl (np 35 rfl ?_)
  refine r_icmp_eq (tgt := 41) (dc dkX13_bent 20 rfl) rfl (by have := sgn_b (tn (rP σ 113 b (i + cn σ 113 b - 1)) (rP σ 113 b i) (rP σ 113 b (i + 1))); omega) (by have := sgn_b (areaS (cn σ 113 b) (rP σ 113 b)); omega) (fun h35 => ?_) (fun h35 => (np 38 rfl ?_))
  · skip
    refine r_iinc (lv' := [(4, _), (0, _), (1, _), (2, _), (3, _)]) (dc dkX13_bent 22 rfl) (Nat.le_of_ble_eq_true rfl) rfl rfl (np 44 rfl ?_)
    refine r_goto (tgt := 14) (dc dkX13_bent 23 rfl) rfl ?_
    refine r_pick [1, 2, 3, 4, 0] rfl ?_
    exact ih14 _ _ ⟨by omega, by omega, by first | (rw [smI_s _ (by omega), ← hI14.2.2, bI_t h35]; done) | (rw [smI_s _ (by omega), ← hI14.2.2, bI_f (fun q => q h35), Int.add_zero]; done)⟩ (by omega)
  refine r_iinc (lv' := [(2, _), (0, _), (1, _), (3, _), (4, _)]) (dc dkX13_bent 21 rfl) (Nat.le_of_ble_eq_true rfl) rfl rfl (np 41 rfl ?_)
  refine r_iinc (lv' := [(4, _), (2, _), (0, _), (1, _), (3, _)]) (dc dkX13_bent 22 rfl) (Nat.le_of_ble_eq_true rfl) rfl rfl (np 44 rfl ?_)
  refine r_goto (tgt := 14) (dc dkX13_bent 23 rfl) rfl ?_
  refine r_pick [2, 3, 1, 4, 0] rfl ?_
  exact ih14 _ _ ⟨by omega, by omega, by first | (rw [smI_s _ (by omega), ← hI14.2.2, bI_t h35]; done) | (rw [smI_s _ (by omega), ← hI14.2.2, bI_f (fun q => q h35), Int.add_zero]; done)⟩ (by omega)
set_option maxRecDepth 100000 in
set_option maxHeartbeats 4000000 in
theorem c_X13_right {σ : jS} (hN : okN σ) {b : Int} (h0 : 0 ≤ b) (h1 : b < σ 113 4) : Jp 4 miX13_right [.ref 111, vI b] σ (vI (rightR (cn σ 113 b) (rP σ 113 b))) := by
  have hv := hN.2 b h0 h1
  have n1 := hv.1
  have m1 := hN.1.2.2.2.2.1
  refine jm_ofF (Po := (jP (vI (rightR (cn σ 113 b) (rP σ 113 b))) σ)) (plainFor_of_name (by decide)) (Nat.le_of_ble_eq_true rfl) (lv := [(0, _), (1, _)]) rfl ?_
  refine r_iconst (dc dkX13_right 0 rfl) (np 1 rfl ?_)
  refine r_istore_n (lv' := [(2, _), (0, _), (1, _)]) (dc dkX13_right 1 rfl) (Nat.le_of_ble_eq_true rfl) rfl (np 2 rfl ?_)
  refine r_iconst (dc dkX13_right 2 rfl) (np 3 rfl ?_)
  refine r_istore_n (lv' := [(3, _), (2, _), (0, _), (1, _)]) (dc dkX13_right 3 rfl) (Nat.le_of_ble_eq_true rfl) rfl (np 4 rfl ?_)
  refine r_pick [2, 3, 1, 0] (lv' := [(0, _), (1, _), (2, _), (3, _)]) rfl ?_
  refine jlp2 (P := fun (s : Int) (i : Int) => jR _ _ _ 4 [(0, .ref 111), (1, vI b), (2, vI s), (3, vI i)] [] σ) (I := fun (s : Int) (i : Int) => 0 ≤ i ∧ i ≤ (cn σ 113 b) ∧ s = smI (fun i => bI (al (rP σ 113 b i) (rP σ 113 b (i + cn σ 113 b - 1)) (rP σ 113 b (i + 1)) = 0)) i) (fun (s : Int) (i : Int) => ((cn σ 113 b) - i).toNat) ?_ _ _ ⟨by omega, by omega, rfl⟩
  intro s i hI4 ih4
  refine r_iload_n (dc dkX13_right 4 rfl) rfl (np 5 rfl ?_)
  refine r_aload_n (dc dkX13_right 5 rfl) rfl (np 6 rfl ?_)
  refine r_iload_n (dc dkX13_right 6 rfl) rfl (np 7 rfl ?_)
  refine r_pV1 (y' := miX13_corners) (dc dkX13_right 7 rfl) mlX13_279 ceX13_corners ob_111 (Nat.le_of_ble_eq_true rfl) (Nat.le_of_ble_eq_true rfl) (c_X13_corners (by omega)) (np 10 rfl ?_)
  refine r_icmp_ge (tgt := 97) (dc dkX13_right 8 rfl) rfl (by first | assumption | decide | omega) (by first | assumption | decide | omega) (fun h10 => ?_) (fun h10 => (np 13 rfl ?_))
  · skip
    refine r_iload_n (dc dkX13_right 64 rfl) rfl (np 98 rfl ?_)
    exact r_iret (dc dkX13_right 65 rfl) rfl ⟨congrArg (fun z => some (vI z)) (by rw [hI4.2.2, show i = cn σ 113 b by omega]; rfl), rfl⟩
  refine r_iload_n (dc dkX13_right 9 rfl) rfl (np 14 rfl ?_)
  refine r_aload_n (dc dkX13_right 10 rfl) rfl (np 15 rfl ?_)
  refine r_iload_n (dc dkX13_right 11 rfl) rfl (np 16 rfl ?_)
  refine r_pV1 (y' := miX13_corners) (dc dkX13_right 12 rfl) mlX13_279 ceX13_corners ob_111 (Nat.le_of_ble_eq_true rfl) (Nat.le_of_ble_eq_true rfl) (c_X13_corners (by omega)) (np 19 rfl ?_)
  refine r_iadd (dc dkX13_right 13 rfl) (np 20 rfl ?_)
  refine r_iconst (dc dkX13_right 14 rfl) (np 21 rfl ?_)
  refine r_isub (dc dkX13_right 15 rfl) (np 22 rfl ?_)
  refine r_istore (lv' := [(4, _), (0, _), (1, _), (2, _), (3, _)]) (dc dkX13_right 16 rfl) (Nat.le_of_ble_eq_true rfl) rfl (np 24 rfl ?_)
  refine r_aload_n (dc dkX13_right 17 rfl) rfl (np 25 rfl ?_)
  refine r_iload_n (dc dkX13_right 18 rfl) rfl (np 26 rfl ?_)
  refine r_iload (dc dkX13_right 19 rfl) rfl (np 28 rfl ?_)
  refine r_pV2 (y' := miX13_x) (dc dkX13_right 20 rfl) mlX13_285 ceX13_x ob_111 (Nat.le_of_ble_eq_true rfl) (Nat.le_of_ble_eq_true rfl) (c_X13_x (by assumption) (by omega) (by omega) (by omega)) (np 31 rfl ?_)
  refine r_aload_n (dc dkX13_right 21 rfl) rfl (np 32 rfl ?_)
  refine r_iload_n (dc dkX13_right 22 rfl) rfl (np 33 rfl ?_)
  refine r_iload_n (dc dkX13_right 23 rfl) rfl (np 34 rfl ?_)
  refine r_pV2 (y' := miX13_x) (dc dkX13_right 24 rfl) mlX13_285 ceX13_x ob_111 (Nat.le_of_ble_eq_true rfl) (Nat.le_of_ble_eq_true rfl) (c_X13_x (by assumption) (by omega) (by omega) (by omega)) (np 37 rfl ?_)
  refine r_isub (dc dkX13_right 25 rfl) (np 38 rfl ?_)
  refine r_aload_n (dc dkX13_right 26 rfl) rfl (np 39 rfl ?_)
  refine r_iload_n (dc dkX13_right 27 rfl) rfl (np 40 rfl ?_)
  refine r_iload_n (dc dkX13_right 28 rfl) rfl (np 41 rfl ?_)
  refine r_iconst (dc dkX13_right 29 rfl) (np 42 rfl ?_)
  refine r_iadd (dc dkX13_right 30 rfl) (np 43 rfl ?_)
  refine r_pV2 (y' := miX13_x) (dc dkX13_right 31 rfl) mlX13_285 ceX13_x ob_111 (Nat.le_of_ble_eq_true rfl) (Nat.le_of_ble_eq_true rfl) (c_X13_x (by assumption) (by omega) (by omega) (by omega)) (np 46 rfl ?_)
  refine r_aload_n (dc dkX13_right 32 rfl) rfl (np 47 rfl ?_)
  refine r_iload_n (dc dkX13_right 33 rfl) rfl (np 48 rfl ?_)
  refine r_iload_n (dc dkX13_right 34 rfl) rfl (np 49 rfl ?_)
  refine r_pV2 (y' := miX13_x) (dc dkX13_right 35 rfl) mlX13_285 ceX13_x ob_111 (Nat.le_of_ble_eq_true rfl) (Nat.le_of_ble_eq_true rfl) (c_X13_x (by assumption) (by omega) (by omega) (by omega)) (np 52 rfl ?_)
  refine r_isub (dc dkX13_right 36 rfl) (np 53 rfl ?_)
  refine r_imul (dc dkX13_right 37 rfl) (np 54 rfl ?_)
  refine r_aload_n (dc dkX13_right 38 rfl) rfl (np 55 rfl ?_)
  refine r_iload_n (dc dkX13_right 39 rfl) rfl (np 56 rfl ?_)
  refine r_iload (dc dkX13_right 40 rfl) rfl (np 58 rfl ?_)
  refine r_pV2 (y' := miX13_y) (dc dkX13_right 41 rfl) mlX13_289 ceX13_y ob_111 (Nat.le_of_ble_eq_true rfl) (Nat.le_of_ble_eq_true rfl) (c_X13_y (by assumption) (by omega) (by omega) (by omega)) (np 61 rfl ?_)
  refine r_aload_n (dc dkX13_right 42 rfl) rfl (np 62 rfl ?_)
  refine r_iload_n (dc dkX13_right 43 rfl) rfl (np 63 rfl ?_)
  refine r_iload_n (dc dkX13_right 44 rfl) rfl (np 64 rfl ?_)
  refine r_pV2 (y' := miX13_y) (dc dkX13_right 45 rfl) mlX13_289 ceX13_y ob_111 (Nat.le_of_ble_eq_true rfl) (Nat.le_of_ble_eq_true rfl) (c_X13_y (by assumption) (by omega) (by omega) (by omega)) (np 67 rfl ?_)
  refine r_isub (dc dkX13_right 46 rfl) (np 68 rfl ?_)
  refine r_aload_n (dc dkX13_right 47 rfl) rfl (np 69 rfl ?_)
  refine r_iload_n (dc dkX13_right 48 rfl) rfl (np 70 rfl ?_)
  refine r_iload_n (dc dkX13_right 49 rfl) rfl (np 71 rfl ?_)
  refine r_iconst (dc dkX13_right 50 rfl) (np 72 rfl ?_)
  refine r_iadd (dc dkX13_right 51 rfl) (np 73 rfl ?_)
  refine r_pV2 (y' := miX13_y) (dc dkX13_right 52 rfl) mlX13_289 ceX13_y ob_111 (Nat.le_of_ble_eq_true rfl) (Nat.le_of_ble_eq_true rfl) (c_X13_y (by assumption) (by omega) (by omega) (by omega)) (np 76 rfl ?_)
  refine r_aload_n (dc dkX13_right 53 rfl) rfl (np 77 rfl ?_)
  refine r_iload_n (dc dkX13_right 54 rfl) rfl (np 78 rfl ?_)
  refine r_iload_n (dc dkX13_right 55 rfl) rfl (np 79 rfl ?_)
  refine r_pV2 (y' := miX13_y) (dc dkX13_right 56 rfl) mlX13_289 ceX13_y ob_111 (Nat.le_of_ble_eq_true rfl) (Nat.le_of_ble_eq_true rfl) (c_X13_y (by assumption) (by omega) (by omega) (by omega)) (np 82 rfl ?_)
  refine r_isub (dc dkX13_right 57 rfl) (np 83 rfl ?_)
  refine r_imul (dc dkX13_right 58 rfl) (np 84 rfl ?_)
  refine r_iadd (dc dkX13_right 59 rfl) (np 85 rfl ?_)
  refine r_if_ne (tgt := 91) (dc dkX13_right 60 rfl) rfl (al_E (rP_p hv i) (rP_p hv _) (rP_p hv _)) (fun h85 => ?_) (fun h85 => (np 88 rfl ?_))
  · skip
    refine r_iinc (lv' := [(3, _), (4, _), (0, _), (1, _), (2, _)]) (dc dkX13_right 62 rfl) (Nat.le_of_ble_eq_true rfl) rfl rfl (np 94 rfl ?_)
    refine r_goto (tgt := 4) (dc dkX13_right 63 rfl) rfl ?_
    refine r_pick [2, 3, 4, 0] rfl ?_
    exact ih4 _ _ ⟨by omega, by omega, by first | (rw [smI_s _ (by omega), ← hI4.2.2, bI_t (show al (rP σ 113 b i) (rP σ 113 b (i + cn σ 113 b - 1)) (rP σ 113 b (i + 1)) = 0 from h85)]; done) | (rw [smI_s _ (by omega), ← hI4.2.2, bI_f (show ¬ al (rP σ 113 b i) (rP σ 113 b (i + cn σ 113 b - 1)) (rP σ 113 b (i + 1)) = 0 from h85), Int.add_zero]; done)⟩ (by omega)
  refine r_iinc (lv' := [(2, _), (4, _), (0, _), (1, _), (3, _)]) (dc dkX13_right 61 rfl) (Nat.le_of_ble_eq_true rfl) rfl rfl (np 91 rfl ?_)
  refine r_iinc (lv' := [(3, _), (2, _), (4, _), (0, _), (1, _)]) (dc dkX13_right 62 rfl) (Nat.le_of_ble_eq_true rfl) rfl rfl (np 94 rfl ?_)
  refine r_goto (tgt := 4) (dc dkX13_right 63 rfl) rfl ?_
  refine r_pick [3, 4, 1, 0] rfl ?_
  exact ih4 _ _ ⟨by omega, by omega, by first | (rw [smI_s _ (by omega), ← hI4.2.2, bI_t (show al (rP σ 113 b i) (rP σ 113 b (i + cn σ 113 b - 1)) (rP σ 113 b (i + 1)) = 0 from h85)]; done) | (rw [smI_s _ (by omega), ← hI4.2.2, bI_f (show ¬ al (rP σ 113 b i) (rP σ 113 b (i + cn σ 113 b - 1)) (rP σ 113 b (i + 1)) = 0 from h85), Int.add_zero]; done)⟩ (by omega)
set_option maxRecDepth 100000 in
set_option maxHeartbeats 4000000 in
theorem c_X13_crossings {σ : jS} (hN : okN σ) {a b : Int} (h0 : 0 ≤ a) (h1 : a < σ 113 4) (g0 : 0 ≤ b) (g1 : b < σ 113 4) {w : Int} (hw0 : iR w) : Jp 6 miX13_crossings [.ref 111, vI a, vI b, vI w] σ (vI (meetN (cn σ 113 a) (rP σ 113 a) (cn σ 113 b) (rP σ 113 b) w)) := by
  have hv := hN.2 a h0 h1
  have hw := hN.2 b g0 g1
  have n1 := hv.1
  have n2 := hw.1
  have m1 := hN.1.2.2.2.2.1
  refine jm_ofF (Po := (jP (vI (meetN (cn σ 113 a) (rP σ 113 a) (cn σ 113 b) (rP σ 113 b) w)) σ)) (plainFor_of_name (by decide)) (Nat.le_of_ble_eq_true rfl) (lv := [(0, _), (1, _), (2, _), (3, _)]) rfl ?_
  refine r_iconst (dc dkX13_crossings 0 rfl) (np 1 rfl ?_)
  refine r_istore (lv' := [(4, _), (0, _), (1, _), (2, _), (3, _)]) (dc dkX13_crossings 1 rfl) (Nat.le_of_ble_eq_true rfl) rfl (np 3 rfl ?_)
  refine r_iconst (dc dkX13_crossings 2 rfl) (np 4 rfl ?_)
  refine r_istore (lv' := [(5, _), (4, _), (0, _), (1, _), (2, _), (3, _)]) (dc dkX13_crossings 3 rfl) (Nat.le_of_ble_eq_true rfl) rfl (np 6 rfl ?_)
  refine r_pick [2, 3, 4, 5, 1, 0] (lv' := [(0, _), (1, _), (2, _), (3, _), (4, _), (5, _)]) rfl ?_
  refine jlp2 (P := fun (s : Int) (i : Int) => jR _ _ _ 6 [(0, .ref 111), (1, vI a), (2, vI b), (3, vI w), (4, vI s), (5, vI i)] [] σ) (I := fun (s : Int) (i : Int) => 0 ≤ i ∧ i ≤ cn σ 113 a ∧ s = smI (fun i => smI (fun j => bI (mt (rP σ 113 a i) (rP σ 113 a (i + 1)) (rP σ 113 b j) (rP σ 113 b (j + 1)) = w)) (cn σ 113 b)) i) (fun (s : Int) (i : Int) => (cn σ 113 a - i).toNat) ?_ _ _ ⟨by omega, by omega, rfl⟩
  intro s i hI6 ih6
  refine r_iload (dc dkX13_crossings 4 rfl) rfl (np 8 rfl ?_)
  refine r_aload_n (dc dkX13_crossings 5 rfl) rfl (np 9 rfl ?_)
  refine r_iload_n (dc dkX13_crossings 6 rfl) rfl (np 10 rfl ?_)
  refine r_pV1 (y' := miX13_corners) (dc dkX13_crossings 7 rfl) mlX13_279 ceX13_corners ob_111 (Nat.le_of_ble_eq_true rfl) (Nat.le_of_ble_eq_true rfl) (c_X13_corners (by omega)) (np 13 rfl ?_)
  refine r_icmp_ge (tgt := 61) (dc dkX13_crossings 8 rfl) rfl (by first | assumption | decide | omega) (by first | assumption | decide | omega) (fun h13 => ?_) (fun h13 => (np 16 rfl ?_))
  · skip
    refine r_iload (dc dkX13_crossings 30 rfl) rfl (np 63 rfl ?_)
    exact r_iret (dc dkX13_crossings 31 rfl) rfl ⟨congrArg (fun z => some (vI z)) (by rw [hI6.2.2, show i = cn σ 113 a by omega]; rfl), rfl⟩
  refine r_iconst (dc dkX13_crossings 9 rfl) (np 17 rfl ?_)
  refine r_istore (lv' := [(6, _), (0, _), (1, _), (2, _), (3, _), (4, _), (5, _)]) (dc dkX13_crossings 10 rfl) (Nat.le_of_ble_eq_true rfl) rfl (np 19 rfl ?_)
  refine r_pick [1, 2, 3, 4, 5, 6, 0] (lv' := [(0, _), (1, _), (2, _), (3, _), (4, _), (5, _), (6, _)]) rfl ?_
  refine jlp2 (P := fun (t : Int) (j : Int) => jR _ _ _ 19 [(0, .ref 111), (1, vI a), (2, vI b), (3, vI w), (4, vI t), (5, vI i), (6, vI j)] [] σ) (I := fun (t : Int) (j : Int) => 0 ≤ j ∧ j ≤ cn σ 113 b ∧ t = s + smI (fun j => bI (mt (rP σ 113 a i) (rP σ 113 a (i + 1)) (rP σ 113 b j) (rP σ 113 b (j + 1)) = w)) j) (fun (t : Int) (j : Int) => (cn σ 113 b - j).toNat) ?_ _ _ ⟨by omega, by omega, by rw [smI_0, Int.add_zero]⟩
  intro t j hI19 ih19
  refine r_iload (dc dkX13_crossings 11 rfl) rfl (np 21 rfl ?_)
  refine r_aload_n (dc dkX13_crossings 12 rfl) rfl (np 22 rfl ?_)
  refine r_iload_n (dc dkX13_crossings 13 rfl) rfl (np 23 rfl ?_)
  refine r_pV1 (y' := miX13_corners) (dc dkX13_crossings 14 rfl) mlX13_279 ceX13_corners ob_111 (Nat.le_of_ble_eq_true rfl) (Nat.le_of_ble_eq_true rfl) (c_X13_corners (by omega)) (np 26 rfl ?_)
  refine r_icmp_ge (tgt := 55) (dc dkX13_crossings 15 rfl) rfl (by first | assumption | decide | omega) (by first | assumption | decide | omega) (fun h26 => ?_) (fun h26 => (np 29 rfl ?_))
  · skip
    refine r_iinc (lv' := [(5, _), (0, _), (1, _), (2, _), (3, _), (4, _), (6, _)]) (dc dkX13_crossings 28 rfl) (Nat.le_of_ble_eq_true rfl) rfl rfl (np 58 rfl ?_)
    refine r_goto (tgt := 6) (dc dkX13_crossings 29 rfl) rfl ?_
    refine r_pick [1, 2, 3, 4, 5, 0] rfl ?_
    exact ih6 _ _ ⟨by omega, by omega, by rw [smI_s _ (by omega), ← hI6.2.2, hI19.2.2, show j = cn σ 113 b by omega]⟩ (by omega)
  refine r_aload_n (dc dkX13_crossings 16 rfl) rfl (np 30 rfl ?_)
  refine r_getR (dc dkX13_crossings 17 rfl) flX13_13 fd_111_15 (np 33 rfl ?_)
  refine r_iload_n (dc dkX13_crossings 18 rfl) rfl (np 34 rfl ?_)
  refine r_iload (dc dkX13_crossings 19 rfl) rfl (np 36 rfl ?_)
  refine r_iload_n (dc dkX13_crossings 20 rfl) rfl (np 37 rfl ?_)
  refine r_iload (dc dkX13_crossings 21 rfl) rfl (np 39 rfl ?_)
  refine r_pS5 (y' := miX13_meetSides) (dc dkX13_crossings 22 rfl) mlX13_222 seX13_meetSides (Nat.le_of_ble_eq_true rfl) (Nat.le_of_ble_eq_true rfl) (c_X13_meetSides ar_113 (by decide) (by omega) (by omega) hv hw (by omega) (by omega)) (np 42 rfl ?_)
  refine r_iload_n (dc dkX13_crossings 23 rfl) rfl (np 43 rfl ?_)
  refine r_icmp_ne (tgt := 49) (dc dkX13_crossings 24 rfl) rfl (by have := mt_b (rP σ 113 a i) (rP σ 113 a (i + 1)) (rP σ 113 b j) (rP σ 113 b (j + 1)); omega) (by first | assumption | decide | omega) (fun h43 => ?_) (fun h43 => (np 46 rfl ?_))
  · skip
    refine r_iinc (lv' := [(6, _), (0, _), (1, _), (2, _), (3, _), (4, _), (5, _)]) (dc dkX13_crossings 26 rfl) (Nat.le_of_ble_eq_true rfl) rfl rfl (np 52 rfl ?_)
    refine r_goto (tgt := 19) (dc dkX13_crossings 27 rfl) rfl ?_
    refine r_pick [1, 2, 3, 4, 5, 6, 0] rfl ?_
    exact ih19 _ _ ⟨by omega, by omega, by first | (rw [smI_s _ (by omega), ← Int.add_assoc, ← hI19.2.2, bI_t h43]; done) | rw [smI_s _ (by omega), ← Int.add_assoc, ← hI19.2.2, bI_f h43, Int.add_zero]⟩ (by omega)
  refine r_iinc (lv' := [(4, _), (0, _), (1, _), (2, _), (3, _), (5, _), (6, _)]) (dc dkX13_crossings 25 rfl) (Nat.le_of_ble_eq_true rfl) rfl rfl (np 49 rfl ?_)
  refine r_iinc (lv' := [(6, _), (4, _), (0, _), (1, _), (2, _), (3, _), (5, _)]) (dc dkX13_crossings 26 rfl) (Nat.le_of_ble_eq_true rfl) rfl rfl (np 52 rfl ?_)
  refine r_goto (tgt := 19) (dc dkX13_crossings 27 rfl) rfl ?_
  refine r_pick [2, 3, 4, 5, 1, 6, 0] rfl ?_
  exact ih19 _ _ ⟨by omega, by omega, by first | (rw [smI_s _ (by omega), ← Int.add_assoc, ← hI19.2.2, bI_t h43]; done) | rw [smI_s _ (by omega), ← Int.add_assoc, ← hI19.2.2, bI_f h43, Int.add_zero]⟩ (by omega)
set_option maxRecDepth 100000 in
set_option maxHeartbeats 4000000 in
theorem c_X13_isOn {σ : jS} (hN : okN σ) {b : Int} (h0 : 0 ≤ b) (h1 : b < σ 113 4) {px py : Int} (hx : cB 9 px) (hy : cB 9 py) : Jp 4 miX13_isOn [.ref 111, vI b, vI px, vI py] σ (vI (bI (isOnB (cn σ 113 b) (rP σ 113 b) (10 * py + px)))) := by
  have hv := hN.2 b h0 h1
  have n1 := hv.1
  have m1 := hN.1.2.2.2.2.1
  have e1 : (10 * py + px) % 10 = px := by omega
  have e2 : (10 * py + px) / 10 = py := by omega
  refine jm_ofF (Po := (jP (vI (bI (isOnB (cn σ 113 b) (rP σ 113 b) (10 * py + px)))) σ)) (plainFor_of_name (by decide)) (Nat.le_of_ble_eq_true rfl) (lv := [(0, _), (1, _), (2, _), (3, _)]) rfl ?_
  refine r_iconst (dc dkX13_isOn 0 rfl) (np 1 rfl ?_)
  refine r_istore (lv' := [(4, _), (0, _), (1, _), (2, _), (3, _)]) (dc dkX13_isOn 1 rfl) (Nat.le_of_ble_eq_true rfl) rfl (np 3 rfl ?_)
  refine r_pick [1, 2, 3, 4, 0] (lv' := [(0, _), (1, _), (2, _), (3, _), (4, _)]) rfl ?_
  refine jlp1 (P := fun (i : Int) => jR _ _ _ 3 [(0, .ref 111), (1, vI b), (2, vI px), (3, vI py), (4, vI i)] [] σ) (I := fun (i : Int) => 0 ≤ i ∧ i ≤ cn σ 113 b ∧ ∀ j, 0 ≤ j → j < i → ¬ onS (10 * py + px) (rP σ 113 b j) (rP σ 113 b (j + 1))) (fun (i : Int) => (cn σ 113 b - i).toNat) ?_ _ ⟨by omega, by omega, fun j _ _ => by omega⟩
  intro i hI3 ih3
  refine r_iload (dc dkX13_isOn 2 rfl) rfl (np 5 rfl ?_)
  refine r_aload_n (dc dkX13_isOn 3 rfl) rfl (np 6 rfl ?_)
  refine r_iload_n (dc dkX13_isOn 4 rfl) rfl (np 7 rfl ?_)
  refine r_pV1 (y' := miX13_corners) (dc dkX13_isOn 5 rfl) mlX13_279 ceX13_corners ob_111 (Nat.le_of_ble_eq_true rfl) (Nat.le_of_ble_eq_true rfl) (c_X13_corners (by omega)) (np 10 rfl ?_)
  refine r_icmp_ge (tgt := 61) (dc dkX13_isOn 6 rfl) rfl (by first | assumption | decide | omega) (by first | assumption | decide | omega) (fun h10 => ?_) (fun h10 => (np 13 rfl ?_))
  · skip
    refine r_iconst (dc dkX13_isOn 35 rfl) (np 62 rfl ?_)
    exact r_zret (dc dkX13_isOn 36 rfl) rfl (by first | exact Or.inl rfl | exact Or.inr rfl) ⟨congrArg (fun z => some (vI z)) ((bI_f (fun ⟨j, q0, q1, q2⟩ => hI3.2.2 j q0 (by omega) q2)).symm), rfl⟩
  have p1 := rP_p hv i
  have p2 := rP_p hv (i + 1)
  refine r_iload_n (dc dkX13_isOn 7 rfl) rfl (np 14 rfl ?_)
  refine r_iload_n (dc dkX13_isOn 8 rfl) rfl (np 15 rfl ?_)
  refine r_aload_n (dc dkX13_isOn 9 rfl) rfl (np 16 rfl ?_)
  refine r_iload_n (dc dkX13_isOn 10 rfl) rfl (np 17 rfl ?_)
  refine r_iload (dc dkX13_isOn 11 rfl) rfl (np 19 rfl ?_)
  refine r_pV2 (y' := miX13_x) (dc dkX13_isOn 12 rfl) mlX13_285 ceX13_x ob_111 (Nat.le_of_ble_eq_true rfl) (Nat.le_of_ble_eq_true rfl) (c_X13_x (by assumption) (by omega) (by omega) (by omega)) (np 22 rfl ?_)
  refine r_aload_n (dc dkX13_isOn 13 rfl) rfl (np 23 rfl ?_)
  refine r_iload_n (dc dkX13_isOn 14 rfl) rfl (np 24 rfl ?_)
  refine r_iload (dc dkX13_isOn 15 rfl) rfl (np 26 rfl ?_)
  refine r_pV2 (y' := miX13_y) (dc dkX13_isOn 16 rfl) mlX13_289 ceX13_y ob_111 (Nat.le_of_ble_eq_true rfl) (Nat.le_of_ble_eq_true rfl) (c_X13_y (by assumption) (by omega) (by omega) (by omega)) (np 29 rfl ?_)
  refine r_aload_n (dc dkX13_isOn 17 rfl) rfl (np 30 rfl ?_)
  refine r_iload_n (dc dkX13_isOn 18 rfl) rfl (np 31 rfl ?_)
  refine r_iload (dc dkX13_isOn 19 rfl) rfl (np 33 rfl ?_)
  refine r_iconst (dc dkX13_isOn 20 rfl) (np 34 rfl ?_)
  refine r_iadd (dc dkX13_isOn 21 rfl) (np 35 rfl ?_)
  refine r_pV2 (y' := miX13_x) (dc dkX13_isOn 22 rfl) mlX13_285 ceX13_x ob_111 (Nat.le_of_ble_eq_true rfl) (Nat.le_of_ble_eq_true rfl) (c_X13_x (by assumption) (by omega) (by omega) (by omega)) (np 38 rfl ?_)
  refine r_aload_n (dc dkX13_isOn 23 rfl) rfl (np 39 rfl ?_)
  refine r_iload_n (dc dkX13_isOn 24 rfl) rfl (np 40 rfl ?_)
  refine r_iload (dc dkX13_isOn 25 rfl) rfl (np 42 rfl ?_)
  refine r_iconst (dc dkX13_isOn 26 rfl) (np 43 rfl ?_)
  refine r_iadd (dc dkX13_isOn 27 rfl) (np 44 rfl ?_)
  refine r_pV2 (y' := miX13_y) (dc dkX13_isOn 28 rfl) mlX13_289 ceX13_y ob_111 (Nat.le_of_ble_eq_true rfl) (Nat.le_of_ble_eq_true rfl) (c_X13_y (by assumption) (by omega) (by omega) (by omega)) (np 47 rfl ?_)
  refine r_pS6 (y' := miX13_isOnSide) (dc dkX13_isOn 29 rfl) mlX13_199 seX13_isOnSide (Nat.le_of_ble_eq_true rfl) (Nat.le_of_ble_eq_true rfl) (c_X13_isOnSide (by omega)) (np 50 rfl ?_)
  refine r_bz (tgt := 55) (dc dkX13_isOn 30 rfl) rfl (fun h50 => ?_) (fun h50 => (np 53 rfl ?_))
  · skip
    refine r_iinc (lv' := [(4, _), (0, _), (1, _), (2, _), (3, _)]) (dc dkX13_isOn 33 rfl) (Nat.le_of_ble_eq_true rfl) rfl rfl (np 58 rfl ?_)
    refine r_goto (tgt := 3) (dc dkX13_isOn 34 rfl) rfl ?_
    refine r_pick [1, 2, 3, 4, 0] rfl ?_
    exact ih3 _ ⟨by omega, by omega, fun j q0 q1 => by rcases (show j < i ∨ j = i by omega) with q | q; exact hI3.2.2 j q0 q; subst q; rw [onS_onC, e1, e2]; exact h50⟩ (by omega)
  refine r_iconst (dc dkX13_isOn 31 rfl) (np 54 rfl ?_)
  exact r_zret (dc dkX13_isOn 32 rfl) rfl (by first | exact Or.inl rfl | exact Or.inr rfl) ⟨congrArg (fun z => some (vI z)) ((bI_t ⟨i, by omega, by omega, by rw [onS_onC, e1, e2]; exact h50⟩).symm), rfl⟩
set_option maxRecDepth 100000 in
set_option maxHeartbeats 4000000 in
theorem c_X13_encloses {σ : jS} (hN : okN σ) {b : Int} (h0 : 0 ≤ b) (h1 : b < σ 113 4) {px py s : Int} (hs : s = 1 ∨ s = 2) (hx : 0 ≤ px ∧ px ≤ 18) (hy : 0 ≤ py ∧ py ≤ 18) : Jp 4 miX13_encloses [.ref 111, vI b, vI px, vI py, vI s] σ (vI (bI (encRB s (cn σ 113 b) (rP σ 113 b) px py))) := by
  have hv := hN.2 b h0 h1
  have n1 := hv.1
  have m1 := hN.1.2.2.2.2.1
  refine jm_ofF (Po := (jP (vI (bI (encRB s (cn σ 113 b) (rP σ 113 b) px py))) σ)) (plainFor_of_name (by decide)) (Nat.le_of_ble_eq_true rfl) (lv := [(0, _), (1, _), (2, _), (3, _), (4, _)]) rfl ?_
  refine r_iconst (dc dkX13_encloses 0 rfl) (np 1 rfl ?_)
  refine r_istore (lv' := [(5, _), (0, _), (1, _), (2, _), (3, _), (4, _)]) (dc dkX13_encloses 1 rfl) (Nat.le_of_ble_eq_true rfl) rfl (np 3 rfl ?_)
  refine r_iconst (dc dkX13_encloses 2 rfl) (np 4 rfl ?_)
  refine r_istore (lv' := [(6, _), (5, _), (0, _), (1, _), (2, _), (3, _), (4, _)]) (dc dkX13_encloses 3 rfl) (Nat.le_of_ble_eq_true rfl) rfl (np 6 rfl ?_)
  refine r_pick [2, 3, 4, 5, 6, 1, 0] (lv' := [(0, _), (1, _), (2, _), (3, _), (4, _), (5, _), (6, _)]) rfl ?_
  refine jlp2 (P := fun (v : Int) (i : Int) => jR _ _ _ 6 [(0, .ref 111), (1, vI b), (2, vI px), (3, vI py), (4, vI s), (5, vI v), (6, vI i)] [] σ) (I := fun (v : Int) (i : Int) => 0 ≤ i ∧ i ≤ cn σ 113 b ∧ v = smI (fun i => bI (crR s px py (rP σ 113 b i) (rP σ 113 b (i + 1)))) i % 2) (fun (v : Int) (i : Int) => (cn σ 113 b - i).toNat) ?_ _ _ ⟨by omega, by omega, rfl⟩
  intro v i hI6 ih6
  have hvv : v = 0 ∨ v = 1 := by omega
  refine r_iload (dc dkX13_encloses 4 rfl) rfl (np 8 rfl ?_)
  refine r_aload_n (dc dkX13_encloses 5 rfl) rfl (np 9 rfl ?_)
  refine r_iload_n (dc dkX13_encloses 6 rfl) rfl (np 10 rfl ?_)
  refine r_pV1 (y' := miX13_corners) (dc dkX13_encloses 7 rfl) mlX13_279 ceX13_corners ob_111 (Nat.le_of_ble_eq_true rfl) (Nat.le_of_ble_eq_true rfl) (c_X13_corners (by omega)) (np 13 rfl ?_)
  refine r_icmp_ge (tgt := 157) (dc dkX13_encloses 8 rfl) rfl (by first | assumption | decide | omega) (by first | assumption | decide | omega) (fun h13 => ?_) (fun h13 => (np 16 rfl ?_))
  · skip
    refine r_iload (dc dkX13_encloses 87 rfl) rfl (np 159 rfl ?_)
    exact r_zret (dc dkX13_encloses 88 rfl) rfl hvv ⟨congrArg (fun z => some (vI z)) (by rw [hI6.2.2, show i = cn σ 113 b by omega]; exact modb _), rfl⟩
  have p1 := rP_p hv i
  have p2 := rP_p hv (i + 1)
  have hcr := crV_R hs hx hy p1 p2
  unfold crV at hcr
  have k2 : 0 ≤ s * (rP σ 113 b i / 10) ∧ s * (rP σ 113 b i / 10) ≤ 18 := by rcases hs with rfl | rfl <;> omega
  have k4 : 0 ≤ s * (rP σ 113 b (i + 1) / 10) ∧ s * (rP σ 113 b (i + 1) / 10) ≤ 18 := by rcases hs with rfl | rfl <;> omega
  refine r_iload (dc dkX13_encloses 9 rfl) rfl (np 18 rfl ?_)
  refine r_aload_n (dc dkX13_encloses 10 rfl) rfl (np 19 rfl ?_)
  refine r_iload_n (dc dkX13_encloses 11 rfl) rfl (np 20 rfl ?_)
  refine r_iload (dc dkX13_encloses 12 rfl) rfl (np 22 rfl ?_)
  refine r_pV2 (y' := miX13_x) (dc dkX13_encloses 13 rfl) mlX13_285 ceX13_x ob_111 (Nat.le_of_ble_eq_true rfl) (Nat.le_of_ble_eq_true rfl) (c_X13_x (by assumption) (by omega) (by omega) (by omega)) (np 25 rfl ?_)
  refine r_imul (dc dkX13_encloses 14 rfl) (np 26 rfl ?_)
  refine r_istore (lv' := [(7, _), (0, _), (1, _), (2, _), (3, _), (4, _), (5, _), (6, _)]) (dc dkX13_encloses 15 rfl) (Nat.le_of_ble_eq_true rfl) rfl (np 28 rfl ?_)
  refine r_iload (dc dkX13_encloses 16 rfl) rfl (np 30 rfl ?_)
  refine r_aload_n (dc dkX13_encloses 17 rfl) rfl (np 31 rfl ?_)
  refine r_iload_n (dc dkX13_encloses 18 rfl) rfl (np 32 rfl ?_)
  refine r_iload (dc dkX13_encloses 19 rfl) rfl (np 34 rfl ?_)
  refine r_pV2 (y' := miX13_y) (dc dkX13_encloses 20 rfl) mlX13_289 ceX13_y ob_111 (Nat.le_of_ble_eq_true rfl) (Nat.le_of_ble_eq_true rfl) (c_X13_y (by assumption) (by omega) (by omega) (by omega)) (np 37 rfl ?_)
  refine r_imul (dc dkX13_encloses 21 rfl) (np 38 rfl ?_)
  refine r_istore (lv' := [(8, _), (7, _), (0, _), (1, _), (2, _), (3, _), (4, _), (5, _), (6, _)]) (dc dkX13_encloses 22 rfl) (Nat.le_of_ble_eq_true rfl) rfl (np 40 rfl ?_)
  refine r_iload (dc dkX13_encloses 23 rfl) rfl (np 42 rfl ?_)
  refine r_aload_n (dc dkX13_encloses 24 rfl) rfl (np 43 rfl ?_)
  refine r_iload_n (dc dkX13_encloses 25 rfl) rfl (np 44 rfl ?_)
  refine r_iload (dc dkX13_encloses 26 rfl) rfl (np 46 rfl ?_)
  refine r_iconst (dc dkX13_encloses 27 rfl) (np 47 rfl ?_)
  refine r_iadd (dc dkX13_encloses 28 rfl) (np 48 rfl ?_)
  refine r_pV2 (y' := miX13_x) (dc dkX13_encloses 29 rfl) mlX13_285 ceX13_x ob_111 (Nat.le_of_ble_eq_true rfl) (Nat.le_of_ble_eq_true rfl) (c_X13_x (by assumption) (by omega) (by omega) (by omega)) (np 51 rfl ?_)
  refine r_imul (dc dkX13_encloses 30 rfl) (np 52 rfl ?_)
  refine r_istore (lv' := [(9, _), (8, _), (7, _), (0, _), (1, _), (2, _), (3, _), (4, _), (5, _), (6, _)]) (dc dkX13_encloses 31 rfl) (Nat.le_of_ble_eq_true rfl) rfl (np 54 rfl ?_)
  refine r_iload (dc dkX13_encloses 32 rfl) rfl (np 56 rfl ?_)
  refine r_aload_n (dc dkX13_encloses 33 rfl) rfl (np 57 rfl ?_)
  refine r_iload_n (dc dkX13_encloses 34 rfl) rfl (np 58 rfl ?_)
  refine r_iload (dc dkX13_encloses 35 rfl) rfl (np 60 rfl ?_)
  refine r_iconst (dc dkX13_encloses 36 rfl) (np 61 rfl ?_)
  refine r_iadd (dc dkX13_encloses 37 rfl) (np 62 rfl ?_)
  refine r_pV2 (y' := miX13_y) (dc dkX13_encloses 38 rfl) mlX13_289 ceX13_y ob_111 (Nat.le_of_ble_eq_true rfl) (Nat.le_of_ble_eq_true rfl) (c_X13_y (by assumption) (by omega) (by omega) (by omega)) (np 65 rfl ?_)
  refine r_imul (dc dkX13_encloses 39 rfl) (np 66 rfl ?_)
  refine r_istore (lv' := [(10, _), (9, _), (8, _), (7, _), (0, _), (1, _), (2, _), (3, _), (4, _), (5, _), (6, _)]) (dc dkX13_encloses 40 rfl) (Nat.le_of_ble_eq_true rfl) rfl (np 68 rfl ?_)
  refine r_iload (dc dkX13_encloses 41 rfl) rfl (np 70 rfl ?_)
  refine r_iload_n (dc dkX13_encloses 42 rfl) rfl (np 71 rfl ?_)
  refine r_icmp_le (tgt := 78) (dc dkX13_encloses 43 rfl) rfl (by first | assumption | decide | omega) (by first | assumption | decide | omega) (fun h71 => ?_) (fun h71 => (np 74 rfl ?_))
  · skip
    refine r_iconst (dc dkX13_encloses 46 rfl) (np 79 rfl ?_)
    refine r_iload (dc dkX13_encloses 47 rfl) rfl (np 81 rfl ?_)
    refine r_iload_n (dc dkX13_encloses 48 rfl) rfl (np 82 rfl ?_)
    refine r_icmp_le (tgt := 89) (dc dkX13_encloses 49 rfl) rfl (by first | assumption | decide | omega) (by first | assumption | decide | omega) (fun h82 => ?_) (fun h82 => (np 85 rfl ?_))
    · skip
      refine r_iconst (dc dkX13_encloses 52 rfl) (np 90 rfl ?_)
      refine r_icmp_ne (tgt := 96) (dc dkX13_encloses 53 rfl) rfl (by first | assumption | decide | omega) (by first | assumption | decide | omega) (fun h90 => ?_) (fun h90 => (np 93 rfl ?_))
      · exact absurd h90 (by decide)
      refine r_goto (tgt := 151) (dc dkX13_encloses 54 rfl) rfl ?_
      refine r_iinc (lv' := [(6, _), (10, _), (9, _), (8, _), (7, _), (0, _), (1, _), (2, _), (3, _), (4, _), (5, _)]) (dc dkX13_encloses 85 rfl) (Nat.le_of_ble_eq_true rfl) rfl rfl (np 154 rfl ?_)
      refine r_goto (tgt := 6) (dc dkX13_encloses 86 rfl) rfl ?_
      refine r_pick [5, 6, 7, 8, 9, 10, 0] rfl ?_
      exact ih6 _ _ ⟨by omega, by omega, by first | (rw [smI_s _ (by omega), bI_t ⟨by omega, by unfold crV; split <;> omega⟩]; omega) | (rw [smI_s _ (by omega), bI_f (fun q => by have q1 := q.1; have q2 := q.2; unfold crV at q2; split at q2 <;> omega)]; omega)⟩ (by omega)
    refine r_iconst (dc dkX13_encloses 50 rfl) (np 86 rfl ?_)
    refine r_goto (tgt := 90) (dc dkX13_encloses 51 rfl) rfl ?_
    refine r_icmp_ne (tgt := 96) (dc dkX13_encloses 53 rfl) rfl (by first | assumption | decide | omega) (by first | assumption | decide | omega) (fun h90 => ?_) (fun h90 => (np 93 rfl ?_))
    · skip
      refine r_iload (dc dkX13_encloses 55 rfl) rfl (np 98 rfl ?_)
      refine r_iload (dc dkX13_encloses 56 rfl) rfl (np 100 rfl ?_)
      refine r_isub (dc dkX13_encloses 57 rfl) (np 101 rfl ?_)
      refine r_iload_n (dc dkX13_encloses 58 rfl) rfl (np 102 rfl ?_)
      refine r_iload (dc dkX13_encloses 59 rfl) rfl (np 104 rfl ?_)
      refine r_isub (dc dkX13_encloses 60 rfl) (np 105 rfl ?_)
      refine r_imul (dc dkX13_encloses 61 rfl) (np 106 rfl ?_)
      refine r_iload_n (dc dkX13_encloses 62 rfl) rfl (np 107 rfl ?_)
      refine r_iload (dc dkX13_encloses 63 rfl) rfl (np 109 rfl ?_)
      refine r_isub (dc dkX13_encloses 64 rfl) (np 110 rfl ?_)
      refine r_iload (dc dkX13_encloses 65 rfl) rfl (np 112 rfl ?_)
      refine r_iload (dc dkX13_encloses 66 rfl) rfl (np 114 rfl ?_)
      refine r_isub (dc dkX13_encloses 67 rfl) (np 115 rfl ?_)
      refine r_imul (dc dkX13_encloses 68 rfl) (np 116 rfl ?_)
      refine r_isub (dc dkX13_encloses 69 rfl) (np 117 rfl ?_)
      refine r_istore (lv' := [(11, _), (10, _), (9, _), (8, _), (7, _), (0, _), (1, _), (2, _), (3, _), (4, _), (5, _), (6, _)]) (dc dkX13_encloses 70 rfl) (Nat.le_of_ble_eq_true rfl) rfl (np 119 rfl ?_)
      refine r_iload (dc dkX13_encloses 71 rfl) rfl (np 121 rfl ?_)
      refine r_iload (dc dkX13_encloses 72 rfl) rfl (np 123 rfl ?_)
      refine r_icmp_le (tgt := 134) (dc dkX13_encloses 73 rfl) rfl (by first | assumption | decide | omega) (by first | assumption | decide | omega) (fun h123 => ?_) (fun h123 => (np 126 rfl ?_))
      · skip
        refine r_iload (dc dkX13_encloses 77 rfl) rfl (np 136 rfl ?_)
        refine r_if_ge (tgt := 151) (dc dkX13_encloses 78 rfl) rfl (by first | assumption | decide | omega) (fun h136 => ?_) (fun h136 => (np 139 rfl ?_))
        · skip
          refine r_iinc (lv' := [(6, _), (11, _), (10, _), (9, _), (8, _), (7, _), (0, _), (1, _), (2, _), (3, _), (4, _), (5, _)]) (dc dkX13_encloses 85 rfl) (Nat.le_of_ble_eq_true rfl) rfl rfl (np 154 rfl ?_)
          refine r_goto (tgt := 6) (dc dkX13_encloses 86 rfl) rfl ?_
          refine r_pick [6, 7, 8, 9, 10, 11, 0] rfl ?_
          exact ih6 _ _ ⟨by omega, by omega, by first | (rw [smI_s _ (by omega), bI_t ⟨by omega, by unfold crV; split <;> omega⟩]; omega) | (rw [smI_s _ (by omega), bI_f (fun q => by have q1 := q.1; have q2 := q.2; unfold crV at q2; split at q2 <;> omega)]; omega)⟩ (by omega)
        refine r_iload (dc dkX13_encloses 79 rfl) rfl (np 141 rfl ?_)
        refine r_if_ne (tgt := 148) (dc dkX13_encloses 80 rfl) rfl (by first | assumption | decide | omega) (fun h141 => ?_) (fun h141 => (np 144 rfl ?_))
        · skip
          refine r_iconst (dc dkX13_encloses 83 rfl) (np 149 rfl ?_)
          refine r_istore (lv' := [(5, _), (11, _), (10, _), (9, _), (8, _), (7, _), (0, _), (1, _), (2, _), (3, _), (4, _), (6, _)]) (dc dkX13_encloses 84 rfl) (Nat.le_of_ble_eq_true rfl) rfl (np 151 rfl ?_)
          refine r_iinc (lv' := [(6, _), (5, _), (11, _), (10, _), (9, _), (8, _), (7, _), (0, _), (1, _), (2, _), (3, _), (4, _)]) (dc dkX13_encloses 85 rfl) (Nat.le_of_ble_eq_true rfl) rfl rfl (np 154 rfl ?_)
          refine r_goto (tgt := 6) (dc dkX13_encloses 86 rfl) rfl ?_
          refine r_pick [7, 8, 9, 10, 11, 1, 0] rfl ?_
          exact ih6 _ _ ⟨by omega, by omega, by first | (rw [smI_s _ (by omega), bI_t ⟨by omega, by unfold crV; split <;> omega⟩]; omega) | (rw [smI_s _ (by omega), bI_f (fun q => by have q1 := q.1; have q2 := q.2; unfold crV at q2; split at q2 <;> omega)]; omega)⟩ (by omega)
        refine r_iconst (dc dkX13_encloses 81 rfl) (np 145 rfl ?_)
        refine r_goto (tgt := 149) (dc dkX13_encloses 82 rfl) rfl ?_
        refine r_istore (lv' := [(5, _), (11, _), (10, _), (9, _), (8, _), (7, _), (0, _), (1, _), (2, _), (3, _), (4, _), (6, _)]) (dc dkX13_encloses 84 rfl) (Nat.le_of_ble_eq_true rfl) rfl (np 151 rfl ?_)
        refine r_iinc (lv' := [(6, _), (5, _), (11, _), (10, _), (9, _), (8, _), (7, _), (0, _), (1, _), (2, _), (3, _), (4, _)]) (dc dkX13_encloses 85 rfl) (Nat.le_of_ble_eq_true rfl) rfl rfl (np 154 rfl ?_)
        refine r_goto (tgt := 6) (dc dkX13_encloses 86 rfl) rfl ?_
        refine r_pick [7, 8, 9, 10, 11, 1, 0] rfl ?_
        exact ih6 _ _ ⟨by omega, by omega, by first | (rw [smI_s _ (by omega), bI_t ⟨by omega, by unfold crV; split <;> omega⟩]; omega) | (rw [smI_s _ (by omega), bI_f (fun q => by have q1 := q.1; have q2 := q.2; unfold crV at q2; split at q2 <;> omega)]; omega)⟩ (by omega)
      refine r_iload (dc dkX13_encloses 74 rfl) rfl (np 128 rfl ?_)
      refine r_if_le (tgt := 151) (dc dkX13_encloses 75 rfl) rfl (by first | assumption | decide | omega) (fun h128 => ?_) (fun h128 => (np 131 rfl ?_))
      · skip
        refine r_iinc (lv' := [(6, _), (11, _), (10, _), (9, _), (8, _), (7, _), (0, _), (1, _), (2, _), (3, _), (4, _), (5, _)]) (dc dkX13_encloses 85 rfl) (Nat.le_of_ble_eq_true rfl) rfl rfl (np 154 rfl ?_)
        refine r_goto (tgt := 6) (dc dkX13_encloses 86 rfl) rfl ?_
        refine r_pick [6, 7, 8, 9, 10, 11, 0] rfl ?_
        exact ih6 _ _ ⟨by omega, by omega, by first | (rw [smI_s _ (by omega), bI_t ⟨by omega, by unfold crV; split <;> omega⟩]; omega) | (rw [smI_s _ (by omega), bI_f (fun q => by have q1 := q.1; have q2 := q.2; unfold crV at q2; split at q2 <;> omega)]; omega)⟩ (by omega)
      refine r_goto (tgt := 139) (dc dkX13_encloses 76 rfl) rfl ?_
      refine r_iload (dc dkX13_encloses 79 rfl) rfl (np 141 rfl ?_)
      refine r_if_ne (tgt := 148) (dc dkX13_encloses 80 rfl) rfl (by first | assumption | decide | omega) (fun h141 => ?_) (fun h141 => (np 144 rfl ?_))
      · skip
        refine r_iconst (dc dkX13_encloses 83 rfl) (np 149 rfl ?_)
        refine r_istore (lv' := [(5, _), (11, _), (10, _), (9, _), (8, _), (7, _), (0, _), (1, _), (2, _), (3, _), (4, _), (6, _)]) (dc dkX13_encloses 84 rfl) (Nat.le_of_ble_eq_true rfl) rfl (np 151 rfl ?_)
        refine r_iinc (lv' := [(6, _), (5, _), (11, _), (10, _), (9, _), (8, _), (7, _), (0, _), (1, _), (2, _), (3, _), (4, _)]) (dc dkX13_encloses 85 rfl) (Nat.le_of_ble_eq_true rfl) rfl rfl (np 154 rfl ?_)
        refine r_goto (tgt := 6) (dc dkX13_encloses 86 rfl) rfl ?_
        refine r_pick [7, 8, 9, 10, 11, 1, 0] rfl ?_
        exact ih6 _ _ ⟨by omega, by omega, by first | (rw [smI_s _ (by omega), bI_t ⟨by omega, by unfold crV; split <;> omega⟩]; omega) | (rw [smI_s _ (by omega), bI_f (fun q => by have q1 := q.1; have q2 := q.2; unfold crV at q2; split at q2 <;> omega)]; omega)⟩ (by omega)
      refine r_iconst (dc dkX13_encloses 81 rfl) (np 145 rfl ?_)
      refine r_goto (tgt := 149) (dc dkX13_encloses 82 rfl) rfl ?_
      refine r_istore (lv' := [(5, _), (11, _), (10, _), (9, _), (8, _), (7, _), (0, _), (1, _), (2, _), (3, _), (4, _), (6, _)]) (dc dkX13_encloses 84 rfl) (Nat.le_of_ble_eq_true rfl) rfl (np 151 rfl ?_)
      refine r_iinc (lv' := [(6, _), (5, _), (11, _), (10, _), (9, _), (8, _), (7, _), (0, _), (1, _), (2, _), (3, _), (4, _)]) (dc dkX13_encloses 85 rfl) (Nat.le_of_ble_eq_true rfl) rfl rfl (np 154 rfl ?_)
      refine r_goto (tgt := 6) (dc dkX13_encloses 86 rfl) rfl ?_
      refine r_pick [7, 8, 9, 10, 11, 1, 0] rfl ?_
      exact ih6 _ _ ⟨by omega, by omega, by first | (rw [smI_s _ (by omega), bI_t ⟨by omega, by unfold crV; split <;> omega⟩]; omega) | (rw [smI_s _ (by omega), bI_f (fun q => by have q1 := q.1; have q2 := q.2; unfold crV at q2; split at q2 <;> omega)]; omega)⟩ (by omega)
    exact absurd h90 (by decide)
  refine r_iconst (dc dkX13_encloses 44 rfl) (np 75 rfl ?_)
  refine r_goto (tgt := 79) (dc dkX13_encloses 45 rfl) rfl ?_
  refine r_iload (dc dkX13_encloses 47 rfl) rfl (np 81 rfl ?_)
  refine r_iload_n (dc dkX13_encloses 48 rfl) rfl (np 82 rfl ?_)
  refine r_icmp_le (tgt := 89) (dc dkX13_encloses 49 rfl) rfl (by first | assumption | decide | omega) (by first | assumption | decide | omega) (fun h82 => ?_) (fun h82 => (np 85 rfl ?_))
  · skip
    refine r_iconst (dc dkX13_encloses 52 rfl) (np 90 rfl ?_)
    refine r_icmp_ne (tgt := 96) (dc dkX13_encloses 53 rfl) rfl (by first | assumption | decide | omega) (by first | assumption | decide | omega) (fun h90 => ?_) (fun h90 => (np 93 rfl ?_))
    · skip
      refine r_iload (dc dkX13_encloses 55 rfl) rfl (np 98 rfl ?_)
      refine r_iload (dc dkX13_encloses 56 rfl) rfl (np 100 rfl ?_)
      refine r_isub (dc dkX13_encloses 57 rfl) (np 101 rfl ?_)
      refine r_iload_n (dc dkX13_encloses 58 rfl) rfl (np 102 rfl ?_)
      refine r_iload (dc dkX13_encloses 59 rfl) rfl (np 104 rfl ?_)
      refine r_isub (dc dkX13_encloses 60 rfl) (np 105 rfl ?_)
      refine r_imul (dc dkX13_encloses 61 rfl) (np 106 rfl ?_)
      refine r_iload_n (dc dkX13_encloses 62 rfl) rfl (np 107 rfl ?_)
      refine r_iload (dc dkX13_encloses 63 rfl) rfl (np 109 rfl ?_)
      refine r_isub (dc dkX13_encloses 64 rfl) (np 110 rfl ?_)
      refine r_iload (dc dkX13_encloses 65 rfl) rfl (np 112 rfl ?_)
      refine r_iload (dc dkX13_encloses 66 rfl) rfl (np 114 rfl ?_)
      refine r_isub (dc dkX13_encloses 67 rfl) (np 115 rfl ?_)
      refine r_imul (dc dkX13_encloses 68 rfl) (np 116 rfl ?_)
      refine r_isub (dc dkX13_encloses 69 rfl) (np 117 rfl ?_)
      refine r_istore (lv' := [(11, _), (10, _), (9, _), (8, _), (7, _), (0, _), (1, _), (2, _), (3, _), (4, _), (5, _), (6, _)]) (dc dkX13_encloses 70 rfl) (Nat.le_of_ble_eq_true rfl) rfl (np 119 rfl ?_)
      refine r_iload (dc dkX13_encloses 71 rfl) rfl (np 121 rfl ?_)
      refine r_iload (dc dkX13_encloses 72 rfl) rfl (np 123 rfl ?_)
      refine r_icmp_le (tgt := 134) (dc dkX13_encloses 73 rfl) rfl (by first | assumption | decide | omega) (by first | assumption | decide | omega) (fun h123 => ?_) (fun h123 => (np 126 rfl ?_))
      · skip
        refine r_iload (dc dkX13_encloses 77 rfl) rfl (np 136 rfl ?_)
        refine r_if_ge (tgt := 151) (dc dkX13_encloses 78 rfl) rfl (by first | assumption | decide | omega) (fun h136 => ?_) (fun h136 => (np 139 rfl ?_))
        · skip
          refine r_iinc (lv' := [(6, _), (11, _), (10, _), (9, _), (8, _), (7, _), (0, _), (1, _), (2, _), (3, _), (4, _), (5, _)]) (dc dkX13_encloses 85 rfl) (Nat.le_of_ble_eq_true rfl) rfl rfl (np 154 rfl ?_)
          refine r_goto (tgt := 6) (dc dkX13_encloses 86 rfl) rfl ?_
          refine r_pick [6, 7, 8, 9, 10, 11, 0] rfl ?_
          exact ih6 _ _ ⟨by omega, by omega, by first | (rw [smI_s _ (by omega), bI_t ⟨by omega, by unfold crV; split <;> omega⟩]; omega) | (rw [smI_s _ (by omega), bI_f (fun q => by have q1 := q.1; have q2 := q.2; unfold crV at q2; split at q2 <;> omega)]; omega)⟩ (by omega)
        refine r_iload (dc dkX13_encloses 79 rfl) rfl (np 141 rfl ?_)
        refine r_if_ne (tgt := 148) (dc dkX13_encloses 80 rfl) rfl (by first | assumption | decide | omega) (fun h141 => ?_) (fun h141 => (np 144 rfl ?_))
        · skip
          refine r_iconst (dc dkX13_encloses 83 rfl) (np 149 rfl ?_)
          refine r_istore (lv' := [(5, _), (11, _), (10, _), (9, _), (8, _), (7, _), (0, _), (1, _), (2, _), (3, _), (4, _), (6, _)]) (dc dkX13_encloses 84 rfl) (Nat.le_of_ble_eq_true rfl) rfl (np 151 rfl ?_)
          refine r_iinc (lv' := [(6, _), (5, _), (11, _), (10, _), (9, _), (8, _), (7, _), (0, _), (1, _), (2, _), (3, _), (4, _)]) (dc dkX13_encloses 85 rfl) (Nat.le_of_ble_eq_true rfl) rfl rfl (np 154 rfl ?_)
          refine r_goto (tgt := 6) (dc dkX13_encloses 86 rfl) rfl ?_
          refine r_pick [7, 8, 9, 10, 11, 1, 0] rfl ?_
          exact ih6 _ _ ⟨by omega, by omega, by first | (rw [smI_s _ (by omega), bI_t ⟨by omega, by unfold crV; split <;> omega⟩]; omega) | (rw [smI_s _ (by omega), bI_f (fun q => by have q1 := q.1; have q2 := q.2; unfold crV at q2; split at q2 <;> omega)]; omega)⟩ (by omega)
        refine r_iconst (dc dkX13_encloses 81 rfl) (np 145 rfl ?_)
        refine r_goto (tgt := 149) (dc dkX13_encloses 82 rfl) rfl ?_
        refine r_istore (lv' := [(5, _), (11, _), (10, _), (9, _), (8, _), (7, _), (0, _), (1, _), (2, _), (3, _), (4, _), (6, _)]) (dc dkX13_encloses 84 rfl) (Nat.le_of_ble_eq_true rfl) rfl (np 151 rfl ?_)
        refine r_iinc (lv' := [(6, _), (5, _), (11, _), (10, _), (9, _), (8, _), (7, _), (0, _), (1, _), (2, _), (3, _), (4, _)]) (dc dkX13_encloses 85 rfl) (Nat.le_of_ble_eq_true rfl) rfl rfl (np 154 rfl ?_)
        refine r_goto (tgt := 6) (dc dkX13_encloses 86 rfl) rfl ?_
        refine r_pick [7, 8, 9, 10, 11, 1, 0] rfl ?_
        exact ih6 _ _ ⟨by omega, by omega, by first | (rw [smI_s _ (by omega), bI_t ⟨by omega, by unfold crV; split <;> omega⟩]; omega) | (rw [smI_s _ (by omega), bI_f (fun q => by have q1 := q.1; have q2 := q.2; unfold crV at q2; split at q2 <;> omega)]; omega)⟩ (by omega)
      refine r_iload (dc dkX13_encloses 74 rfl) rfl (np 128 rfl ?_)
      refine r_if_le (tgt := 151) (dc dkX13_encloses 75 rfl) rfl (by first | assumption | decide | omega) (fun h128 => ?_) (fun h128 => (np 131 rfl ?_))
      · skip
        refine r_iinc (lv' := [(6, _), (11, _), (10, _), (9, _), (8, _), (7, _), (0, _), (1, _), (2, _), (3, _), (4, _), (5, _)]) (dc dkX13_encloses 85 rfl) (Nat.le_of_ble_eq_true rfl) rfl rfl (np 154 rfl ?_)
        refine r_goto (tgt := 6) (dc dkX13_encloses 86 rfl) rfl ?_
        refine r_pick [6, 7, 8, 9, 10, 11, 0] rfl ?_
        exact ih6 _ _ ⟨by omega, by omega, by first | (rw [smI_s _ (by omega), bI_t ⟨by omega, by unfold crV; split <;> omega⟩]; omega) | (rw [smI_s _ (by omega), bI_f (fun q => by have q1 := q.1; have q2 := q.2; unfold crV at q2; split at q2 <;> omega)]; omega)⟩ (by omega)
      refine r_goto (tgt := 139) (dc dkX13_encloses 76 rfl) rfl ?_
      refine r_iload (dc dkX13_encloses 79 rfl) rfl (np 141 rfl ?_)
      refine r_if_ne (tgt := 148) (dc dkX13_encloses 80 rfl) rfl (by first | assumption | decide | omega) (fun h141 => ?_) (fun h141 => (np 144 rfl ?_))
      · skip
        refine r_iconst (dc dkX13_encloses 83 rfl) (np 149 rfl ?_)
        refine r_istore (lv' := [(5, _), (11, _), (10, _), (9, _), (8, _), (7, _), (0, _), (1, _), (2, _), (3, _), (4, _), (6, _)]) (dc dkX13_encloses 84 rfl) (Nat.le_of_ble_eq_true rfl) rfl (np 151 rfl ?_)
        refine r_iinc (lv' := [(6, _), (5, _), (11, _), (10, _), (9, _), (8, _), (7, _), (0, _), (1, _), (2, _), (3, _), (4, _)]) (dc dkX13_encloses 85 rfl) (Nat.le_of_ble_eq_true rfl) rfl rfl (np 154 rfl ?_)
        refine r_goto (tgt := 6) (dc dkX13_encloses 86 rfl) rfl ?_
        refine r_pick [7, 8, 9, 10, 11, 1, 0] rfl ?_
        exact ih6 _ _ ⟨by omega, by omega, by first | (rw [smI_s _ (by omega), bI_t ⟨by omega, by unfold crV; split <;> omega⟩]; omega) | (rw [smI_s _ (by omega), bI_f (fun q => by have q1 := q.1; have q2 := q.2; unfold crV at q2; split at q2 <;> omega)]; omega)⟩ (by omega)
      refine r_iconst (dc dkX13_encloses 81 rfl) (np 145 rfl ?_)
      refine r_goto (tgt := 149) (dc dkX13_encloses 82 rfl) rfl ?_
      refine r_istore (lv' := [(5, _), (11, _), (10, _), (9, _), (8, _), (7, _), (0, _), (1, _), (2, _), (3, _), (4, _), (6, _)]) (dc dkX13_encloses 84 rfl) (Nat.le_of_ble_eq_true rfl) rfl (np 151 rfl ?_)
      refine r_iinc (lv' := [(6, _), (5, _), (11, _), (10, _), (9, _), (8, _), (7, _), (0, _), (1, _), (2, _), (3, _), (4, _)]) (dc dkX13_encloses 85 rfl) (Nat.le_of_ble_eq_true rfl) rfl rfl (np 154 rfl ?_)
      refine r_goto (tgt := 6) (dc dkX13_encloses 86 rfl) rfl ?_
      refine r_pick [7, 8, 9, 10, 11, 1, 0] rfl ?_
      exact ih6 _ _ ⟨by omega, by omega, by first | (rw [smI_s _ (by omega), bI_t ⟨by omega, by unfold crV; split <;> omega⟩]; omega) | (rw [smI_s _ (by omega), bI_f (fun q => by have q1 := q.1; have q2 := q.2; unfold crV at q2; split at q2 <;> omega)]; omega)⟩ (by omega)
    exact absurd h90 (by decide)
  refine r_iconst (dc dkX13_encloses 50 rfl) (np 86 rfl ?_)
  refine r_goto (tgt := 90) (dc dkX13_encloses 51 rfl) rfl ?_
  refine r_icmp_ne (tgt := 96) (dc dkX13_encloses 53 rfl) rfl (by first | assumption | decide | omega) (by first | assumption | decide | omega) (fun h90 => ?_) (fun h90 => (np 93 rfl ?_))
  · exact absurd h90 (by decide)
  refine r_goto (tgt := 151) (dc dkX13_encloses 54 rfl) rfl ?_
  refine r_iinc (lv' := [(6, _), (10, _), (9, _), (8, _), (7, _), (0, _), (1, _), (2, _), (3, _), (4, _), (5, _)]) (dc dkX13_encloses 85 rfl) (Nat.le_of_ble_eq_true rfl) rfl rfl (np 154 rfl ?_)
  refine r_goto (tgt := 6) (dc dkX13_encloses 86 rfl) rfl ?_
  refine r_pick [5, 6, 7, 8, 9, 10, 0] rfl ?_
  exact ih6 _ _ ⟨by omega, by omega, by first | (rw [smI_s _ (by omega), bI_t ⟨by omega, by unfold crV; split <;> omega⟩]; omega) | (rw [smI_s _ (by omega), bI_f (fun q => by have q1 := q.1; have q2 := q.2; unfold crV at q2; split at q2 <;> omega)]; omega)⟩ (by omega)
set_option maxRecDepth 100000 in
set_option maxHeartbeats 4000000 in
theorem c_X13_isWithin {σ : jS} (hN : okN σ) {b : Int} (h0 : 0 ≤ b) (h1 : b < σ 113 4) {px py : Int} (hx : cB 9 px) (hy : cB 9 py) : Jp 5 miX13_isWithin [.ref 111, vI b, vI px, vI py] σ (vI (bI (¬ isOnB (cn σ 113 b) (rP σ 113 b) (10 * py + px) ∧ encRB 1 (cn σ 113 b) (rP σ 113 b) px py))) := by
  refine jm_ofF (Po := (jP (vI (bI (¬ isOnB (cn σ 113 b) (rP σ 113 b) (10 * py + px) ∧ encRB 1 (cn σ 113 b) (rP σ 113 b) px py))) σ)) (plainFor_of_name (by decide)) (Nat.le_of_ble_eq_true rfl) (lv := [(0, _), (1, _), (2, _), (3, _)]) rfl ?_
  refine r_aload_n (dc dkX13_isWithin 0 rfl) rfl (np 1 rfl ?_)
  refine r_iload_n (dc dkX13_isWithin 1 rfl) rfl (np 2 rfl ?_)
  refine r_iload_n (dc dkX13_isWithin 2 rfl) rfl (np 3 rfl ?_)
  refine r_iload_n (dc dkX13_isWithin 3 rfl) rfl (np 4 rfl ?_)
  refine r_pV3 (y' := miX13_isOn) (dc dkX13_isWithin 4 rfl) mlX13_323 ceX13_isOn ob_111 (Nat.le_of_ble_eq_true rfl) (Nat.le_of_ble_eq_true rfl) (c_X13_isOn (by assumption) (by omega) (by omega) (by omega) (by omega)) (np 7 rfl ?_)
  refine r_bn (tgt := 25) (dc dkX13_isWithin 5 rfl) rfl (fun h7 => ?_) (fun h7 => (np 10 rfl ?_))
  · skip
    refine r_iconst (dc dkX13_isWithin 15 rfl) (np 26 rfl ?_)
    exact r_zret (dc dkX13_isWithin 16 rfl) rfl (by first | exact Or.inl rfl | exact Or.inr rfl) ⟨congrArg (fun z => some (vI z)) (by first | exact (bI_t ⟨by assumption, by assumption⟩).symm | exact (bI_f (fun q => by have := q.1; have := q.2; contradiction)).symm), rfl⟩
  refine r_aload_n (dc dkX13_isWithin 6 rfl) rfl (np 11 rfl ?_)
  refine r_iload_n (dc dkX13_isWithin 7 rfl) rfl (np 12 rfl ?_)
  refine r_iload_n (dc dkX13_isWithin 8 rfl) rfl (np 13 rfl ?_)
  refine r_iload_n (dc dkX13_isWithin 9 rfl) rfl (np 14 rfl ?_)
  refine r_iconst (dc dkX13_isWithin 10 rfl) (np 15 rfl ?_)
  refine r_pV4 (y' := miX13_encloses) (dc dkX13_isWithin 11 rfl) mlX13_326 ceX13_encloses ob_111 (Nat.le_of_ble_eq_true rfl) (Nat.le_of_ble_eq_true rfl) (c_X13_encloses (by assumption) (by omega) (by omega) (by omega) (by omega) (by omega)) (np 18 rfl ?_)
  refine r_bz (tgt := 25) (dc dkX13_isWithin 12 rfl) rfl (fun h18 => ?_) (fun h18 => (np 21 rfl ?_))
  · skip
    refine r_iconst (dc dkX13_isWithin 15 rfl) (np 26 rfl ?_)
    exact r_zret (dc dkX13_isWithin 16 rfl) rfl (by first | exact Or.inl rfl | exact Or.inr rfl) ⟨congrArg (fun z => some (vI z)) (by first | exact (bI_t ⟨by assumption, by assumption⟩).symm | exact (bI_f (fun q => by have := q.1; have := q.2; contradiction)).symm), rfl⟩
  refine r_iconst (dc dkX13_isWithin 13 rfl) (np 22 rfl ?_)
  refine r_goto (tgt := 26) (dc dkX13_isWithin 14 rfl) rfl ?_
  exact r_zret (dc dkX13_isWithin 16 rfl) rfl (by first | exact Or.inl rfl | exact Or.inr rfl) ⟨congrArg (fun z => some (vI z)) (by first | exact (bI_t ⟨by assumption, by assumption⟩).symm | exact (bI_f (fun q => by have := q.1; have := q.2; contradiction)).symm), rfl⟩
set_option maxRecDepth 100000 in
set_option maxHeartbeats 4000000 in
theorem c_X13_liesIn {σ : jS} (hN : okN σ) {a b : Int} (h0 : 0 ≤ a) (h1 : a < σ 113 4) (g0 : 0 ≤ b) (g1 : b < σ 113 4) : Jp 7 miX13_liesIn [.ref 111, vI a, vI b] σ (vI (bI (¬ a = b ∧ (¬ ∃ i j, (0 ≤ i ∧ i < cn σ 113 a) ∧ (0 ≤ j ∧ j < cn σ 113 b) ∧ 0 < mt (rP σ 113 a i) (rP σ 113 a (i + 1)) (rP σ 113 b j) (rP σ 113 b (j + 1))) ∧ ¬ isOnB (cn σ 113 b) (rP σ 113 b) (10 * (rP σ 113 a 0 / 10) + rP σ 113 a 0 % 10) ∧ encRB 1 (cn σ 113 b) (rP σ 113 b) (rP σ 113 a 0 % 10) (rP σ 113 a 0 / 10)))) := by
  have hv := hN.2 a h0 h1
  have hw := hN.2 b g0 g1
  have n1 := hv.1
  have n2 := hw.1
  have m1 := hN.1.2.2.2.2.1
  have p0 := rP_p hv 0
  refine jm_ofF (Po := (jP (vI (bI (¬ a = b ∧ (¬ ∃ i j, (0 ≤ i ∧ i < cn σ 113 a) ∧ (0 ≤ j ∧ j < cn σ 113 b) ∧ 0 < mt (rP σ 113 a i) (rP σ 113 a (i + 1)) (rP σ 113 b j) (rP σ 113 b (j + 1))) ∧ ¬ isOnB (cn σ 113 b) (rP σ 113 b) (10 * (rP σ 113 a 0 / 10) + rP σ 113 a 0 % 10) ∧ encRB 1 (cn σ 113 b) (rP σ 113 b) (rP σ 113 a 0 % 10) (rP σ 113 a 0 / 10)))) σ)) (plainFor_of_name (by decide)) (Nat.le_of_ble_eq_true rfl) (lv := [(0, _), (1, _), (2, _)]) rfl ?_
  refine r_iload_n (dc dkX13_liesIn 0 rfl) rfl (np 1 rfl ?_)
  refine r_iload_n (dc dkX13_liesIn 1 rfl) rfl (np 2 rfl ?_)
  refine r_icmp_eq (tgt := 41) (dc dkX13_liesIn 2 rfl) rfl (by first | assumption | decide | omega) (by first | assumption | decide | omega) (fun h2 => ?_) (fun h2 => (np 5 rfl ?_))
  · skip
    refine r_iconst (dc dkX13_liesIn 23 rfl) (np 42 rfl ?_)
    exact r_zret (dc dkX13_liesIn 24 rfl) rfl (by first | exact Or.inl rfl | exact Or.inr rfl) ⟨congrArg (fun z => some (vI z)) (by first | exact bT ⟨h2, h14, h34⟩ | exact bF (fun q => q.1 h2) | exact bF (fun q => q.2.1 h14) | exact bF (fun q => h34 q.2.2)), rfl⟩
  refine r_aload_n (dc dkX13_liesIn 3 rfl) rfl (np 6 rfl ?_)
  refine r_getR (dc dkX13_liesIn 4 rfl) flX13_13 fd_111_15 (np 9 rfl ?_)
  refine r_iload_n (dc dkX13_liesIn 5 rfl) rfl (np 10 rfl ?_)
  refine r_iload_n (dc dkX13_liesIn 6 rfl) rfl (np 11 rfl ?_)
  refine r_pS3 (y' := miX13_meetsOther) (dc dkX13_liesIn 7 rfl) mlX13_232 seX13_meetsOther (Nat.le_of_ble_eq_true rfl) (Nat.le_of_ble_eq_true rfl) (c_X13_meetsOther ar_113 (by decide) (by omega) (by omega) hv hw) (np 14 rfl ?_)
  refine r_bn (tgt := 41) (dc dkX13_liesIn 8 rfl) rfl (fun h14 => ?_) (fun h14 => (np 17 rfl ?_))
  · skip
    refine r_iconst (dc dkX13_liesIn 23 rfl) (np 42 rfl ?_)
    exact r_zret (dc dkX13_liesIn 24 rfl) rfl (by first | exact Or.inl rfl | exact Or.inr rfl) ⟨congrArg (fun z => some (vI z)) (by first | exact bT ⟨h2, h14, h34⟩ | exact bF (fun q => q.1 h2) | exact bF (fun q => q.2.1 h14) | exact bF (fun q => h34 q.2.2)), rfl⟩
  refine r_aload_n (dc dkX13_liesIn 9 rfl) rfl (np 18 rfl ?_)
  refine r_iload_n (dc dkX13_liesIn 10 rfl) rfl (np 19 rfl ?_)
  refine r_aload_n (dc dkX13_liesIn 11 rfl) rfl (np 20 rfl ?_)
  refine r_iload_n (dc dkX13_liesIn 12 rfl) rfl (np 21 rfl ?_)
  refine r_iconst (dc dkX13_liesIn 13 rfl) (np 22 rfl ?_)
  refine r_pV2 (y' := miX13_x) (dc dkX13_liesIn 14 rfl) mlX13_285 ceX13_x ob_111 (Nat.le_of_ble_eq_true rfl) (Nat.le_of_ble_eq_true rfl) (c_X13_x (by assumption) (by omega) (by omega) (by omega)) (np 25 rfl ?_)
  refine r_aload_n (dc dkX13_liesIn 15 rfl) rfl (np 26 rfl ?_)
  refine r_iload_n (dc dkX13_liesIn 16 rfl) rfl (np 27 rfl ?_)
  refine r_iconst (dc dkX13_liesIn 17 rfl) (np 28 rfl ?_)
  refine r_pV2 (y' := miX13_y) (dc dkX13_liesIn 18 rfl) mlX13_289 ceX13_y ob_111 (Nat.le_of_ble_eq_true rfl) (Nat.le_of_ble_eq_true rfl) (c_X13_y (by assumption) (by omega) (by omega) (by omega)) (np 31 rfl ?_)
  refine r_pV3 (y' := miX13_isWithin) (dc dkX13_liesIn 19 rfl) mlX13_330 ceX13_isWithin ob_111 (Nat.le_of_ble_eq_true rfl) (Nat.le_of_ble_eq_true rfl) (c_X13_isWithin (by assumption) (by omega) (by omega) (by omega) (by omega)) (np 34 rfl ?_)
  refine r_bz (tgt := 41) (dc dkX13_liesIn 20 rfl) rfl (fun h34 => ?_) (fun h34 => (np 37 rfl ?_))
  · skip
    refine r_iconst (dc dkX13_liesIn 23 rfl) (np 42 rfl ?_)
    exact r_zret (dc dkX13_liesIn 24 rfl) rfl (by first | exact Or.inl rfl | exact Or.inr rfl) ⟨congrArg (fun z => some (vI z)) (by first | exact bT ⟨h2, h14, h34⟩ | exact bF (fun q => q.1 h2) | exact bF (fun q => q.2.1 h14) | exact bF (fun q => h34 q.2.2)), rfl⟩
  refine r_iconst (dc dkX13_liesIn 21 rfl) (np 38 rfl ?_)
  refine r_goto (tgt := 42) (dc dkX13_liesIn 22 rfl) rfl ?_
  exact r_zret (dc dkX13_liesIn 24 rfl) rfl (by first | exact Or.inl rfl | exact Or.inr rfl) ⟨congrArg (fun z => some (vI z)) (by first | exact bT ⟨h2, h14, h34⟩ | exact bF (fun q => q.1 h2) | exact bF (fun q => q.2.1 h14) | exact bF (fun q => h34 q.2.2)), rfl⟩
set_option maxRecDepth 100000 in
set_option maxHeartbeats 4000000 in
theorem c_X13_isFree {σ : jS} (hN : okN σ) {px py : Int} (hx : cB 9 px) (hy : cB 9 py) : Jp 5 miX13_isFree [.ref 111, vI px, vI py] σ (vI (bI (∀ b, 0 ≤ b → b < σ 113 4 → ¬ (isOnB (cn σ 113 b) (rP σ 113 b) (10 * py + px) ∨ encRB 1 (cn σ 113 b) (rP σ 113 b) px py)))) := by
  have m1 := hN.1.2.2.2.2.1
  refine jm_ofF (Po := (jP (vI (bI (∀ b, 0 ≤ b → b < σ 113 4 → ¬ (isOnB (cn σ 113 b) (rP σ 113 b) (10 * py + px) ∨ encRB 1 (cn σ 113 b) (rP σ 113 b) px py)))) σ)) (plainFor_of_name (by decide)) (Nat.le_of_ble_eq_true rfl) (lv := [(0, _), (1, _), (2, _)]) rfl ?_
  refine r_iconst (dc dkX13_isFree 0 rfl) (np 1 rfl ?_)
  refine r_istore_n (lv' := [(3, _), (0, _), (1, _), (2, _)]) (dc dkX13_isFree 1 rfl) (Nat.le_of_ble_eq_true rfl) rfl (np 2 rfl ?_)
  refine r_pick [1, 2, 3, 0] (lv' := [(0, _), (1, _), (2, _), (3, _)]) rfl ?_
  refine jlp1 (P := fun (i : Int) => jR _ _ _ 2 [(0, .ref 111), (1, vI px), (2, vI py), (3, vI i)] [] σ) (I := fun (i : Int) => 0 ≤ i ∧ i ≤ σ 113 4 ∧ ∀ b, 0 ≤ b → b < i → ¬ (isOnB (cn σ 113 b) (rP σ 113 b) (10 * py + px) ∨ encRB 1 (cn σ 113 b) (rP σ 113 b) px py)) (fun (i : Int) => (σ 113 4 - i).toNat) ?_ _ ⟨by omega, by omega, fun j _ _ => by omega⟩
  intro i hI2 ih2
  refine r_iload_n (dc dkX13_isFree 2 rfl) rfl (np 3 rfl ?_)
  refine r_aload_n (dc dkX13_isFree 3 rfl) rfl (np 4 rfl ?_)
  refine r_pV0 (y' := miX13_bands) (dc dkX13_isFree 4 rfl) mlX13_276 ceX13_bands ob_111 (Nat.le_of_ble_eq_true rfl) (Nat.le_of_ble_eq_true rfl) (c_X13_bands ) (np 7 rfl ?_)
  refine r_icmp_ge (tgt := 39) (dc dkX13_isFree 5 rfl) rfl (by first | assumption | decide | omega) (by first | assumption | decide | omega) (fun h7 => ?_) (fun h7 => (np 10 rfl ?_))
  · skip
    refine r_iconst (dc dkX13_isFree 23 rfl) (np 40 rfl ?_)
    exact r_zret (dc dkX13_isFree 24 rfl) rfl (by first | exact Or.inl rfl | exact Or.inr rfl) ⟨congrArg (fun z => some (vI z)) ((bI_t (fun j q0 q1 => hI2.2.2 j q0 (by omega))).symm), rfl⟩
  refine r_aload_n (dc dkX13_isFree 6 rfl) rfl (np 11 rfl ?_)
  refine r_iload_n (dc dkX13_isFree 7 rfl) rfl (np 12 rfl ?_)
  refine r_iload_n (dc dkX13_isFree 8 rfl) rfl (np 13 rfl ?_)
  refine r_iload_n (dc dkX13_isFree 9 rfl) rfl (np 14 rfl ?_)
  refine r_pV3 (y' := miX13_isOn) (dc dkX13_isFree 10 rfl) mlX13_323 ceX13_isOn ob_111 (Nat.le_of_ble_eq_true rfl) (Nat.le_of_ble_eq_true rfl) (c_X13_isOn (by assumption) (by omega) (by omega) (by omega) (by omega)) (np 17 rfl ?_)
  refine r_bn (tgt := 31) (dc dkX13_isFree 11 rfl) rfl (fun h17 => ?_) (fun h17 => (np 20 rfl ?_))
  · skip
    refine r_iconst (dc dkX13_isFree 19 rfl) (np 32 rfl ?_)
    exact r_zret (dc dkX13_isFree 20 rfl) rfl (by first | exact Or.inl rfl | exact Or.inr rfl) ⟨congrArg (fun z => some (vI z)) ((bI_f (fun q => q i (by omega) (by omega) (by first | exact Or.inl (by assumption) | exact Or.inr (by assumption)))).symm), rfl⟩
  refine r_aload_n (dc dkX13_isFree 12 rfl) rfl (np 21 rfl ?_)
  refine r_iload_n (dc dkX13_isFree 13 rfl) rfl (np 22 rfl ?_)
  refine r_iload_n (dc dkX13_isFree 14 rfl) rfl (np 23 rfl ?_)
  refine r_iload_n (dc dkX13_isFree 15 rfl) rfl (np 24 rfl ?_)
  refine r_iconst (dc dkX13_isFree 16 rfl) (np 25 rfl ?_)
  refine r_pV4 (y' := miX13_encloses) (dc dkX13_isFree 17 rfl) mlX13_326 ceX13_encloses ob_111 (Nat.le_of_ble_eq_true rfl) (Nat.le_of_ble_eq_true rfl) (c_X13_encloses (by assumption) (by omega) (by omega) (by omega) (by omega) (by omega)) (np 28 rfl ?_)
  refine r_bz (tgt := 33) (dc dkX13_isFree 18 rfl) rfl (fun h28 => ?_) (fun h28 => (np 31 rfl ?_))
  · skip
    refine r_iinc (lv' := [(3, _), (0, _), (1, _), (2, _)]) (dc dkX13_isFree 21 rfl) (Nat.le_of_ble_eq_true rfl) rfl rfl (np 36 rfl ?_)
    refine r_goto (tgt := 2) (dc dkX13_isFree 22 rfl) rfl ?_
    refine r_pick [1, 2, 3, 0] rfl ?_
    exact ih2 _ ⟨by omega, by omega, fun j q0 q1 => by rcases (show j < i ∨ j = i by omega) with q | q; exact hI2.2.2 j q0 q; subst q; exact fun z => by rcases z with z | z <;> contradiction⟩ (by omega)
  refine r_iconst (dc dkX13_isFree 19 rfl) (np 32 rfl ?_)
  exact r_zret (dc dkX13_isFree 20 rfl) rfl (by first | exact Or.inl rfl | exact Or.inr rfl) ⟨congrArg (fun z => some (vI z)) ((bI_f (fun q => q i (by omega) (by omega) (by first | exact Or.inl (by assumption) | exact Or.inr (by assumption)))).symm), rfl⟩
noncomputable def freeR (σ : jS) : Int := smI (fun p => bI (((0 ≤ p % 10 ∧ 0 ≤ p / 10 ∧ p % 10 < σ 113 0 ∧ p / 10 < σ 113 1) ∧ σ 113 (5 + 10 * (p / 10) + p % 10) = 0) ∧ ∀ b, 0 ≤ b → b < σ 113 4 → ¬ (isOnB (cn σ 113 b) (rP σ 113 b) (10 * (p / 10) + p % 10) ∨ encRB 1 (cn σ 113 b) (rP σ 113 b) (p % 10) (p / 10)))) 100
set_option maxRecDepth 100000 in
set_option maxHeartbeats 4000000 in
theorem c_X13_freeMany {σ : jS} (hN : okN σ) : Jp 6 miX13_freeMany [.ref 111] σ (vI (freeR σ)) := by
  refine jm_ofF (Po := (jP (vI (freeR σ)) σ)) (plainFor_of_name (by decide)) (Nat.le_of_ble_eq_true rfl) (lv := [(0, _)]) rfl ?_
  refine r_iconst (dc dkX13_freeMany 0 rfl) (np 1 rfl ?_)
  refine r_istore_n (lv' := [(1, _), (0, _)]) (dc dkX13_freeMany 1 rfl) (Nat.le_of_ble_eq_true rfl) rfl (np 2 rfl ?_)
  refine r_iconst (dc dkX13_freeMany 2 rfl) (np 3 rfl ?_)
  refine r_istore_n (lv' := [(2, _), (1, _), (0, _)]) (dc dkX13_freeMany 3 rfl) (Nat.le_of_ble_eq_true rfl) rfl (np 4 rfl ?_)
  refine r_pick [2, 1, 0] (lv' := [(0, _), (1, _), (2, _)]) rfl ?_
  refine jlp2 (P := fun (s : Int) (i : Int) => jR _ _ _ 4 [(0, .ref 111), (1, vI s), (2, vI i)] [] σ) (I := fun (s : Int) (i : Int) => 0 ≤ i ∧ i ≤ 100 ∧ s = smI (fun p => bI (((0 ≤ p % 10 ∧ 0 ≤ p / 10 ∧ p % 10 < σ 113 0 ∧ p / 10 < σ 113 1) ∧ σ 113 (5 + 10 * (p / 10) + p % 10) = 0) ∧ ∀ b, 0 ≤ b → b < σ 113 4 → ¬ (isOnB (cn σ 113 b) (rP σ 113 b) (10 * (p / 10) + p % 10) ∨ encRB 1 (cn σ 113 b) (rP σ 113 b) (p % 10) (p / 10)))) i) (fun (s : Int) (i : Int) => (100 - i).toNat) ?_ _ _ ⟨by omega, by omega, rfl⟩
  intro s i hI4 ih4
  refine r_iload_n (dc dkX13_freeMany 4 rfl) rfl (np 5 rfl ?_)
  refine r_bipush (dc dkX13_freeMany 5 rfl) bp_100 (np 7 rfl ?_)
  refine r_icmp_ge (tgt := 52) (dc dkX13_freeMany 6 rfl) rfl (by first | assumption | decide | omega) (by first | assumption | decide | omega) (fun h7 => ?_) (fun h7 => (np 10 rfl ?_))
  · skip
    refine r_iload_n (dc dkX13_freeMany 29 rfl) rfl (np 53 rfl ?_)
    exact r_iret (dc dkX13_freeMany 30 rfl) rfl ⟨congrArg (fun z => some (vI z)) (by rw [hI4.2.2, show i = 100 by omega]; rfl), rfl⟩
  refine r_aload_n (dc dkX13_freeMany 7 rfl) rfl (np 11 rfl ?_)
  refine r_getR (dc dkX13_freeMany 8 rfl) flX13_13 fd_111_15 (np 14 rfl ?_)
  refine r_iload_n (dc dkX13_freeMany 9 rfl) rfl (np 15 rfl ?_)
  refine r_bipush (dc dkX13_freeMany 10 rfl) bp_10 (np 17 rfl ?_)
  refine r_iremn (dc dkX13_freeMany 11 rfl) (by first | assumption | decide | omega) (by first | assumption | decide | omega) (np 18 rfl ?_)
  refine r_iload_n (dc dkX13_freeMany 12 rfl) rfl (np 19 rfl ?_)
  refine r_bipush (dc dkX13_freeMany 13 rfl) bp_10 (np 21 rfl ?_)
  refine r_idivn (dc dkX13_freeMany 14 rfl) (by first | assumption | decide | omega) (by first | assumption | decide | omega) (np 22 rfl ?_)
  refine r_pS3 (y' := miX13_isPeg) (dc dkX13_freeMany 15 rfl) mlX13_226 seX13_isPeg (Nat.le_of_ble_eq_true rfl) (Nat.le_of_ble_eq_true rfl) (c_X13_isPeg ar_113 (by decide) hN.1 (by omega) (by omega)) (np 25 rfl ?_)
  refine r_bz (tgt := 46) (dc dkX13_freeMany 16 rfl) rfl (fun h25 => ?_) (fun h25 => (np 28 rfl ?_))
  · skip
    refine r_iinc (lv' := [(2, _), (0, _), (1, _)]) (dc dkX13_freeMany 27 rfl) (Nat.le_of_ble_eq_true rfl) rfl rfl (np 49 rfl ?_)
    refine r_goto (tgt := 4) (dc dkX13_freeMany 28 rfl) rfl ?_
    refine r_pick [1, 2, 0] rfl ?_
    exact ih4 _ _ ⟨by omega, by omega, by first | (rw [smI_s _ (by omega), ← hI4.2.2, bI_t ⟨h25, h40⟩]; done) | (rw [smI_s _ (by omega), ← hI4.2.2, bI_f (fun q => h25 q.1), Int.add_zero]; done) | (rw [smI_s _ (by omega), ← hI4.2.2, bI_f (fun q => h40 q.2), Int.add_zero]; done)⟩ (by omega)
  refine r_aload_n (dc dkX13_freeMany 17 rfl) rfl (np 29 rfl ?_)
  refine r_iload_n (dc dkX13_freeMany 18 rfl) rfl (np 30 rfl ?_)
  refine r_bipush (dc dkX13_freeMany 19 rfl) bp_10 (np 32 rfl ?_)
  refine r_iremn (dc dkX13_freeMany 20 rfl) (by first | assumption | decide | omega) (by first | assumption | decide | omega) (np 33 rfl ?_)
  refine r_iload_n (dc dkX13_freeMany 21 rfl) rfl (np 34 rfl ?_)
  refine r_bipush (dc dkX13_freeMany 22 rfl) bp_10 (np 36 rfl ?_)
  refine r_idivn (dc dkX13_freeMany 23 rfl) (by first | assumption | decide | omega) (by first | assumption | decide | omega) (np 37 rfl ?_)
  refine r_pV2 (y' := miX13_isFree) (dc dkX13_freeMany 24 rfl) mlX13_371 ceX13_isFree ob_111 (Nat.le_of_ble_eq_true rfl) (Nat.le_of_ble_eq_true rfl) (c_X13_isFree (by assumption) (by omega) (by omega)) (np 40 rfl ?_)
  refine r_bz (tgt := 46) (dc dkX13_freeMany 25 rfl) rfl (fun h40 => ?_) (fun h40 => (np 43 rfl ?_))
  · skip
    refine r_iinc (lv' := [(2, _), (0, _), (1, _)]) (dc dkX13_freeMany 27 rfl) (Nat.le_of_ble_eq_true rfl) rfl rfl (np 49 rfl ?_)
    refine r_goto (tgt := 4) (dc dkX13_freeMany 28 rfl) rfl ?_
    refine r_pick [1, 2, 0] rfl ?_
    exact ih4 _ _ ⟨by omega, by omega, by first | (rw [smI_s _ (by omega), ← hI4.2.2, bI_t ⟨h25, h40⟩]; done) | (rw [smI_s _ (by omega), ← hI4.2.2, bI_f (fun q => h25 q.1), Int.add_zero]; done) | (rw [smI_s _ (by omega), ← hI4.2.2, bI_f (fun q => h40 q.2), Int.add_zero]; done)⟩ (by omega)
  refine r_iinc (lv' := [(1, _), (0, _), (2, _)]) (dc dkX13_freeMany 26 rfl) (Nat.le_of_ble_eq_true rfl) rfl rfl (np 46 rfl ?_)
  refine r_iinc (lv' := [(2, _), (1, _), (0, _)]) (dc dkX13_freeMany 27 rfl) (Nat.le_of_ble_eq_true rfl) rfl rfl (np 49 rfl ?_)
  refine r_goto (tgt := 4) (dc dkX13_freeMany 28 rfl) rfl ?_
  refine r_pick [2, 1, 0] rfl ?_
  exact ih4 _ _ ⟨by omega, by omega, by first | (rw [smI_s _ (by omega), ← hI4.2.2, bI_t ⟨h25, h40⟩]; done) | (rw [smI_s _ (by omega), ← hI4.2.2, bI_f (fun q => h25 q.1), Int.add_zero]; done) | (rw [smI_s _ (by omega), ← hI4.2.2, bI_f (fun q => h40 q.2), Int.add_zero]; done)⟩ (by omega)
