/-! ===== words of the reference's rows ===== -/
def sgn (z : Int) : Int := if 0 < z then 1 else if z < 0 then -1 else 0
theorem sgn_b (z : Int) : -1 ≤ sgn z ∧ sgn z ≤ 1 := by unfold sgn; split <;> (try split) <;> omega
theorem sgn_mul {a b : Int} : sgn a * sgn b < 0 ↔ a * b < 0 := by
  have key : ∀ x y : Int, 0 < x → 0 < y → 0 < x * y := fun x y hx hy => Int.mul_pos hx hy
  unfold sgn
  rcases Int.lt_trichotomy a 0 with h | h | h <;> rcases Int.lt_trichotomy b 0 with g | g | g
  · have := key (-a) (-b) (by omega) (by omega)
    rw [Int.neg_mul_neg] at this
    rw [if_neg (by omega), if_pos h, if_neg (by omega), if_pos g]; omega
  · subst g; simp
  · have := key (-a) b (by omega) g
    rw [Int.neg_mul] at this
    rw [if_neg (by omega), if_pos h, if_pos g]; omega
  · subst h; simp
  · subst h; simp
  · subst h; simp
  · have := key a (-b) h (by omega)
    rw [Int.mul_neg] at this
    rw [if_pos h, if_neg (by omega), if_pos g]; omega
  · subst g; simp
  · have := key a b h g
    rw [if_pos h, if_pos g]; omega
theorem sgn_0 {z : Int} : sgn z = 0 ↔ z = 0 := by unfold sgn; split <;> (try split) <;> omega
def btw (v a b : Int) : Prop := if a < b then a ≤ v ∧ v ≤ b else b ≤ v ∧ v ≤ a
def onC (px py ax ay bx by_ : Int) : Prop := crs ax ay bx by_ px py = 0 ∧ dt px py ax ay bx by_ ≤ 0
noncomputable def mtc (ax ay bx by_ cx cy dx dy : Int) : Int := @ite _ (crs ax ay bx by_ cx cy * crs ax ay bx by_ dx dy < 0 ∧ crs cx cy dx dy ax ay * crs cx cy dx dy bx by_ < 0) (Classical.propDecidable _) 1 (@ite _ (onC cx cy ax ay bx by_ ∨ onC dx dy ax ay bx by_ ∨ onC ax ay cx cy dx dy ∨ onC bx by_ cx cy dx dy) (Classical.propDecidable _) 2 0)
theorem mt_mtc (a b c d : Int) : mt a b c d = mtc (a % 10) (a / 10) (b % 10) (b / 10) (c % 10) (c / 10) (d % 10) (d / 10) := rfl
theorem onS_onC (p a b : Int) : onS p a b = onC (p % 10) (p / 10) (a % 10) (a / 10) (b % 10) (b / 10) := rfl
theorem mul_np {u v : Int} : u * v ≤ 0 ↔ (u ≤ 0 ∧ 0 ≤ v) ∨ (0 ≤ u ∧ v ≤ 0) := by
  constructor
  · intro h
    rcases Int.lt_or_le u 0 with hu | hu <;> rcases Int.lt_or_le v 0 with hv | hv
    · have := Int.mul_pos (show 0 < -u by omega) (show 0 < -v by omega)
      rw [Int.neg_mul_neg] at this; omega
    · exact Or.inl ⟨by omega, hv⟩
    · exact Or.inr ⟨hu, by omega⟩
    · rcases (show u = 0 ∨ v = 0 ∨ (0 < u ∧ 0 < v) by omega) with q | q | q
      · exact Or.inl ⟨by omega, hv⟩
      · exact Or.inr ⟨hu, by omega⟩
      · have := Int.mul_pos q.1 q.2; omega
  · rintro (h | h)
    · have := Int.mul_nonneg (show 0 ≤ -u by omega) h.2
      rw [Int.neg_mul] at this; omega
    · have := Int.mul_nonneg h.1 (show 0 ≤ -v by omega)
      rw [Int.mul_neg] at this; omega
theorem btw_iff {v a b : Int} : btw v a b ↔ (a - v) * (b - v) ≤ 0 := by
  rw [mul_np]
  unfold btw
  split <;> omega
theorem on_btw {px py ax ay bx by_ : Int} (h : crs ax ay bx by_ px py = 0) : (btw px ax bx ∧ btw py ay by_) ↔ dt px py ax ay bx by_ ≤ 0 := by
  rw [btw_iff, btw_iff]
  unfold crs at h
  unfold dt
  generalize hu : ax - px = u
  generalize hv : bx - px = v
  generalize hs : ay - py = s
  generalize ht : by_ - py = t
  have e1 : t * u = v * s := by
    rw [show bx - ax = v - u by omega, show py - ay = -s by omega, show by_ - ay = t - s by omega, show px - ax = -u by omega] at h
    simp only [Int.sub_mul, Int.mul_neg] at h
    have : u * s = s * u := Int.mul_comm u s
    omega
  have e2 : (u * v) * (s * t) = (v * s) * (v * s) := by
    rw [show (u * v) * (s * t) = (t * u) * (v * s) by ac_rfl, e1]
  have e3 : 0 ≤ (u * v) * (s * t) := by
    rw [e2]
    rcases Int.le_total 0 (v * s) with q | q
    · exact Int.mul_nonneg q q
    · have := Int.mul_nonneg (show 0 ≤ -(v * s) by omega) (show 0 ≤ -(v * s) by omega)
      rw [Int.neg_mul_neg] at this
      exact this
  constructor
  · intro ⟨h1, h2⟩; omega
  · intro h1
    generalize u * v = A at *
    generalize s * t = B at *
    rcases Int.lt_or_le 0 A with q | q
    · rcases Int.lt_or_le B 0 with r | r
      · have := Int.mul_pos q (show 0 < -B by omega)
        rw [Int.mul_neg] at this; omega
      · omega
    · rcases Int.lt_or_le 0 B with r | r
      · rcases Int.lt_or_le A 0 with z | z
        · have := Int.mul_pos (show 0 < -A by omega) r
          rw [Int.neg_mul] at this; omega
        · omega
      · exact ⟨q, r⟩
abbrev cB (M z : Int) : Prop := 0 ≤ z ∧ z ≤ M
def cn (σ : jS) (a : Nat) (b : Int) : Int := σ a (105 + 17 * b)
def xa (σ : jS) (a : Nat) (b i : Int) : Int := σ a (105 + 17 * b + 1 + 2 * i)
def ya (σ : jS) (a : Nat) (b i : Int) : Int := σ a (105 + 17 * b + 2 + 2 * i)
def rP (σ : jS) (a : Nat) (b i : Int) : Int := 10 * ya σ a b (i % cn σ a b) + xa σ a b (i % cn σ a b)
/-- a band's corners are on the board's grid -/
def vB (σ : jS) (a : Nat) (b : Int) : Prop := (3 ≤ cn σ a b ∧ cn σ a b ≤ 8) ∧ ∀ i, 0 ≤ i → i < cn σ a b → cB 9 (xa σ a b i) ∧ cB 9 (ya σ a b i)
/-- a row of a board: width, height, bell, places out, how many bands -/
def okH (σ : jS) (a : Nat) : Prop := cB 10 (σ a 0) ∧ cB 10 (σ a 1) ∧ cB 1 (σ a 2) ∧ cB 12 (σ a 3) ∧ cB 8 (σ a 4) ∧ ∀ j, 0 ≤ j → j < 100 → cB 1 (σ a (5 + j))
theorem vB_i {σ : jS} {a : Nat} {b : Int} (h : vB σ a b) (i : Int) : cB 9 (xa σ a b (i % cn σ a b)) ∧ cB 9 (ya σ a b (i % cn σ a b)) :=
  h.2 _ (Int.emod_nonneg i (by have := h.1; omega)) (Int.emod_lt_of_pos i (by have := h.1; omega))
theorem rP_x {σ : jS} {a : Nat} {b : Int} (h : vB σ a b) (i : Int) : rP σ a b i % 10 = xa σ a b (i % cn σ a b) := by
  have := vB_i h i
  unfold rP; omega
theorem rP_y {σ : jS} {a : Nat} {b : Int} (h : vB σ a b) (i : Int) : rP σ a b i / 10 = ya σ a b (i % cn σ a b) := by
  have := vB_i h i
  unfold rP; omega
theorem rP_p {σ : jS} {a : Nat} {b : Int} (h : vB σ a b) (i : Int) : isPg (rP σ a b i) := by
  have := vB_i h i
  unfold rP; omega
theorem crs_R {ax ay bx by_ cx cy : Int} (h : cB 18 ax ∧ cB 18 ay ∧ cB 18 bx ∧ cB 18 by_ ∧ cB 18 cx ∧ cB 18 cy) : iR (crs ax ay bx by_ cx cy) := by
  have := crs_b (M := 18) (ax := ax) (ay := ay) (bx := bx) (by_ := by_) (cx := cx) (cy := cy) ⟨by omega, by omega, by omega, by omega, by omega, by omega, by omega, by omega, by omega, by omega, by omega, by omega⟩
  omega
theorem sgn2_R (a b : Int) : iR (sgn a * sgn b) := by
  have h1 := sgn_b a
  have h2 := sgn_b b
  have := mulb (A := 1) (B := 1) h1.1 h1.2 h2.1 h2.2
  omega
theorem mtc_b (a b c d e f g h : Int) : 0 ≤ mtc a b c d e f g h ∧ mtc a b c d e f g h ≤ 2 := by
  unfold mtc
  split
  · decide
  · split <;> decide
set_option maxRecDepth 100000 in
set_option maxHeartbeats 4000000 in
theorem c_X13_isIn {σ : jS} {v a b : Int} (hv : iR v) (ha : iR a) (hb : iR b) : Jp 1 miX13_isIn [vI v, vI a, vI b] σ (vI (bI (a ≤ v ∧ v ≤ b))) := by
  refine jm_ofF (Po := (jP (vI (bI (a ≤ v ∧ v ≤ b))) σ)) (plainFor_of_name (by decide)) (Nat.le_of_ble_eq_true rfl) (lv := [(0, _), (1, _), (2, _)]) rfl ?_
  refine r_iload_n (dc dkX13_isIn 0 rfl) rfl (np 1 rfl ?_)
  refine r_iload_n (dc dkX13_isIn 1 rfl) rfl (np 2 rfl ?_)
  refine r_icmp_lt (tgt := 14) (dc dkX13_isIn 2 rfl) rfl (by first | assumption | decide | omega) (by first | assumption | decide | omega) (fun h2 => ?_) (fun h2 => (np 5 rfl ?_))
  · skip
    refine r_iconst (dc dkX13_isIn 8 rfl) (np 15 rfl ?_)
    exact r_zret (dc dkX13_isIn 9 rfl) rfl (by first | exact Or.inl rfl | exact Or.inr rfl) ⟨congrArg (fun z => some (vI z)) (by first | exact (bI_t (by omega)).symm | exact (bI_f (by omega)).symm), rfl⟩
  refine r_iload_n (dc dkX13_isIn 3 rfl) rfl (np 6 rfl ?_)
  refine r_iload_n (dc dkX13_isIn 4 rfl) rfl (np 7 rfl ?_)
  refine r_icmp_gt (tgt := 14) (dc dkX13_isIn 5 rfl) rfl (by first | assumption | decide | omega) (by first | assumption | decide | omega) (fun h7 => ?_) (fun h7 => (np 10 rfl ?_))
  · skip
    refine r_iconst (dc dkX13_isIn 8 rfl) (np 15 rfl ?_)
    exact r_zret (dc dkX13_isIn 9 rfl) rfl (by first | exact Or.inl rfl | exact Or.inr rfl) ⟨congrArg (fun z => some (vI z)) (by first | exact (bI_t (by omega)).symm | exact (bI_f (by omega)).symm), rfl⟩
  refine r_iconst (dc dkX13_isIn 6 rfl) (np 11 rfl ?_)
  refine r_goto (tgt := 15) (dc dkX13_isIn 7 rfl) rfl ?_
  exact r_zret (dc dkX13_isIn 9 rfl) rfl (by first | exact Or.inl rfl | exact Or.inr rfl) ⟨congrArg (fun z => some (vI z)) (by first | exact (bI_t (by omega)).symm | exact (bI_f (by omega)).symm), rfl⟩
set_option maxRecDepth 100000 in
set_option maxHeartbeats 4000000 in
theorem c_X13_sign {σ : jS} {v : Int} (hv : iR v) : Jp 1 miX13_sign [vI v] σ (vI (sgn v)) := by
  refine jm_ofF (Po := (jP (vI (sgn v)) σ)) (plainFor_of_name (by decide)) (Nat.le_of_ble_eq_true rfl) (lv := [(0, _)]) rfl ?_
  refine r_iload_n (dc dkX13_sign 0 rfl) rfl (np 1 rfl ?_)
  refine r_if_le (tgt := 8) (dc dkX13_sign 1 rfl) rfl (by first | assumption | decide | omega) (fun h1 => ?_) (fun h1 => (np 4 rfl ?_))
  · skip
    refine r_iload_n (dc dkX13_sign 4 rfl) rfl (np 9 rfl ?_)
    refine r_if_ge (tgt := 16) (dc dkX13_sign 5 rfl) rfl (by first | assumption | decide | omega) (fun h9 => ?_) (fun h9 => (np 12 rfl ?_))
    · skip
      refine r_iconst (dc dkX13_sign 8 rfl) (np 17 rfl ?_)
      exact r_iret (dc dkX13_sign 9 rfl) rfl ⟨congrArg (fun z => some (vI z)) (by unfold sgn; split <;> (try split) <;> omega), rfl⟩
    refine r_iconst (dc dkX13_sign 6 rfl) (np 13 rfl ?_)
    refine r_goto (tgt := 17) (dc dkX13_sign 7 rfl) rfl ?_
    exact r_iret (dc dkX13_sign 9 rfl) rfl ⟨congrArg (fun z => some (vI z)) (by unfold sgn; split <;> (try split) <;> omega), rfl⟩
  refine r_iconst (dc dkX13_sign 2 rfl) (np 5 rfl ?_)
  refine r_goto (tgt := 17) (dc dkX13_sign 3 rfl) rfl ?_
  exact r_iret (dc dkX13_sign 9 rfl) rfl ⟨congrArg (fun z => some (vI z)) (by unfold sgn; split <;> (try split) <;> omega), rfl⟩
set_option maxRecDepth 100000 in
set_option maxHeartbeats 4000000 in
theorem c_X13_size {σ : jS} {v : Int} (hv : iR v) : Jp 1 miX13_size [vI v] σ (vI v.natAbs) := by
  refine jm_ofF (Po := (jP (vI v.natAbs) σ)) (plainFor_of_name (by decide)) (Nat.le_of_ble_eq_true rfl) (lv := [(0, _)]) rfl ?_
  refine r_iload_n (dc dkX13_size 0 rfl) rfl (np 1 rfl ?_)
  refine r_if_ge (tgt := 9) (dc dkX13_size 1 rfl) rfl (by first | assumption | decide | omega) (fun h1 => ?_) (fun h1 => (np 4 rfl ?_))
  · skip
    refine r_iload_n (dc dkX13_size 5 rfl) rfl (np 10 rfl ?_)
    exact r_iret (dc dkX13_size 6 rfl) rfl ⟨congrArg (fun z => some (vI z)) (by omega), rfl⟩
  refine r_iload_n (dc dkX13_size 2 rfl) rfl (np 5 rfl ?_)
  refine r_ineg (dc dkX13_size 3 rfl) (np 6 rfl ?_)
  refine r_goto (tgt := 10) (dc dkX13_size 4 rfl) rfl ?_
  exact r_iret (dc dkX13_size 6 rfl) rfl ⟨congrArg (fun z => some (vI z)) (by omega), rfl⟩
set_option maxRecDepth 100000 in
set_option maxHeartbeats 4000000 in
theorem c_X13_common {σ : jS} {x y : Int} (hx : -1000 ≤ x ∧ x ≤ 1000) (hy : -1000 ≤ y ∧ y ≤ 1000) : Jp 2 miX13_common [vI x, vI y] σ (vI (gd x y)) := by
  refine jm_ofF (Po := (jP (vI (gd x y)) σ)) (plainFor_of_name (by decide)) (Nat.le_of_ble_eq_true rfl) (lv := [(0, _), (1, _)]) rfl ?_
  refine r_iload_n (dc dkX13_common 0 rfl) rfl (np 1 rfl ?_)
  refine r_pS1 (y' := miX13_size) (dc dkX13_common 1 rfl) mlX13_105 seX13_size (Nat.le_of_ble_eq_true rfl) (Nat.le_of_ble_eq_true rfl) (c_X13_size (by first | assumption | omega)) (np 4 rfl ?_)
  refine r_istore_n (lv' := [(2, _), (0, _), (1, _)]) (dc dkX13_common 2 rfl) (Nat.le_of_ble_eq_true rfl) rfl (np 5 rfl ?_)
  refine r_iload_n (dc dkX13_common 3 rfl) rfl (np 6 rfl ?_)
  refine r_pS1 (y' := miX13_size) (dc dkX13_common 4 rfl) mlX13_105 seX13_size (Nat.le_of_ble_eq_true rfl) (Nat.le_of_ble_eq_true rfl) (c_X13_size (by first | assumption | omega)) (np 9 rfl ?_)
  refine r_istore_n (lv' := [(3, _), (2, _), (0, _), (1, _)]) (dc dkX13_common 5 rfl) (Nat.le_of_ble_eq_true rfl) rfl (np 10 rfl ?_)
  refine r_pick [2, 3, 1, 0] (lv' := [(0, _), (1, _), (2, _), (3, _)]) rfl ?_
  refine jlp2 (P := fun (u : Int) (w : Int) => jR _ _ _ 10 [(0, vI x), (1, vI y), (2, vI u), (3, vI w)] [] σ) (I := fun (u : Int) (w : Int) => 0 ≤ u ∧ u ≤ 1000 ∧ 0 ≤ w ∧ w ≤ 1000 ∧ gd u w = gd x y) (fun (u : Int) (w : Int) => w.toNat) ?_ _ _ ⟨by omega, by omega, by omega, by omega, gd_abs _ _⟩
  intro u w hI10 ih10
  refine r_iload_n (dc dkX13_common 6 rfl) rfl (np 11 rfl ?_)
  refine r_if_le (tgt := 27) (dc dkX13_common 7 rfl) rfl (by first | assumption | decide | omega) (fun h11 => ?_) (fun h11 => (np 14 rfl ?_))
  · skip
    refine r_iload_n (dc dkX13_common 17 rfl) rfl (np 28 rfl ?_)
    exact r_iret (dc dkX13_common 18 rfl) rfl ⟨congrArg (fun z => some (vI z)) (by rw [← hI10.2.2.2.2, show w = 0 by omega, gd_0 (by omega)]), rfl⟩
  refine r_iload_n (dc dkX13_common 8 rfl) rfl (np 15 rfl ?_)
  refine r_iload_n (dc dkX13_common 9 rfl) rfl (np 16 rfl ?_)
  refine r_iremn (dc dkX13_common 10 rfl) (by first | assumption | decide | omega) (by first | assumption | decide | omega) (np 17 rfl ?_)
  refine r_istore (lv' := [(4, _), (0, _), (1, _), (2, _), (3, _)]) (dc dkX13_common 11 rfl) (Nat.le_of_ble_eq_true rfl) rfl (np 19 rfl ?_)
  refine r_iload_n (dc dkX13_common 12 rfl) rfl (np 20 rfl ?_)
  refine r_istore_n (lv' := [(2, _), (4, _), (0, _), (1, _), (3, _)]) (dc dkX13_common 13 rfl) (Nat.le_of_ble_eq_true rfl) rfl (np 21 rfl ?_)
  refine r_iload (dc dkX13_common 14 rfl) rfl (np 23 rfl ?_)
  refine r_istore_n (lv' := [(3, _), (2, _), (4, _), (0, _), (1, _)]) (dc dkX13_common 15 rfl) (Nat.le_of_ble_eq_true rfl) rfl (np 24 rfl ?_)
  refine r_goto (tgt := 10) (dc dkX13_common 16 rfl) rfl ?_
  refine r_pick [3, 4, 1, 0] rfl ?_
  exact ih10 _ _ ⟨by omega, by omega, Int.emod_nonneg _ (by omega), by have := Int.emod_lt_of_pos u (show 0 < w by omega); omega, by rw [gd_step (by omega) (by omega)]; exact hI10.2.2.2.2⟩ (by have := Int.emod_lt_of_pos u (show 0 < w by omega); have := Int.emod_nonneg u (show w ≠ 0 by omega); omega)
set_option maxRecDepth 100000 in
set_option maxHeartbeats 4000000 in
theorem c_X13_turn {σ : jS} {ax ay bx by_ cx cy : Int} (h : cB 18 ax ∧ cB 18 ay ∧ cB 18 bx ∧ cB 18 by_ ∧ cB 18 cx ∧ cB 18 cy) : Jp 2 miX13_turn [vI ax, vI ay, vI bx, vI by_, vI cx, vI cy] σ (vI (sgn (crs ax ay bx by_ cx cy))) := by
  refine jm_ofF (Po := (jP (vI (sgn (crs ax ay bx by_ cx cy))) σ)) (plainFor_of_name (by decide)) (Nat.le_of_ble_eq_true rfl) (lv := [(0, _), (1, _), (2, _), (3, _), (4, _), (5, _)]) rfl ?_
  refine r_iload_n (dc dkX13_turn 0 rfl) rfl (np 1 rfl ?_)
  refine r_iload_n (dc dkX13_turn 1 rfl) rfl (np 2 rfl ?_)
  refine r_isub (dc dkX13_turn 2 rfl) (np 3 rfl ?_)
  refine r_iload (dc dkX13_turn 3 rfl) rfl (np 5 rfl ?_)
  refine r_iload_n (dc dkX13_turn 4 rfl) rfl (np 6 rfl ?_)
  refine r_isub (dc dkX13_turn 5 rfl) (np 7 rfl ?_)
  refine r_imul (dc dkX13_turn 6 rfl) (np 8 rfl ?_)
  refine r_iload_n (dc dkX13_turn 7 rfl) rfl (np 9 rfl ?_)
  refine r_iload_n (dc dkX13_turn 8 rfl) rfl (np 10 rfl ?_)
  refine r_isub (dc dkX13_turn 9 rfl) (np 11 rfl ?_)
  refine r_iload (dc dkX13_turn 10 rfl) rfl (np 13 rfl ?_)
  refine r_iload_n (dc dkX13_turn 11 rfl) rfl (np 14 rfl ?_)
  refine r_isub (dc dkX13_turn 12 rfl) (np 15 rfl ?_)
  refine r_imul (dc dkX13_turn 13 rfl) (np 16 rfl ?_)
  refine r_isub (dc dkX13_turn 14 rfl) (np 17 rfl ?_)
  refine r_pS1 (y' := miX13_sign) (dc dkX13_turn 15 rfl) mlX13_189 seX13_sign (Nat.le_of_ble_eq_true rfl) (Nat.le_of_ble_eq_true rfl) (c_X13_sign (crs_R h)) (np 20 rfl ?_)
  exact r_iret (dc dkX13_turn 16 rfl) rfl ⟨rfl, rfl⟩
set_option maxRecDepth 100000 in
set_option maxHeartbeats 4000000 in
theorem c_X13_isBetween {σ : jS} {v a b : Int} (hv : iR v) (ha : iR a) (hb : iR b) : Jp 1 miX13_isBetween [vI v, vI a, vI b] σ (vI (bI (btw v a b))) := by
  refine jm_ofF (Po := (jP (vI (bI (btw v a b))) σ)) (plainFor_of_name (by decide)) (Nat.le_of_ble_eq_true rfl) (lv := [(0, _), (1, _), (2, _)]) rfl ?_
  refine r_iload_n (dc dkX13_isBetween 0 rfl) rfl (np 1 rfl ?_)
  refine r_iload_n (dc dkX13_isBetween 1 rfl) rfl (np 2 rfl ?_)
  refine r_icmp_ge (tgt := 23) (dc dkX13_isBetween 2 rfl) rfl (by first | assumption | decide | omega) (by first | assumption | decide | omega) (fun h2 => ?_) (fun h2 => (np 5 rfl ?_))
  · skip
    refine r_iload_n (dc dkX13_isBetween 13 rfl) rfl (np 24 rfl ?_)
    refine r_iload_n (dc dkX13_isBetween 14 rfl) rfl (np 25 rfl ?_)
    refine r_icmp_lt (tgt := 37) (dc dkX13_isBetween 15 rfl) rfl (by first | assumption | decide | omega) (by first | assumption | decide | omega) (fun h25 => ?_) (fun h25 => (np 28 rfl ?_))
    · skip
      refine r_iconst (dc dkX13_isBetween 21 rfl) (np 38 rfl ?_)
      exact r_zret (dc dkX13_isBetween 22 rfl) rfl (by first | exact Or.inl rfl | exact Or.inr rfl) ⟨congrArg (fun z => some (vI z)) (by unfold btw; first | exact (bI_t (by split <;> omega)).symm | exact (bI_f (by split <;> omega)).symm), rfl⟩
    refine r_iload_n (dc dkX13_isBetween 16 rfl) rfl (np 29 rfl ?_)
    refine r_iload_n (dc dkX13_isBetween 17 rfl) rfl (np 30 rfl ?_)
    refine r_icmp_gt (tgt := 37) (dc dkX13_isBetween 18 rfl) rfl (by first | assumption | decide | omega) (by first | assumption | decide | omega) (fun h30 => ?_) (fun h30 => (np 33 rfl ?_))
    · skip
      refine r_iconst (dc dkX13_isBetween 21 rfl) (np 38 rfl ?_)
      exact r_zret (dc dkX13_isBetween 22 rfl) rfl (by first | exact Or.inl rfl | exact Or.inr rfl) ⟨congrArg (fun z => some (vI z)) (by unfold btw; first | exact (bI_t (by split <;> omega)).symm | exact (bI_f (by split <;> omega)).symm), rfl⟩
    refine r_iconst (dc dkX13_isBetween 19 rfl) (np 34 rfl ?_)
    refine r_goto (tgt := 38) (dc dkX13_isBetween 20 rfl) rfl ?_
    exact r_zret (dc dkX13_isBetween 22 rfl) rfl (by first | exact Or.inl rfl | exact Or.inr rfl) ⟨congrArg (fun z => some (vI z)) (by unfold btw; first | exact (bI_t (by split <;> omega)).symm | exact (bI_f (by split <;> omega)).symm), rfl⟩
  refine r_iload_n (dc dkX13_isBetween 3 rfl) rfl (np 6 rfl ?_)
  refine r_iload_n (dc dkX13_isBetween 4 rfl) rfl (np 7 rfl ?_)
  refine r_icmp_lt (tgt := 19) (dc dkX13_isBetween 5 rfl) rfl (by first | assumption | decide | omega) (by first | assumption | decide | omega) (fun h7 => ?_) (fun h7 => (np 10 rfl ?_))
  · skip
    refine r_iconst (dc dkX13_isBetween 11 rfl) (np 20 rfl ?_)
    refine r_goto (tgt := 38) (dc dkX13_isBetween 12 rfl) rfl ?_
    exact r_zret (dc dkX13_isBetween 22 rfl) rfl (by first | exact Or.inl rfl | exact Or.inr rfl) ⟨congrArg (fun z => some (vI z)) (by unfold btw; first | exact (bI_t (by split <;> omega)).symm | exact (bI_f (by split <;> omega)).symm), rfl⟩
  refine r_iload_n (dc dkX13_isBetween 6 rfl) rfl (np 11 rfl ?_)
  refine r_iload_n (dc dkX13_isBetween 7 rfl) rfl (np 12 rfl ?_)
  refine r_icmp_gt (tgt := 19) (dc dkX13_isBetween 8 rfl) rfl (by first | assumption | decide | omega) (by first | assumption | decide | omega) (fun h12 => ?_) (fun h12 => (np 15 rfl ?_))
  · skip
    refine r_iconst (dc dkX13_isBetween 11 rfl) (np 20 rfl ?_)
    refine r_goto (tgt := 38) (dc dkX13_isBetween 12 rfl) rfl ?_
    exact r_zret (dc dkX13_isBetween 22 rfl) rfl (by first | exact Or.inl rfl | exact Or.inr rfl) ⟨congrArg (fun z => some (vI z)) (by unfold btw; first | exact (bI_t (by split <;> omega)).symm | exact (bI_f (by split <;> omega)).symm), rfl⟩
  refine r_iconst (dc dkX13_isBetween 9 rfl) (np 16 rfl ?_)
  refine r_goto (tgt := 38) (dc dkX13_isBetween 10 rfl) rfl ?_
  exact r_zret (dc dkX13_isBetween 22 rfl) rfl (by first | exact Or.inl rfl | exact Or.inr rfl) ⟨congrArg (fun z => some (vI z)) (by unfold btw; first | exact (bI_t (by split <;> omega)).symm | exact (bI_f (by split <;> omega)).symm), rfl⟩
set_option maxRecDepth 100000 in
set_option maxHeartbeats 4000000 in
theorem c_X13_isOnSide {σ : jS} {px py ax ay bx by_ : Int} (h : cB 18 px ∧ cB 18 py ∧ cB 18 ax ∧ cB 18 ay ∧ cB 18 bx ∧ cB 18 by_) : Jp 3 miX13_isOnSide [vI px, vI py, vI ax, vI ay, vI bx, vI by_] σ (vI (bI (onC px py ax ay bx by_))) := by
  refine jm_ofF (Po := (jP (vI (bI (onC px py ax ay bx by_))) σ)) (plainFor_of_name (by decide)) (Nat.le_of_ble_eq_true rfl) (lv := [(0, _), (1, _), (2, _), (3, _), (4, _), (5, _)]) rfl ?_
  refine r_iload_n (dc dkX13_isOnSide 0 rfl) rfl (np 1 rfl ?_)
  refine r_iload_n (dc dkX13_isOnSide 1 rfl) rfl (np 2 rfl ?_)
  refine r_iload (dc dkX13_isOnSide 2 rfl) rfl (np 4 rfl ?_)
  refine r_iload (dc dkX13_isOnSide 3 rfl) rfl (np 6 rfl ?_)
  refine r_iload_n (dc dkX13_isOnSide 4 rfl) rfl (np 7 rfl ?_)
  refine r_iload_n (dc dkX13_isOnSide 5 rfl) rfl (np 8 rfl ?_)
  refine r_pS6 (y' := miX13_turn) (dc dkX13_isOnSide 6 rfl) mlX13_192 seX13_turn (Nat.le_of_ble_eq_true rfl) (Nat.le_of_ble_eq_true rfl) (c_X13_turn (by omega)) (np 11 rfl ?_)
  refine r_if_ne (tgt := 38) (dc dkX13_isOnSide 7 rfl) rfl (by have := sgn_b (crs ax ay bx by_ px py); omega) (fun h11 => ?_) (fun h11 => (np 14 rfl ?_))
  · skip
    refine r_iconst (dc dkX13_isOnSide 20 rfl) (np 39 rfl ?_)
    exact r_zret (dc dkX13_isOnSide 21 rfl) rfl (by first | exact Or.inl rfl | exact Or.inr rfl) ⟨congrArg (fun z => some (vI z)) (by first | exact (bI_t ⟨sgn_0.mp h11, (on_btw (sgn_0.mp h11)).mp ⟨h21, h31⟩⟩).symm | exact (bI_f (fun q => h11 (sgn_0.mpr q.1))).symm | exact (bI_f (fun q => h21 ((on_btw q.1).mpr q.2).1)).symm | exact (bI_f (fun q => h31 ((on_btw q.1).mpr q.2).2)).symm), rfl⟩
  refine r_iload_n (dc dkX13_isOnSide 8 rfl) rfl (np 15 rfl ?_)
  refine r_iload_n (dc dkX13_isOnSide 9 rfl) rfl (np 16 rfl ?_)
  refine r_iload (dc dkX13_isOnSide 10 rfl) rfl (np 18 rfl ?_)
  refine r_pS3 (y' := miX13_isBetween) (dc dkX13_isOnSide 11 rfl) mlX13_196 seX13_isBetween (Nat.le_of_ble_eq_true rfl) (Nat.le_of_ble_eq_true rfl) (c_X13_isBetween (by omega) (by omega) (by omega)) (np 21 rfl ?_)
  refine r_bz (tgt := 38) (dc dkX13_isOnSide 12 rfl) rfl (fun h21 => ?_) (fun h21 => (np 24 rfl ?_))
  · skip
    refine r_iconst (dc dkX13_isOnSide 20 rfl) (np 39 rfl ?_)
    exact r_zret (dc dkX13_isOnSide 21 rfl) rfl (by first | exact Or.inl rfl | exact Or.inr rfl) ⟨congrArg (fun z => some (vI z)) (by first | exact (bI_t ⟨sgn_0.mp h11, (on_btw (sgn_0.mp h11)).mp ⟨h21, h31⟩⟩).symm | exact (bI_f (fun q => h11 (sgn_0.mpr q.1))).symm | exact (bI_f (fun q => h21 ((on_btw q.1).mpr q.2).1)).symm | exact (bI_f (fun q => h31 ((on_btw q.1).mpr q.2).2)).symm), rfl⟩
  refine r_iload_n (dc dkX13_isOnSide 13 rfl) rfl (np 25 rfl ?_)
  refine r_iload_n (dc dkX13_isOnSide 14 rfl) rfl (np 26 rfl ?_)
  refine r_iload (dc dkX13_isOnSide 15 rfl) rfl (np 28 rfl ?_)
  refine r_pS3 (y' := miX13_isBetween) (dc dkX13_isOnSide 16 rfl) mlX13_196 seX13_isBetween (Nat.le_of_ble_eq_true rfl) (Nat.le_of_ble_eq_true rfl) (c_X13_isBetween (by omega) (by omega) (by omega)) (np 31 rfl ?_)
  refine r_bz (tgt := 38) (dc dkX13_isOnSide 17 rfl) rfl (fun h31 => ?_) (fun h31 => (np 34 rfl ?_))
  · skip
    refine r_iconst (dc dkX13_isOnSide 20 rfl) (np 39 rfl ?_)
    exact r_zret (dc dkX13_isOnSide 21 rfl) rfl (by first | exact Or.inl rfl | exact Or.inr rfl) ⟨congrArg (fun z => some (vI z)) (by first | exact (bI_t ⟨sgn_0.mp h11, (on_btw (sgn_0.mp h11)).mp ⟨h21, h31⟩⟩).symm | exact (bI_f (fun q => h11 (sgn_0.mpr q.1))).symm | exact (bI_f (fun q => h21 ((on_btw q.1).mpr q.2).1)).symm | exact (bI_f (fun q => h31 ((on_btw q.1).mpr q.2).2)).symm), rfl⟩
  refine r_iconst (dc dkX13_isOnSide 18 rfl) (np 35 rfl ?_)
  refine r_goto (tgt := 39) (dc dkX13_isOnSide 19 rfl) rfl ?_
  exact r_zret (dc dkX13_isOnSide 21 rfl) rfl (by first | exact Or.inl rfl | exact Or.inr rfl) ⟨congrArg (fun z => some (vI z)) (by first | exact (bI_t ⟨sgn_0.mp h11, (on_btw (sgn_0.mp h11)).mp ⟨h21, h31⟩⟩).symm | exact (bI_f (fun q => h11 (sgn_0.mpr q.1))).symm | exact (bI_f (fun q => h21 ((on_btw q.1).mpr q.2).1)).symm | exact (bI_f (fun q => h31 ((on_btw q.1).mpr q.2).2)).symm), rfl⟩
set_option maxRecDepth 100000 in
set_option maxHeartbeats 4000000 in
theorem c_X13_meet {σ : jS} {ax ay bx by_ cx cy dx dy : Int} (h : cB 18 ax ∧ cB 18 ay ∧ cB 18 bx ∧ cB 18 by_ ∧ cB 18 cx ∧ cB 18 cy ∧ cB 18 dx ∧ cB 18 dy) : Jp 4 miX13_meet [vI ax, vI ay, vI bx, vI by_, vI cx, vI cy, vI dx, vI dy] σ (vI (mtc ax ay bx by_ cx cy dx dy)) := by
  refine jm_ofF (Po := (jP (vI (mtc ax ay bx by_ cx cy dx dy)) σ)) (plainFor_of_name (by decide)) (Nat.le_of_ble_eq_true rfl) (lv := [(0, _), (1, _), (2, _), (3, _), (4, _), (5, _), (6, _), (7, _)]) rfl ?_
  refine r_iload_n (dc dkX13_meet 0 rfl) rfl (np 1 rfl ?_)
  refine r_iload_n (dc dkX13_meet 1 rfl) rfl (np 2 rfl ?_)
  refine r_iload_n (dc dkX13_meet 2 rfl) rfl (np 3 rfl ?_)
  refine r_iload_n (dc dkX13_meet 3 rfl) rfl (np 4 rfl ?_)
  refine r_iload (dc dkX13_meet 4 rfl) rfl (np 6 rfl ?_)
  refine r_iload (dc dkX13_meet 5 rfl) rfl (np 8 rfl ?_)
  refine r_pS6 (y' := miX13_turn) (dc dkX13_meet 6 rfl) mlX13_192 seX13_turn (Nat.le_of_ble_eq_true rfl) (Nat.le_of_ble_eq_true rfl) (c_X13_turn (by omega)) (np 11 rfl ?_)
  refine r_iload_n (dc dkX13_meet 7 rfl) rfl (np 12 rfl ?_)
  refine r_iload_n (dc dkX13_meet 8 rfl) rfl (np 13 rfl ?_)
  refine r_iload_n (dc dkX13_meet 9 rfl) rfl (np 14 rfl ?_)
  refine r_iload_n (dc dkX13_meet 10 rfl) rfl (np 15 rfl ?_)
  refine r_iload (dc dkX13_meet 11 rfl) rfl (np 17 rfl ?_)
  refine r_iload (dc dkX13_meet 12 rfl) rfl (np 19 rfl ?_)
  refine r_pS6 (y' := miX13_turn) (dc dkX13_meet 13 rfl) mlX13_192 seX13_turn (Nat.le_of_ble_eq_true rfl) (Nat.le_of_ble_eq_true rfl) (c_X13_turn (by omega)) (np 22 rfl ?_)
  refine r_imul (dc dkX13_meet 14 rfl) (np 23 rfl ?_)
  have jj58 : ¬ (crs ax ay bx by_ cx cy * crs ax ay bx by_ dx dy < 0 ∧ crs cx cy dx dy ax ay * crs cx cy dx dy bx by_ < 0) → jR 4 miX13_meet (jP (vI (mtc ax ay bx by_ cx cy dx dy)) σ) 58 [(0, vI ax), (1, vI ay), (2, vI bx), (3, vI by_), (4, vI cx), (5, vI cy), (6, vI dx), (7, vI dy)] [] σ := by
    intro hx
    have jj118 : (onC cx cy ax ay bx by_ ∨ onC dx dy ax ay bx by_ ∨ onC ax ay cx cy dx dy ∨ onC bx by_ cx cy dx dy) → jR 4 miX13_meet (jP (vI (mtc ax ay bx by_ cx cy dx dy)) σ) 118 [(0, vI ax), (1, vI ay), (2, vI bx), (3, vI by_), (4, vI cx), (5, vI cy), (6, vI dx), (7, vI dy)] [] σ := by
      intro hx9
      refine r_iconst (dc dkX13_meet 66 rfl) (np 119 rfl ?_)
      refine r_goto (tgt := 123) (dc dkX13_meet 67 rfl) rfl ?_
      refine r_istore (lv' := [(8, _), (0, _), (1, _), (2, _), (3, _), (4, _), (5, _), (6, _), (7, _)]) (dc dkX13_meet 69 rfl) (Nat.le_of_ble_eq_true rfl) rfl (np 125 rfl ?_)
      refine r_iload (dc dkX13_meet 70 rfl) rfl (np 127 rfl ?_)
      refine r_if_eq (tgt := 134) (dc dkX13_meet 71 rfl) rfl (by first | assumption | decide | omega) (fun h127 => ?_) (fun h127 => (np 130 rfl ?_))
      · exact absurd h127 (by decide)
      refine r_iconst (dc dkX13_meet 72 rfl) (np 131 rfl ?_)
      refine r_goto (tgt := 135) (dc dkX13_meet 73 rfl) rfl ?_
      exact r_iret (dc dkX13_meet 75 rfl) rfl ⟨congrArg (fun z => some (vI z)) (by unfold mtc; rw [if_neg hx, if_pos hx9]), rfl⟩
    refine r_iload (dc dkX13_meet 34 rfl) rfl (np 60 rfl ?_)
    refine r_iload (dc dkX13_meet 35 rfl) rfl (np 62 rfl ?_)
    refine r_iload_n (dc dkX13_meet 36 rfl) rfl (np 63 rfl ?_)
    refine r_iload_n (dc dkX13_meet 37 rfl) rfl (np 64 rfl ?_)
    refine r_iload_n (dc dkX13_meet 38 rfl) rfl (np 65 rfl ?_)
    refine r_iload_n (dc dkX13_meet 39 rfl) rfl (np 66 rfl ?_)
    refine r_pS6 (y' := miX13_isOnSide) (dc dkX13_meet 40 rfl) mlX13_199 seX13_isOnSide (Nat.le_of_ble_eq_true rfl) (Nat.le_of_ble_eq_true rfl) (c_X13_isOnSide (by omega)) (np 69 rfl ?_)
    refine r_bn (tgt := 118) (dc dkX13_meet 41 rfl) rfl (fun h69 => ?_) (fun h69 => (np 72 rfl ?_))
    · skip
      refine r_pick [0, 1, 2, 3, 4, 5, 6, 7] rfl ?_
      exact jj118 (by first | exact Or.inl (by assumption) | exact Or.inr (Or.inl (by assumption)) | exact Or.inr (Or.inr (Or.inl (by assumption))) | exact Or.inr (Or.inr (Or.inr (by assumption))))
    refine r_iload (dc dkX13_meet 42 rfl) rfl (np 74 rfl ?_)
    refine r_iload (dc dkX13_meet 43 rfl) rfl (np 76 rfl ?_)
    refine r_iload_n (dc dkX13_meet 44 rfl) rfl (np 77 rfl ?_)
    refine r_iload_n (dc dkX13_meet 45 rfl) rfl (np 78 rfl ?_)
    refine r_iload_n (dc dkX13_meet 46 rfl) rfl (np 79 rfl ?_)
    refine r_iload_n (dc dkX13_meet 47 rfl) rfl (np 80 rfl ?_)
    refine r_pS6 (y' := miX13_isOnSide) (dc dkX13_meet 48 rfl) mlX13_199 seX13_isOnSide (Nat.le_of_ble_eq_true rfl) (Nat.le_of_ble_eq_true rfl) (c_X13_isOnSide (by omega)) (np 83 rfl ?_)
    refine r_bn (tgt := 118) (dc dkX13_meet 49 rfl) rfl (fun h83 => ?_) (fun h83 => (np 86 rfl ?_))
    · skip
      refine r_pick [0, 1, 2, 3, 4, 5, 6, 7] rfl ?_
      exact jj118 (by first | exact Or.inl (by assumption) | exact Or.inr (Or.inl (by assumption)) | exact Or.inr (Or.inr (Or.inl (by assumption))) | exact Or.inr (Or.inr (Or.inr (by assumption))))
    refine r_iload_n (dc dkX13_meet 50 rfl) rfl (np 87 rfl ?_)
    refine r_iload_n (dc dkX13_meet 51 rfl) rfl (np 88 rfl ?_)
    refine r_iload (dc dkX13_meet 52 rfl) rfl (np 90 rfl ?_)
    refine r_iload (dc dkX13_meet 53 rfl) rfl (np 92 rfl ?_)
    refine r_iload (dc dkX13_meet 54 rfl) rfl (np 94 rfl ?_)
    refine r_iload (dc dkX13_meet 55 rfl) rfl (np 96 rfl ?_)
    refine r_pS6 (y' := miX13_isOnSide) (dc dkX13_meet 56 rfl) mlX13_199 seX13_isOnSide (Nat.le_of_ble_eq_true rfl) (Nat.le_of_ble_eq_true rfl) (c_X13_isOnSide (by omega)) (np 99 rfl ?_)
    refine r_bn (tgt := 118) (dc dkX13_meet 57 rfl) rfl (fun h99 => ?_) (fun h99 => (np 102 rfl ?_))
    · skip
      refine r_pick [0, 1, 2, 3, 4, 5, 6, 7] rfl ?_
      exact jj118 (by first | exact Or.inl (by assumption) | exact Or.inr (Or.inl (by assumption)) | exact Or.inr (Or.inr (Or.inl (by assumption))) | exact Or.inr (Or.inr (Or.inr (by assumption))))
    refine r_iload_n (dc dkX13_meet 58 rfl) rfl (np 103 rfl ?_)
    refine r_iload_n (dc dkX13_meet 59 rfl) rfl (np 104 rfl ?_)
    refine r_iload (dc dkX13_meet 60 rfl) rfl (np 106 rfl ?_)
    refine r_iload (dc dkX13_meet 61 rfl) rfl (np 108 rfl ?_)
    refine r_iload (dc dkX13_meet 62 rfl) rfl (np 110 rfl ?_)
    refine r_iload (dc dkX13_meet 63 rfl) rfl (np 112 rfl ?_)
    refine r_pS6 (y' := miX13_isOnSide) (dc dkX13_meet 64 rfl) mlX13_199 seX13_isOnSide (Nat.le_of_ble_eq_true rfl) (Nat.le_of_ble_eq_true rfl) (c_X13_isOnSide (by omega)) (np 115 rfl ?_)
    refine r_bz (tgt := 122) (dc dkX13_meet 65 rfl) rfl (fun h115 => ?_) (fun h115 => (np 118 rfl ?_))
    · skip
      refine r_iconst (dc dkX13_meet 68 rfl) (np 123 rfl ?_)
      refine r_istore (lv' := [(8, _), (0, _), (1, _), (2, _), (3, _), (4, _), (5, _), (6, _), (7, _)]) (dc dkX13_meet 69 rfl) (Nat.le_of_ble_eq_true rfl) rfl (np 125 rfl ?_)
      refine r_iload (dc dkX13_meet 70 rfl) rfl (np 127 rfl ?_)
      refine r_if_eq (tgt := 134) (dc dkX13_meet 71 rfl) rfl (by first | assumption | decide | omega) (fun h127 => ?_) (fun h127 => (np 130 rfl ?_))
      · skip
        refine r_iconst (dc dkX13_meet 74 rfl) (np 135 rfl ?_)
        exact r_iret (dc dkX13_meet 75 rfl) rfl ⟨congrArg (fun z => some (vI z)) (by unfold mtc; rw [if_neg hx, if_neg (fun q => by rcases q with q | q | q | q <;> contradiction)]), rfl⟩
      exact absurd h127 (by decide)
    refine r_pick [0, 1, 2, 3, 4, 5, 6, 7] rfl ?_
    exact jj118 (by first | exact Or.inl (by assumption) | exact Or.inr (Or.inl (by assumption)) | exact Or.inr (Or.inr (Or.inl (by assumption))) | exact Or.inr (Or.inr (Or.inr (by assumption))))
  refine r_if_ge (tgt := 58) (dc dkX13_meet 15 rfl) rfl (sgn2_R _ _) (fun h23 => ?_) (fun h23 => (np 26 rfl ?_))
  · skip
    refine r_pick [0, 1, 2, 3, 4, 5, 6, 7] rfl ?_
    exact jj58 (fun q => by have q1 := sgn_mul.mpr q.1; have q2 := sgn_mul.mpr q.2; omega)
  refine r_iload (dc dkX13_meet 16 rfl) rfl (np 28 rfl ?_)
  refine r_iload (dc dkX13_meet 17 rfl) rfl (np 30 rfl ?_)
  refine r_iload (dc dkX13_meet 18 rfl) rfl (np 32 rfl ?_)
  refine r_iload (dc dkX13_meet 19 rfl) rfl (np 34 rfl ?_)
  refine r_iload_n (dc dkX13_meet 20 rfl) rfl (np 35 rfl ?_)
  refine r_iload_n (dc dkX13_meet 21 rfl) rfl (np 36 rfl ?_)
  refine r_pS6 (y' := miX13_turn) (dc dkX13_meet 22 rfl) mlX13_192 seX13_turn (Nat.le_of_ble_eq_true rfl) (Nat.le_of_ble_eq_true rfl) (c_X13_turn (by omega)) (np 39 rfl ?_)
  refine r_iload (dc dkX13_meet 23 rfl) rfl (np 41 rfl ?_)
  refine r_iload (dc dkX13_meet 24 rfl) rfl (np 43 rfl ?_)
  refine r_iload (dc dkX13_meet 25 rfl) rfl (np 45 rfl ?_)
  refine r_iload (dc dkX13_meet 26 rfl) rfl (np 47 rfl ?_)
  refine r_iload_n (dc dkX13_meet 27 rfl) rfl (np 48 rfl ?_)
  refine r_iload_n (dc dkX13_meet 28 rfl) rfl (np 49 rfl ?_)
  refine r_pS6 (y' := miX13_turn) (dc dkX13_meet 29 rfl) mlX13_192 seX13_turn (Nat.le_of_ble_eq_true rfl) (Nat.le_of_ble_eq_true rfl) (c_X13_turn (by omega)) (np 52 rfl ?_)
  refine r_imul (dc dkX13_meet 30 rfl) (np 53 rfl ?_)
  refine r_if_ge (tgt := 58) (dc dkX13_meet 31 rfl) rfl (sgn2_R _ _) (fun h53 => ?_) (fun h53 => (np 56 rfl ?_))
  · skip
    refine r_pick [0, 1, 2, 3, 4, 5, 6, 7] rfl ?_
    exact jj58 (fun q => by have q1 := sgn_mul.mpr q.1; have q2 := sgn_mul.mpr q.2; omega)
  refine r_iconst (dc dkX13_meet 32 rfl) (np 57 rfl ?_)
  exact r_iret (dc dkX13_meet 33 rfl) rfl ⟨congrArg (fun z => some (vI z)) (by unfold mtc; rw [if_pos ⟨sgn_mul.mp (by omega), sgn_mul.mp (by omega)⟩]), rfl⟩
set_option maxRecDepth 100000 in
set_option maxHeartbeats 4000000 in
theorem c_X13_cornersOf {σ : jS} {a N : Nat} (ha : jAr a = some (0, N)) (hN : 258 ≤ N) {b : Int} (hb : cB 8 b) : Jp 1 miX13_cornersOf [.ref a, vI b] σ (vI (cn σ a b)) := by
  refine jm_ofF (Po := (jP (vI (cn σ a b)) σ)) (plainFor_of_name (by decide)) (Nat.le_of_ble_eq_true rfl) (lv := [(0, _), (1, _)]) rfl ?_
  refine r_aload_n (dc dkX13_cornersOf 0 rfl) rfl (np 1 rfl ?_)
  refine r_bipush (dc dkX13_cornersOf 1 rfl) bp_105 (np 3 rfl ?_)
  refine r_bipush (dc dkX13_cornersOf 2 rfl) bp_17 (np 5 rfl ?_)
  refine r_iload_n (dc dkX13_cornersOf 3 rfl) rfl (np 6 rfl ?_)
  refine r_imul (dc dkX13_cornersOf 4 rfl) (np 7 rfl ?_)
  refine r_iadd (dc dkX13_cornersOf 5 rfl) (np 8 rfl ?_)
  refine r_iald (dc dkX13_cornersOf 6 rfl) ha (by omega) (np 9 rfl ?_)
  exact r_iret (dc dkX13_cornersOf 7 rfl) rfl ⟨rfl, rfl⟩
set_option maxRecDepth 100000 in
set_option maxHeartbeats 4000000 in
theorem c_X13_xOf {σ : jS} {a N : Nat} (ha : jAr a = some (0, N)) (hN : 258 ≤ N) {b i : Int} (hb : cB 8 b) (hi : cB 7 i) : Jp 1 miX13_xOf [.ref a, vI b, vI i] σ (vI (xa σ a b i)) := by
  refine jm_ofF (Po := (jP (vI (xa σ a b i)) σ)) (plainFor_of_name (by decide)) (Nat.le_of_ble_eq_true rfl) (lv := [(0, _), (1, _), (2, _)]) rfl ?_
  refine r_aload_n (dc dkX13_xOf 0 rfl) rfl (np 1 rfl ?_)
  refine r_bipush (dc dkX13_xOf 1 rfl) bp_105 (np 3 rfl ?_)
  refine r_bipush (dc dkX13_xOf 2 rfl) bp_17 (np 5 rfl ?_)
  refine r_iload_n (dc dkX13_xOf 3 rfl) rfl (np 6 rfl ?_)
  refine r_imul (dc dkX13_xOf 4 rfl) (np 7 rfl ?_)
  refine r_iadd (dc dkX13_xOf 5 rfl) (np 8 rfl ?_)
  refine r_iconst (dc dkX13_xOf 6 rfl) (np 9 rfl ?_)
  refine r_iadd (dc dkX13_xOf 7 rfl) (np 10 rfl ?_)
  refine r_iconst (dc dkX13_xOf 8 rfl) (np 11 rfl ?_)
  refine r_iload_n (dc dkX13_xOf 9 rfl) rfl (np 12 rfl ?_)
  refine r_imul (dc dkX13_xOf 10 rfl) (np 13 rfl ?_)
  refine r_iadd (dc dkX13_xOf 11 rfl) (np 14 rfl ?_)
  refine r_iald (dc dkX13_xOf 12 rfl) ha (by omega) (np 15 rfl ?_)
  exact r_iret (dc dkX13_xOf 13 rfl) rfl ⟨rfl, rfl⟩
set_option maxRecDepth 100000 in
set_option maxHeartbeats 4000000 in
theorem c_X13_yOf {σ : jS} {a N : Nat} (ha : jAr a = some (0, N)) (hN : 258 ≤ N) {b i : Int} (hb : cB 8 b) (hi : cB 7 i) : Jp 1 miX13_yOf [.ref a, vI b, vI i] σ (vI (ya σ a b i)) := by
  refine jm_ofF (Po := (jP (vI (ya σ a b i)) σ)) (plainFor_of_name (by decide)) (Nat.le_of_ble_eq_true rfl) (lv := [(0, _), (1, _), (2, _)]) rfl ?_
  refine r_aload_n (dc dkX13_yOf 0 rfl) rfl (np 1 rfl ?_)
  refine r_bipush (dc dkX13_yOf 1 rfl) bp_105 (np 3 rfl ?_)
  refine r_bipush (dc dkX13_yOf 2 rfl) bp_17 (np 5 rfl ?_)
  refine r_iload_n (dc dkX13_yOf 3 rfl) rfl (np 6 rfl ?_)
  refine r_imul (dc dkX13_yOf 4 rfl) (np 7 rfl ?_)
  refine r_iadd (dc dkX13_yOf 5 rfl) (np 8 rfl ?_)
  refine r_iconst (dc dkX13_yOf 6 rfl) (np 9 rfl ?_)
  refine r_iadd (dc dkX13_yOf 7 rfl) (np 10 rfl ?_)
  refine r_iconst (dc dkX13_yOf 8 rfl) (np 11 rfl ?_)
  refine r_iload_n (dc dkX13_yOf 9 rfl) rfl (np 12 rfl ?_)
  refine r_imul (dc dkX13_yOf 10 rfl) (np 13 rfl ?_)
  refine r_iadd (dc dkX13_yOf 11 rfl) (np 14 rfl ?_)
  refine r_iald (dc dkX13_yOf 12 rfl) ha (by omega) (np 15 rfl ?_)
  exact r_iret (dc dkX13_yOf 13 rfl) rfl ⟨rfl, rfl⟩
theorem em_b {n i : Int} (h : 3 ≤ n ∧ n ≤ 8) : cB 7 (i % n) ∧ i % n < n := by
  have := Int.emod_lt_of_pos i (show 0 < n by omega)
  have := Int.emod_nonneg i (show n ≠ 0 by omega)
  omega
set_option maxRecDepth 100000 in
set_option maxHeartbeats 4000000 in
theorem c_X13_meetSides {σ : jS} {a N : Nat} (ha : jAr a = some (0, N)) (hN : 258 ≤ N) {b i e j : Int} (hb : cB 8 b) (he : cB 8 e) (hv : vB σ a b) (hw : vB σ a e) (hi : 0 ≤ i ∧ i < cn σ a b) (hj : 0 ≤ j ∧ j < cn σ a e) : Jp 5 miX13_meetSides [.ref a, vI b, vI i, vI e, vI j] σ (vI (mt (rP σ a b i) (rP σ a b (i + 1)) (rP σ a e j) (rP σ a e (j + 1)))) := by
  have n1 := hv.1
  have n2 := hw.1
  have e1 := em_b (i := i + 1) n1
  have e2 := em_b (i := j + 1) n2
  have c1 := vB_i hv i
  have c2 := vB_i hv (i + 1)
  have c3 := vB_i hw j
  have c4 := vB_i hw (j + 1)
  rw [Int.emod_eq_of_lt hi.1 hi.2] at c1
  rw [Int.emod_eq_of_lt hj.1 hj.2] at c3
  refine jm_ofF (Po := (jP (vI (mt (rP σ a b i) (rP σ a b (i + 1)) (rP σ a e j) (rP σ a e (j + 1)))) σ)) (plainFor_of_name (by decide)) (Nat.le_of_ble_eq_true rfl) (lv := [(0, _), (1, _), (2, _), (3, _), (4, _)]) rfl ?_
  refine r_iload_n (dc dkX13_meetSides 0 rfl) rfl (np 1 rfl ?_)
  refine r_iconst (dc dkX13_meetSides 1 rfl) (np 2 rfl ?_)
  refine r_iadd (dc dkX13_meetSides 2 rfl) (np 3 rfl ?_)
  refine r_aload_n (dc dkX13_meetSides 3 rfl) rfl (np 4 rfl ?_)
  refine r_iload_n (dc dkX13_meetSides 4 rfl) rfl (np 5 rfl ?_)
  refine r_pS2 (y' := miX13_cornersOf) (dc dkX13_meetSides 5 rfl) mlX13_203 seX13_cornersOf (Nat.le_of_ble_eq_true rfl) (Nat.le_of_ble_eq_true rfl) (c_X13_cornersOf ha hN (by omega)) (np 8 rfl ?_)
  refine r_iremn (dc dkX13_meetSides 6 rfl) (by first | assumption | decide | omega) (by first | assumption | decide | omega) (np 9 rfl ?_)
  refine r_istore (lv' := [(5, _), (0, _), (1, _), (2, _), (3, _), (4, _)]) (dc dkX13_meetSides 7 rfl) (Nat.le_of_ble_eq_true rfl) rfl (np 11 rfl ?_)
  refine r_iload (dc dkX13_meetSides 8 rfl) rfl (np 13 rfl ?_)
  refine r_iconst (dc dkX13_meetSides 9 rfl) (np 14 rfl ?_)
  refine r_iadd (dc dkX13_meetSides 10 rfl) (np 15 rfl ?_)
  refine r_aload_n (dc dkX13_meetSides 11 rfl) rfl (np 16 rfl ?_)
  refine r_iload_n (dc dkX13_meetSides 12 rfl) rfl (np 17 rfl ?_)
  refine r_pS2 (y' := miX13_cornersOf) (dc dkX13_meetSides 13 rfl) mlX13_203 seX13_cornersOf (Nat.le_of_ble_eq_true rfl) (Nat.le_of_ble_eq_true rfl) (c_X13_cornersOf ha hN (by omega)) (np 20 rfl ?_)
  refine r_iremn (dc dkX13_meetSides 14 rfl) (by first | assumption | decide | omega) (by first | assumption | decide | omega) (np 21 rfl ?_)
  refine r_istore (lv' := [(6, _), (5, _), (0, _), (1, _), (2, _), (3, _), (4, _)]) (dc dkX13_meetSides 15 rfl) (Nat.le_of_ble_eq_true rfl) rfl (np 23 rfl ?_)
  refine r_aload_n (dc dkX13_meetSides 16 rfl) rfl (np 24 rfl ?_)
  refine r_iload_n (dc dkX13_meetSides 17 rfl) rfl (np 25 rfl ?_)
  refine r_iload_n (dc dkX13_meetSides 18 rfl) rfl (np 26 rfl ?_)
  refine r_pS3 (y' := miX13_xOf) (dc dkX13_meetSides 19 rfl) mlX13_207 seX13_xOf (Nat.le_of_ble_eq_true rfl) (Nat.le_of_ble_eq_true rfl) (c_X13_xOf ha hN (by omega) (by omega)) (np 29 rfl ?_)
  refine r_aload_n (dc dkX13_meetSides 20 rfl) rfl (np 30 rfl ?_)
  refine r_iload_n (dc dkX13_meetSides 21 rfl) rfl (np 31 rfl ?_)
  refine r_iload_n (dc dkX13_meetSides 22 rfl) rfl (np 32 rfl ?_)
  refine r_pS3 (y' := miX13_yOf) (dc dkX13_meetSides 23 rfl) mlX13_211 seX13_yOf (Nat.le_of_ble_eq_true rfl) (Nat.le_of_ble_eq_true rfl) (c_X13_yOf ha hN (by omega) (by omega)) (np 35 rfl ?_)
  refine r_aload_n (dc dkX13_meetSides 24 rfl) rfl (np 36 rfl ?_)
  refine r_iload_n (dc dkX13_meetSides 25 rfl) rfl (np 37 rfl ?_)
  refine r_iload (dc dkX13_meetSides 26 rfl) rfl (np 39 rfl ?_)
  refine r_pS3 (y' := miX13_xOf) (dc dkX13_meetSides 27 rfl) mlX13_207 seX13_xOf (Nat.le_of_ble_eq_true rfl) (Nat.le_of_ble_eq_true rfl) (c_X13_xOf ha hN (by omega) (by omega)) (np 42 rfl ?_)
  refine r_aload_n (dc dkX13_meetSides 28 rfl) rfl (np 43 rfl ?_)
  refine r_iload_n (dc dkX13_meetSides 29 rfl) rfl (np 44 rfl ?_)
  refine r_iload (dc dkX13_meetSides 30 rfl) rfl (np 46 rfl ?_)
  refine r_pS3 (y' := miX13_yOf) (dc dkX13_meetSides 31 rfl) mlX13_211 seX13_yOf (Nat.le_of_ble_eq_true rfl) (Nat.le_of_ble_eq_true rfl) (c_X13_yOf ha hN (by omega) (by omega)) (np 49 rfl ?_)
  refine r_aload_n (dc dkX13_meetSides 32 rfl) rfl (np 50 rfl ?_)
  refine r_iload_n (dc dkX13_meetSides 33 rfl) rfl (np 51 rfl ?_)
  refine r_iload (dc dkX13_meetSides 34 rfl) rfl (np 53 rfl ?_)
  refine r_pS3 (y' := miX13_xOf) (dc dkX13_meetSides 35 rfl) mlX13_207 seX13_xOf (Nat.le_of_ble_eq_true rfl) (Nat.le_of_ble_eq_true rfl) (c_X13_xOf ha hN (by omega) (by omega)) (np 56 rfl ?_)
  refine r_aload_n (dc dkX13_meetSides 36 rfl) rfl (np 57 rfl ?_)
  refine r_iload_n (dc dkX13_meetSides 37 rfl) rfl (np 58 rfl ?_)
  refine r_iload (dc dkX13_meetSides 38 rfl) rfl (np 60 rfl ?_)
  refine r_pS3 (y' := miX13_yOf) (dc dkX13_meetSides 39 rfl) mlX13_211 seX13_yOf (Nat.le_of_ble_eq_true rfl) (Nat.le_of_ble_eq_true rfl) (c_X13_yOf ha hN (by omega) (by omega)) (np 63 rfl ?_)
  refine r_aload_n (dc dkX13_meetSides 40 rfl) rfl (np 64 rfl ?_)
  refine r_iload_n (dc dkX13_meetSides 41 rfl) rfl (np 65 rfl ?_)
  refine r_iload (dc dkX13_meetSides 42 rfl) rfl (np 67 rfl ?_)
  refine r_pS3 (y' := miX13_xOf) (dc dkX13_meetSides 43 rfl) mlX13_207 seX13_xOf (Nat.le_of_ble_eq_true rfl) (Nat.le_of_ble_eq_true rfl) (c_X13_xOf ha hN (by omega) (by omega)) (np 70 rfl ?_)
  refine r_aload_n (dc dkX13_meetSides 44 rfl) rfl (np 71 rfl ?_)
  refine r_iload_n (dc dkX13_meetSides 45 rfl) rfl (np 72 rfl ?_)
  refine r_iload (dc dkX13_meetSides 46 rfl) rfl (np 74 rfl ?_)
  refine r_pS3 (y' := miX13_yOf) (dc dkX13_meetSides 47 rfl) mlX13_211 seX13_yOf (Nat.le_of_ble_eq_true rfl) (Nat.le_of_ble_eq_true rfl) (c_X13_yOf ha hN (by omega) (by omega)) (np 77 rfl ?_)
  refine r_pS8 (y' := miX13_meet) (dc dkX13_meetSides 48 rfl) mlX13_214 seX13_meet (Nat.le_of_ble_eq_true rfl) (Nat.le_of_ble_eq_true rfl) (c_X13_meet (by omega)) (np 80 rfl ?_)
  exact r_iret (dc dkX13_meetSides 49 rfl) rfl ⟨congrArg (fun z => some (vI z)) (by rw [mt_mtc, rP_x hv, rP_y hv, rP_x hv, rP_y hv, rP_x hw, rP_y hw, rP_x hw, rP_y hw, Int.emod_eq_of_lt hi.1 hi.2, Int.emod_eq_of_lt hj.1 hj.2]), rfl⟩
set_option maxRecDepth 100000 in
set_option maxHeartbeats 4000000 in
theorem c_X13_isPlace {σ : jS} {a N : Nat} (ha : jAr a = some (0, N)) (hN : 258 ≤ N) (hH : okH σ a) {x y : Int} (hx : iR x) (hy : iR y) : Jp 1 miX13_isPlace [.ref a, vI x, vI y] σ (vI (bI (0 ≤ x ∧ 0 ≤ y ∧ x < σ a 0 ∧ y < σ a 1))) := by
  have w1 := hH.1
  have w2 := hH.2.1
  refine jm_ofF (Po := (jP (vI (bI (0 ≤ x ∧ 0 ≤ y ∧ x < σ a 0 ∧ y < σ a 1))) σ)) (plainFor_of_name (by decide)) (Nat.le_of_ble_eq_true rfl) (lv := [(0, _), (1, _), (2, _)]) rfl ?_
  refine r_iload_n (dc dkX13_isPlace 0 rfl) rfl (np 1 rfl ?_)
  refine r_if_lt (tgt := 26) (dc dkX13_isPlace 1 rfl) rfl (by first | assumption | decide | omega) (fun h1 => ?_) (fun h1 => (np 4 rfl ?_))
  · skip
    refine r_iconst (dc dkX13_isPlace 16 rfl) (np 27 rfl ?_)
    exact r_zret (dc dkX13_isPlace 17 rfl) rfl (by first | exact Or.inl rfl | exact Or.inr rfl) ⟨congrArg (fun z => some (vI z)) (by first | exact (bI_t (by omega)).symm | exact (bI_f (by omega)).symm), rfl⟩
  refine r_iload_n (dc dkX13_isPlace 2 rfl) rfl (np 5 rfl ?_)
  refine r_if_lt (tgt := 26) (dc dkX13_isPlace 3 rfl) rfl (by first | assumption | decide | omega) (fun h5 => ?_) (fun h5 => (np 8 rfl ?_))
  · skip
    refine r_iconst (dc dkX13_isPlace 16 rfl) (np 27 rfl ?_)
    exact r_zret (dc dkX13_isPlace 17 rfl) rfl (by first | exact Or.inl rfl | exact Or.inr rfl) ⟨congrArg (fun z => some (vI z)) (by first | exact (bI_t (by omega)).symm | exact (bI_f (by omega)).symm), rfl⟩
  refine r_iload_n (dc dkX13_isPlace 4 rfl) rfl (np 9 rfl ?_)
  refine r_aload_n (dc dkX13_isPlace 5 rfl) rfl (np 10 rfl ?_)
  refine r_iconst (dc dkX13_isPlace 6 rfl) (np 11 rfl ?_)
  refine r_iald (dc dkX13_isPlace 7 rfl) ha (by omega) (np 12 rfl ?_)
  refine r_icmp_ge (tgt := 26) (dc dkX13_isPlace 8 rfl) rfl (by first | assumption | decide | omega) (by first | assumption | decide | omega) (fun h12 => ?_) (fun h12 => (np 15 rfl ?_))
  · skip
    refine r_iconst (dc dkX13_isPlace 16 rfl) (np 27 rfl ?_)
    exact r_zret (dc dkX13_isPlace 17 rfl) rfl (by first | exact Or.inl rfl | exact Or.inr rfl) ⟨congrArg (fun z => some (vI z)) (by first | exact (bI_t (by omega)).symm | exact (bI_f (by omega)).symm), rfl⟩
  refine r_iload_n (dc dkX13_isPlace 9 rfl) rfl (np 16 rfl ?_)
  refine r_aload_n (dc dkX13_isPlace 10 rfl) rfl (np 17 rfl ?_)
  refine r_iconst (dc dkX13_isPlace 11 rfl) (np 18 rfl ?_)
  refine r_iald (dc dkX13_isPlace 12 rfl) ha (by omega) (np 19 rfl ?_)
  refine r_icmp_ge (tgt := 26) (dc dkX13_isPlace 13 rfl) rfl (by first | assumption | decide | omega) (by first | assumption | decide | omega) (fun h19 => ?_) (fun h19 => (np 22 rfl ?_))
  · skip
    refine r_iconst (dc dkX13_isPlace 16 rfl) (np 27 rfl ?_)
    exact r_zret (dc dkX13_isPlace 17 rfl) rfl (by first | exact Or.inl rfl | exact Or.inr rfl) ⟨congrArg (fun z => some (vI z)) (by first | exact (bI_t (by omega)).symm | exact (bI_f (by omega)).symm), rfl⟩
  refine r_iconst (dc dkX13_isPlace 14 rfl) (np 23 rfl ?_)
  refine r_goto (tgt := 27) (dc dkX13_isPlace 15 rfl) rfl ?_
  exact r_zret (dc dkX13_isPlace 17 rfl) rfl (by first | exact Or.inl rfl | exact Or.inr rfl) ⟨congrArg (fun z => some (vI z)) (by first | exact (bI_t (by omega)).symm | exact (bI_f (by omega)).symm), rfl⟩
set_option maxRecDepth 100000 in
set_option maxHeartbeats 4000000 in
theorem c_X13_isPeg {σ : jS} {a N : Nat} (ha : jAr a = some (0, N)) (hN : 258 ≤ N) (hH : okH σ a) {x y : Int} (hx : iR x) (hy : iR y) : Jp 2 miX13_isPeg [.ref a, vI x, vI y] σ (vI (bI ((0 ≤ x ∧ 0 ≤ y ∧ x < σ a 0 ∧ y < σ a 1) ∧ σ a (5 + 10 * y + x) = 0))) := by
  have w1 := hH.1
  have w2 := hH.2.1
  refine jm_ofF (Po := (jP (vI (bI ((0 ≤ x ∧ 0 ≤ y ∧ x < σ a 0 ∧ y < σ a 1) ∧ σ a (5 + 10 * y + x) = 0))) σ)) (plainFor_of_name (by decide)) (Nat.le_of_ble_eq_true rfl) (lv := [(0, _), (1, _), (2, _)]) rfl ?_
  refine r_aload_n (dc dkX13_isPeg 0 rfl) rfl (np 1 rfl ?_)
  refine r_iload_n (dc dkX13_isPeg 1 rfl) rfl (np 2 rfl ?_)
  refine r_iload_n (dc dkX13_isPeg 2 rfl) rfl (np 3 rfl ?_)
  refine r_pS3 (y' := miX13_isPlace) (dc dkX13_isPeg 3 rfl) mlX13_218 seX13_isPlace (Nat.le_of_ble_eq_true rfl) (Nat.le_of_ble_eq_true rfl) (c_X13_isPlace ha hN (by assumption) (by omega) (by omega)) (np 6 rfl ?_)
  refine r_bz (tgt := 26) (dc dkX13_isPeg 4 rfl) rfl (fun h6 => ?_) (fun h6 => (np 9 rfl ?_))
  · skip
    refine r_iconst (dc dkX13_isPeg 17 rfl) (np 27 rfl ?_)
    exact r_zret (dc dkX13_isPeg 18 rfl) rfl (by first | exact Or.inl rfl | exact Or.inr rfl) ⟨congrArg (fun z => some (vI z)) (by first | exact (bI_t ⟨h6, h19⟩).symm | exact (bI_f (fun q => h6 q.1)).symm | exact (bI_f (fun q => h19 q.2)).symm), rfl⟩
  refine r_aload_n (dc dkX13_isPeg 5 rfl) rfl (np 10 rfl ?_)
  refine r_iconst (dc dkX13_isPeg 6 rfl) (np 11 rfl ?_)
  refine r_bipush (dc dkX13_isPeg 7 rfl) bp_10 (np 13 rfl ?_)
  refine r_iload_n (dc dkX13_isPeg 8 rfl) rfl (np 14 rfl ?_)
  refine r_imul (dc dkX13_isPeg 9 rfl) (np 15 rfl ?_)
  refine r_iadd (dc dkX13_isPeg 10 rfl) (np 16 rfl ?_)
  refine r_iload_n (dc dkX13_isPeg 11 rfl) rfl (np 17 rfl ?_)
  refine r_iadd (dc dkX13_isPeg 12 rfl) (np 18 rfl ?_)
  refine r_iald (dc dkX13_isPeg 13 rfl) ha (by omega) (np 19 rfl ?_)
  refine r_if_ne (tgt := 26) (dc dkX13_isPeg 14 rfl) rfl (by have := hH.2.2.2.2.2 (10 * y + x) (by omega) (by omega); rw [show 5 + (10 * y + x) = 5 + 10 * y + x by omega] at this; omega) (fun h19 => ?_) (fun h19 => (np 22 rfl ?_))
  · skip
    refine r_iconst (dc dkX13_isPeg 17 rfl) (np 27 rfl ?_)
    exact r_zret (dc dkX13_isPeg 18 rfl) rfl (by first | exact Or.inl rfl | exact Or.inr rfl) ⟨congrArg (fun z => some (vI z)) (by first | exact (bI_t ⟨h6, h19⟩).symm | exact (bI_f (fun q => h6 q.1)).symm | exact (bI_f (fun q => h19 q.2)).symm), rfl⟩
  refine r_iconst (dc dkX13_isPeg 15 rfl) (np 23 rfl ?_)
  refine r_goto (tgt := 27) (dc dkX13_isPeg 16 rfl) rfl ?_
  exact r_zret (dc dkX13_isPeg 18 rfl) rfl (by first | exact Or.inl rfl | exact Or.inr rfl) ⟨congrArg (fun z => some (vI z)) (by first | exact (bI_t ⟨h6, h19⟩).symm | exact (bI_f (fun q => h6 q.1)).symm | exact (bI_f (fun q => h19 q.2)).symm), rfl⟩
set_option maxRecDepth 100000 in
set_option maxHeartbeats 4000000 in
theorem c_X13_turnAt {σ : jS} {a N : Nat} (ha : jAr a = some (0, N)) (hN : 258 ≤ N) {b i : Int} (hb : cB 8 b) (hv : vB σ a b) (hi : 0 ≤ i ∧ i < cn σ a b) : Jp 3 miX13_turnAt [.ref a, vI b, vI i] σ (vI (sgn (tn (rP σ a b (i + cn σ a b - 1)) (rP σ a b i) (rP σ a b (i + 1))))) := by
  have n1 := hv.1
  have e1 := em_b (i := i + 1) n1
  have e2 := em_b (i := i + cn σ a b - 1) n1
  have c1 := vB_i hv i
  have c2 := vB_i hv (i + 1)
  have c3 := vB_i hv (i + cn σ a b - 1)
  rw [Int.emod_eq_of_lt hi.1 hi.2] at c1
  refine jm_ofF (Po := (jP (vI (sgn (tn (rP σ a b (i + cn σ a b - 1)) (rP σ a b i) (rP σ a b (i + 1))))) σ)) (plainFor_of_name (by decide)) (Nat.le_of_ble_eq_true rfl) (lv := [(0, _), (1, _), (2, _)]) rfl ?_
  refine r_aload_n (dc dkX13_turnAt 0 rfl) rfl (np 1 rfl ?_)
  refine r_iload_n (dc dkX13_turnAt 1 rfl) rfl (np 2 rfl ?_)
  refine r_pS2 (y' := miX13_cornersOf) (dc dkX13_turnAt 2 rfl) mlX13_203 seX13_cornersOf (Nat.le_of_ble_eq_true rfl) (Nat.le_of_ble_eq_true rfl) (c_X13_cornersOf ha hN (by omega)) (np 5 rfl ?_)
  refine r_istore_n (lv' := [(3, _), (0, _), (1, _), (2, _)]) (dc dkX13_turnAt 3 rfl) (Nat.le_of_ble_eq_true rfl) rfl (np 6 rfl ?_)
  refine r_iload_n (dc dkX13_turnAt 4 rfl) rfl (np 7 rfl ?_)
  refine r_iload_n (dc dkX13_turnAt 5 rfl) rfl (np 8 rfl ?_)
  refine r_iadd (dc dkX13_turnAt 6 rfl) (np 9 rfl ?_)
  refine r_iconst (dc dkX13_turnAt 7 rfl) (np 10 rfl ?_)
  refine r_isub (dc dkX13_turnAt 8 rfl) (np 11 rfl ?_)
  refine r_iload_n (dc dkX13_turnAt 9 rfl) rfl (np 12 rfl ?_)
  refine r_iremn (dc dkX13_turnAt 10 rfl) (by first | assumption | decide | omega) (by first | assumption | decide | omega) (np 13 rfl ?_)
  refine r_istore (lv' := [(4, _), (3, _), (0, _), (1, _), (2, _)]) (dc dkX13_turnAt 11 rfl) (Nat.le_of_ble_eq_true rfl) rfl (np 15 rfl ?_)
  refine r_iload_n (dc dkX13_turnAt 12 rfl) rfl (np 16 rfl ?_)
  refine r_iconst (dc dkX13_turnAt 13 rfl) (np 17 rfl ?_)
  refine r_iadd (dc dkX13_turnAt 14 rfl) (np 18 rfl ?_)
  refine r_iload_n (dc dkX13_turnAt 15 rfl) rfl (np 19 rfl ?_)
  refine r_iremn (dc dkX13_turnAt 16 rfl) (by first | assumption | decide | omega) (by first | assumption | decide | omega) (np 20 rfl ?_)
  refine r_istore (lv' := [(5, _), (4, _), (3, _), (0, _), (1, _), (2, _)]) (dc dkX13_turnAt 17 rfl) (Nat.le_of_ble_eq_true rfl) rfl (np 22 rfl ?_)
  refine r_aload_n (dc dkX13_turnAt 18 rfl) rfl (np 23 rfl ?_)
  refine r_iload_n (dc dkX13_turnAt 19 rfl) rfl (np 24 rfl ?_)
  refine r_iload (dc dkX13_turnAt 20 rfl) rfl (np 26 rfl ?_)
  refine r_pS3 (y' := miX13_xOf) (dc dkX13_turnAt 21 rfl) mlX13_207 seX13_xOf (Nat.le_of_ble_eq_true rfl) (Nat.le_of_ble_eq_true rfl) (c_X13_xOf ha hN (by omega) (by omega)) (np 29 rfl ?_)
  refine r_aload_n (dc dkX13_turnAt 22 rfl) rfl (np 30 rfl ?_)
  refine r_iload_n (dc dkX13_turnAt 23 rfl) rfl (np 31 rfl ?_)
  refine r_iload (dc dkX13_turnAt 24 rfl) rfl (np 33 rfl ?_)
  refine r_pS3 (y' := miX13_yOf) (dc dkX13_turnAt 25 rfl) mlX13_211 seX13_yOf (Nat.le_of_ble_eq_true rfl) (Nat.le_of_ble_eq_true rfl) (c_X13_yOf ha hN (by omega) (by omega)) (np 36 rfl ?_)
  refine r_aload_n (dc dkX13_turnAt 26 rfl) rfl (np 37 rfl ?_)
  refine r_iload_n (dc dkX13_turnAt 27 rfl) rfl (np 38 rfl ?_)
  refine r_iload_n (dc dkX13_turnAt 28 rfl) rfl (np 39 rfl ?_)
  refine r_pS3 (y' := miX13_xOf) (dc dkX13_turnAt 29 rfl) mlX13_207 seX13_xOf (Nat.le_of_ble_eq_true rfl) (Nat.le_of_ble_eq_true rfl) (c_X13_xOf ha hN (by omega) (by omega)) (np 42 rfl ?_)
  refine r_aload_n (dc dkX13_turnAt 30 rfl) rfl (np 43 rfl ?_)
  refine r_iload_n (dc dkX13_turnAt 31 rfl) rfl (np 44 rfl ?_)
  refine r_iload_n (dc dkX13_turnAt 32 rfl) rfl (np 45 rfl ?_)
  refine r_pS3 (y' := miX13_yOf) (dc dkX13_turnAt 33 rfl) mlX13_211 seX13_yOf (Nat.le_of_ble_eq_true rfl) (Nat.le_of_ble_eq_true rfl) (c_X13_yOf ha hN (by omega) (by omega)) (np 48 rfl ?_)
  refine r_aload_n (dc dkX13_turnAt 34 rfl) rfl (np 49 rfl ?_)
  refine r_iload_n (dc dkX13_turnAt 35 rfl) rfl (np 50 rfl ?_)
  refine r_iload (dc dkX13_turnAt 36 rfl) rfl (np 52 rfl ?_)
  refine r_pS3 (y' := miX13_xOf) (dc dkX13_turnAt 37 rfl) mlX13_207 seX13_xOf (Nat.le_of_ble_eq_true rfl) (Nat.le_of_ble_eq_true rfl) (c_X13_xOf ha hN (by omega) (by omega)) (np 55 rfl ?_)
  refine r_aload_n (dc dkX13_turnAt 38 rfl) rfl (np 56 rfl ?_)
  refine r_iload_n (dc dkX13_turnAt 39 rfl) rfl (np 57 rfl ?_)
  refine r_iload (dc dkX13_turnAt 40 rfl) rfl (np 59 rfl ?_)
  refine r_pS3 (y' := miX13_yOf) (dc dkX13_turnAt 41 rfl) mlX13_211 seX13_yOf (Nat.le_of_ble_eq_true rfl) (Nat.le_of_ble_eq_true rfl) (c_X13_yOf ha hN (by omega) (by omega)) (np 62 rfl ?_)
  refine r_pS6 (y' := miX13_turn) (dc dkX13_turnAt 42 rfl) mlX13_192 seX13_turn (Nat.le_of_ble_eq_true rfl) (Nat.le_of_ble_eq_true rfl) (c_X13_turn (by omega)) (np 65 rfl ?_)
  exact r_iret (dc dkX13_turnAt 43 rfl) rfl ⟨congrArg (fun z => some (vI z)) (by rw [tn, rP_x hv, rP_y hv, rP_x hv, rP_y hv, rP_x hv, rP_y hv, Int.emod_eq_of_lt hi.1 hi.2]), rfl⟩
set_option maxRecDepth 100000 in
set_option maxHeartbeats 4000000 in
theorem c_X13_meetsOther {σ : jS} {a N : Nat} (ha : jAr a = some (0, N)) (hN : 258 ≤ N) {b e : Int} (hb : cB 8 b) (he : cB 8 e) (hv : vB σ a b) (hw : vB σ a e) : Jp 6 miX13_meetsOther [.ref a, vI b, vI e] σ (vI (bI (∃ i j, (0 ≤ i ∧ i < cn σ a b) ∧ (0 ≤ j ∧ j < cn σ a e) ∧ 0 < mt (rP σ a b i) (rP σ a b (i + 1)) (rP σ a e j) (rP σ a e (j + 1))))) := by
  have n1 := hv.1
  have n2 := hw.1
  refine jm_ofF (Po := (jP (vI (bI (∃ i j, (0 ≤ i ∧ i < cn σ a b) ∧ (0 ≤ j ∧ j < cn σ a e) ∧ 0 < mt (rP σ a b i) (rP σ a b (i + 1)) (rP σ a e j) (rP σ a e (j + 1))))) σ)) (plainFor_of_name (by decide)) (Nat.le_of_ble_eq_true rfl) (lv := [(0, _), (1, _), (2, _)]) rfl ?_
  refine r_iconst (dc dkX13_meetsOther 0 rfl) (np 1 rfl ?_)
  refine r_istore_n (lv' := [(3, _), (0, _), (1, _), (2, _)]) (dc dkX13_meetsOther 1 rfl) (Nat.le_of_ble_eq_true rfl) rfl (np 2 rfl ?_)
  refine r_pick [1, 2, 3, 0] (lv' := [(0, _), (1, _), (2, _), (3, _)]) rfl ?_
  refine jlp1 (P := fun (i : Int) => jR _ _ _ 2 [(0, .ref a), (1, vI b), (2, vI e), (3, vI i)] [] σ) (I := fun (i : Int) => 0 ≤ i ∧ i ≤ cn σ a b ∧ ∀ z j, 0 ≤ z → z < i → 0 ≤ j → j < cn σ a e → ¬ 0 < mt (rP σ a b z) (rP σ a b (z + 1)) (rP σ a e j) (rP σ a e (j + 1))) (fun (i : Int) => (cn σ a b - i).toNat) ?_ _ ⟨by omega, by omega, fun _ _ _ _ => by omega⟩
  intro i hI2 ih2
  refine r_iload_n (dc dkX13_meetsOther 2 rfl) rfl (np 3 rfl ?_)
  refine r_aload_n (dc dkX13_meetsOther 3 rfl) rfl (np 4 rfl ?_)
  refine r_iload_n (dc dkX13_meetsOther 4 rfl) rfl (np 5 rfl ?_)
  refine r_pS2 (y' := miX13_cornersOf) (dc dkX13_meetsOther 5 rfl) mlX13_203 seX13_cornersOf (Nat.le_of_ble_eq_true rfl) (Nat.le_of_ble_eq_true rfl) (c_X13_cornersOf ha hN (by omega)) (np 8 rfl ?_)
  refine r_icmp_ge (tgt := 50) (dc dkX13_meetsOther 6 rfl) rfl (by first | assumption | decide | omega) (by first | assumption | decide | omega) (fun h8 => ?_) (fun h8 => (np 11 rfl ?_))
  · skip
    refine r_iconst (dc dkX13_meetsOther 27 rfl) (np 51 rfl ?_)
    exact r_zret (dc dkX13_meetsOther 28 rfl) rfl (by first | exact Or.inl rfl | exact Or.inr rfl) ⟨congrArg (fun z => some (vI z)) ((bI_f (fun ⟨z, q, g0, g1, g2⟩ => hI2.2.2 z q g0.1 (by omega) g1.1 g1.2 g2)).symm), rfl⟩
  refine r_iconst (dc dkX13_meetsOther 7 rfl) (np 12 rfl ?_)
  refine r_istore (lv' := [(4, _), (0, _), (1, _), (2, _), (3, _)]) (dc dkX13_meetsOther 8 rfl) (Nat.le_of_ble_eq_true rfl) rfl (np 14 rfl ?_)
  refine r_pick [1, 2, 3, 4, 0] (lv' := [(0, _), (1, _), (2, _), (3, _), (4, _)]) rfl ?_
  refine jlp1 (P := fun (j : Int) => jR _ _ _ 14 [(0, .ref a), (1, vI b), (2, vI e), (3, vI i), (4, vI j)] [] σ) (I := fun (j : Int) => 0 ≤ j ∧ j ≤ cn σ a e ∧ ∀ q, 0 ≤ q → q < j → ¬ 0 < mt (rP σ a b i) (rP σ a b (i + 1)) (rP σ a e q) (rP σ a e (q + 1))) (fun (j : Int) => (cn σ a e - j).toNat) ?_ _ ⟨by omega, by omega, fun _ _ => by omega⟩
  intro j hI14 ih14
  refine r_iload (dc dkX13_meetsOther 9 rfl) rfl (np 16 rfl ?_)
  refine r_aload_n (dc dkX13_meetsOther 10 rfl) rfl (np 17 rfl ?_)
  refine r_iload_n (dc dkX13_meetsOther 11 rfl) rfl (np 18 rfl ?_)
  refine r_pS2 (y' := miX13_cornersOf) (dc dkX13_meetsOther 12 rfl) mlX13_203 seX13_cornersOf (Nat.le_of_ble_eq_true rfl) (Nat.le_of_ble_eq_true rfl) (c_X13_cornersOf ha hN (by omega)) (np 21 rfl ?_)
  refine r_icmp_ge (tgt := 44) (dc dkX13_meetsOther 13 rfl) rfl (by first | assumption | decide | omega) (by first | assumption | decide | omega) (fun h21 => ?_) (fun h21 => (np 24 rfl ?_))
  · skip
    refine r_iinc (lv' := [(3, _), (0, _), (1, _), (2, _), (4, _)]) (dc dkX13_meetsOther 25 rfl) (Nat.le_of_ble_eq_true rfl) rfl rfl (np 47 rfl ?_)
    refine r_goto (tgt := 2) (dc dkX13_meetsOther 26 rfl) rfl ?_
    refine r_pick [1, 2, 3, 0] rfl ?_
    exact ih2 _ ⟨by omega, by omega, fun z q g0 g1 g2 g3 => by rcases (show z < i ∨ z = i by omega) with r | r; exact hI2.2.2 z q g0 r g2 g3; subst r; exact hI14.2.2 q g2 (by omega)⟩ (by omega)
  refine r_aload_n (dc dkX13_meetsOther 14 rfl) rfl (np 25 rfl ?_)
  refine r_iload_n (dc dkX13_meetsOther 15 rfl) rfl (np 26 rfl ?_)
  refine r_iload_n (dc dkX13_meetsOther 16 rfl) rfl (np 27 rfl ?_)
  refine r_iload_n (dc dkX13_meetsOther 17 rfl) rfl (np 28 rfl ?_)
  refine r_iload (dc dkX13_meetsOther 18 rfl) rfl (np 30 rfl ?_)
  refine r_pS5 (y' := miX13_meetSides) (dc dkX13_meetsOther 19 rfl) mlX13_222 seX13_meetSides (Nat.le_of_ble_eq_true rfl) (Nat.le_of_ble_eq_true rfl) (c_X13_meetSides ha hN (by omega) (by omega) (by assumption) (by assumption) (by omega) (by omega)) (np 33 rfl ?_)
  refine r_if_le (tgt := 38) (dc dkX13_meetsOther 20 rfl) rfl (by have := mt_b (rP σ a b i) (rP σ a b (i + 1)) (rP σ a e j) (rP σ a e (j + 1)); omega) (fun h33 => ?_) (fun h33 => (np 36 rfl ?_))
  · skip
    refine r_iinc (lv' := [(4, _), (0, _), (1, _), (2, _), (3, _)]) (dc dkX13_meetsOther 23 rfl) (Nat.le_of_ble_eq_true rfl) rfl rfl (np 41 rfl ?_)
    refine r_goto (tgt := 14) (dc dkX13_meetsOther 24 rfl) rfl ?_
    refine r_pick [1, 2, 3, 4, 0] rfl ?_
    exact ih14 _ ⟨by omega, by omega, fun q g0 g1 => by rcases (show q < j ∨ q = j by omega) with r | r; exact hI14.2.2 q g0 r; subst r; omega⟩ (by omega)
  refine r_iconst (dc dkX13_meetsOther 21 rfl) (np 37 rfl ?_)
  exact r_zret (dc dkX13_meetsOther 22 rfl) rfl (by first | exact Or.inl rfl | exact Or.inr rfl) ⟨congrArg (fun z => some (vI z)) ((bI_t ⟨i, j, by omega, by omega, h33⟩).symm), rfl⟩
set_option maxRecDepth 100000 in
set_option maxHeartbeats 4000000 in
theorem c_X13_findIn {σ : jS} {a N : Nat} (ha : jAr a = some (1, N)) (hN : 8 ≤ N) {m w : Int} (hm : cB 8 m) (hl : ∀ j, 0 ≤ j → j < 8 → lR (σ a j)) (hw : lR w) : Jp 1 miX13_findIn [.ref a, vI m, vL w] σ (vI (fi (fun b => σ a b = w) m)) := by
  refine jm_ofF (Po := (jP (vI (fi (fun b => σ a b = w) m)) σ)) (plainFor_of_name (by decide)) (Nat.le_of_ble_eq_true rfl) (lv := [(0, _), (1, _), (2, _)]) rfl ?_
  refine r_iconst (dc dkX13_findIn 0 rfl) (np 1 rfl ?_)
  refine r_istore (lv' := [(4, _), (0, _), (1, _), (2, _)]) (dc dkX13_findIn 1 rfl) (Nat.le_of_ble_eq_true rfl) rfl (np 3 rfl ?_)
  refine r_pick [1, 2, 3, 0] (lv' := [(0, _), (1, _), (2, _), (4, _)]) rfl ?_
  refine jlp1 (P := fun (i : Int) => jR _ _ _ 3 [(0, .ref a), (1, vI m), (2, vL w), (4, vI i)] [] σ) (I := fun (i : Int) => 0 ≤ i ∧ i ≤ m ∧ fi (fun b => σ a b = w) m = fiF (fun b => σ a b = w) (m - i).toNat i) (fun (i : Int) => (m - i).toNat) ?_ _ ⟨by omega, by omega, fi_def _ _⟩
  intro i hI3 ih3
  refine r_iload (dc dkX13_findIn 2 rfl) rfl (np 5 rfl ?_)
  refine r_iload_n (dc dkX13_findIn 3 rfl) rfl (np 6 rfl ?_)
  refine r_icmp_ge (tgt := 27) (dc dkX13_findIn 4 rfl) rfl (by first | assumption | decide | omega) (by first | assumption | decide | omega) (fun h6 => ?_) (fun h6 => (np 9 rfl ?_))
  · skip
    refine r_iconst (dc dkX13_findIn 15 rfl) (np 28 rfl ?_)
    exact r_iret (dc dkX13_findIn 16 rfl) rfl ⟨congrArg (fun z => some (vI z)) (by rw [hI3.2.2, fiF_e (by omega)]), rfl⟩
  refine r_aload_n (dc dkX13_findIn 5 rfl) rfl (np 10 rfl ?_)
  refine r_iload (dc dkX13_findIn 6 rfl) rfl (np 12 rfl ?_)
  refine r_lald (dc dkX13_findIn 7 rfl) ha (by omega) (np 13 rfl ?_)
  refine r_lload_n (dc dkX13_findIn 8 rfl) rfl (np 14 rfl ?_)
  refine r_lcmp (dc dkX13_findIn 9 rfl) (hl i (by omega) (by omega)) hw (np 15 rfl ?_)
  refine r_if_ne (tgt := 21) (dc dkX13_findIn 10 rfl) rfl (by unfold jcmp; omega) (fun h15 => ?_) (fun h15 => (np 18 rfl ?_))
  · skip
    replace h15 : ¬ σ a i = w := by unfold jcmp at h15; omega
    refine r_iinc (lv' := [(4, _), (0, _), (1, _), (2, _)]) (dc dkX13_findIn 13 rfl) (Nat.le_of_ble_eq_true rfl) rfl rfl (np 24 rfl ?_)
    refine r_goto (tgt := 3) (dc dkX13_findIn 14 rfl) rfl ?_
    refine r_pick [1, 2, 3, 0] rfl ?_
    exact ih3 _ ⟨by omega, by omega, by rw [hI3.2.2, fiF_n (P := fun b => σ a b = w) (by omega) h15]⟩ (by omega)
  replace h15 : σ a i = w := by unfold jcmp at h15; omega
  refine r_iload (dc dkX13_findIn 11 rfl) rfl (np 20 rfl ?_)
  exact r_iret (dc dkX13_findIn 12 rfl) rfl ⟨congrArg (fun z => some (vI z)) (by rw [hI3.2.2, fiF_t (P := fun b => σ a b = w) (by omega) h15]), rfl⟩
