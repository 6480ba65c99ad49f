/-! ===== forms ===== -/
def oX (p x : Int) : Int := if 4 ≤ p then -x else x
def tX (p x y : Int) : Int := if p % 4 = 0 then oX p x else if p % 4 = 1 then -y else if p % 4 = 2 then -(oX p x) else y
def tY (p x y : Int) : Int := if p % 4 = 0 then y else if p % 4 = 1 then oX p x else if p % 4 = 2 then -y else -(oX p x)
def ovr (p : Int) : Int := if 4 ≤ p then 4 else 0
theorem tX_s {k o x y : Int} (hk : k = 0 ∨ k = 1 ∨ k = 2) (ho : o = 0 ∨ o = 4) : tX (k + 1 + o) x y = -(tY (k + o) x y) ∧ tY (k + 1 + o) x y = tX (k + o) x y := by
  rcases hk with rfl | rfl | rfl <;> rcases ho with rfl | rfl <;> simp [tX, tY, oX]
theorem tX_b {p x y : Int} (hx : 0 ≤ x ∧ x ≤ 9) (hy : 0 ≤ y ∧ y ≤ 9) : (-9 ≤ tX p x y ∧ tX p x y ≤ 9) ∧ (-9 ≤ tY p x y ∧ tY p x y ≤ 9) := by
  unfold tX tY oX
  split <;> (try split) <;> (try split) <;> (try split) <;> omega
def gX (P : Int → Int) (p i : Int) : Int := tX p (P i % 10) (P i / 10)
def gY (P : Int → Int) (p i : Int) : Int := tY p (P i % 10) (P i / 10)
def fX (n : Int) (P : Int → Int) (p i : Int) : Int := gX P p i - mnN (gX P p) 100 n.toNat
def fY (n : Int) (P : Int → Int) (p i : Int) : Int := gY P p i - mnN (gY P p) 100 n.toNat
def wy (i : Int) : Int := if i % 2 = 0 then 1 else -1
def rwV (n : Int) (P : Int → Int) (p i j : Int) : Int := if j % 2 = 0 then fX n P p ((i / 2 + wy i * (j / 2)) % n) else fY n P p ((i / 2 + wy i * (j / 2)) % n)
/-- not behind, place by place -/
def lxL (m : Int) (f g : Int → Int) : Prop := ∀ k, 0 ≤ k → k < m → (∀ j, 0 ≤ j → j < k → f j = g j) → f k ≤ g k
/-- ahead -/
def lxS (m : Int) (f g : Int → Int) : Prop := ∃ k, (0 ≤ k ∧ k < m) ∧ (∀ j, 0 ≤ j → j < k → f j = g j) ∧ f k < g k
theorem lxL_n {m : Int} {f g : Int → Int} (h : ¬ lxS m f g) : lxL m g f := fun k k0 k1 e => by
  apply Classical.byContradiction
  intro z
  exact h ⟨k, ⟨k0, k1⟩, fun j j0 j1 => (e j j0 j1).symm, by omega⟩
theorem lxL_s {m : Int} {f g : Int → Int} (h : lxS m f g) : lxL m f g := by
  obtain ⟨k, hk, e, l⟩ := h
  intro i i0 i1 q
  rcases Int.lt_trichotomy i k with z | z | z
  · exact Int.le_of_eq (e i i0 z)
  · subst z; omega
  · exact absurd (q k hk.1 z) (by omega)
theorem lxL_eq {m : Int} {f g : Int → Int} (h : lxL m f g) (h2 : lxL m g f) : ∀ k : Nat, (k : Int) < m → f k = g k := by
  intro k
  induction k using Nat.strongRecOn with
  | ind k ih =>
    intro hk
    have e : ∀ j : Int, 0 ≤ j → j < k → f j = g j := fun j j0 j1 => by
      have := ih j.toNat (by omega) (by omega)
      rw [Int.toNat_of_nonneg j0] at this
      exact this
    have a := h k (by omega) hk e
    have b := h2 k (by omega) hk (fun j j0 j1 => (e j j0 j1).symm)
    omega
theorem lxL_r (m : Int) (f : Int → Int) : lxL m f f := fun _ _ _ _ => Int.le_refl _
theorem lxL_c {m : Int} {f g f' g' : Int → Int} (hf : ∀ j, 0 ≤ j → j < m → f' j = f j) (hg : ∀ j, 0 ≤ j → j < m → g' j = g j) (h : lxL m f g) : lxL m f' g' := fun k k0 k1 e => by
  rw [hf k k0 k1, hg k k0 k1]
  exact h k k0 k1 (fun j j0 j1 => by rw [← hf j j0 (by omega), ← hg j j0 (by omega)]; exact e j j0 j1)
theorem lxL_t {m : Int} {f g h : Int → Int} (a : lxL m f g) (b : lxL m g h) : lxL m f h := by
  by_cases hs : lxS m f g
  · obtain ⟨k, hk, e, l⟩ := hs
    intro i i0 i1 q
    rcases Int.lt_trichotomy i k with z | z | z
    · have e1 := e i i0 z
      have := b i i0 i1 (fun j j0 j1 => by rw [← e j j0 (by omega)]; exact q j j0 j1)
      omega
    · subst z
      have := b i i0 i1 (fun j j0 j1 => by rw [← e j j0 j1]; exact q j j0 j1)
      omega
    · have e2 := q k hk.1 z
      have := b k hk.1 hk.2 (fun j j0 j1 => by rw [← e j j0 j1]; exact q j j0 (by omega))
      omega
  · have c := lxL_n hs
    have eq := lxL_eq a c
    exact lxL_c (fun j j0 j1 => by have := eq j.toNat (by omega); rw [Int.toNat_of_nonneg j0] at this; exact this) (fun _ _ _ => rfl) b
/-- the least of some rows -/
def lsO (m : Int) (V : Int → Int → Prop) (rw : Int → Int → Int → Int) (g : Int → Int) : Prop := (∃ p i, V p i ∧ ∀ j, 0 ≤ j → j < m → g j = rw p i j) ∧ ∀ p i, V p i → lxL m g (rw p i)
theorem lsO_u {m : Int} {V : Int → Int → Prop} {rw : Int → Int → Int → Int} {g h : Int → Int} (a : lsO m V rw g) (b : lsO m V rw h) : ∀ j, 0 ≤ j → j < m → g j = h j := by
  obtain ⟨⟨p, i, v, e⟩, l⟩ := a
  obtain ⟨⟨p2, i2, v2, e2⟩, l2⟩ := b
  have h1 : lxL m g h := lxL_c (fun _ _ _ => rfl) e2 (l p2 i2 v2)
  have h2 : lxL m h g := lxL_c (fun _ _ _ => rfl) e (l2 p i v)
  intro j j0 j1
  have := lxL_eq h1 h2 j.toNat (by omega)
  rw [Int.toNat_of_nonneg j0] at this
  exact this
theorem lsO_V {m : Int} {V W : Int → Int → Prop} {rw : Int → Int → Int → Int} {g : Int → Int} (h : lsO m V rw g) (e : ∀ p i, W p i ↔ V p i) : lsO m W rw g := by
  obtain ⟨⟨p, i, v, q⟩, l⟩ := h
  exact ⟨⟨p, i, (e p i).mpr v, q⟩, fun p i w => l p i ((e p i).mp w)⟩
theorem lsO_1 {m : Int} {rw : Int → Int → Int → Int} {g : Int → Int} {p i : Int} {W : Int → Int → Prop} (e : ∀ a b, W a b ↔ (a = p ∧ b = i)) (h : ∀ j, 0 ≤ j → j < m → g j = rw p i j) : lsO m W rw g :=
  ⟨⟨p, i, (e p i).mpr ⟨rfl, rfl⟩, h⟩, fun a b w => by
    obtain ⟨rfl, rfl⟩ := (e a b).mp w
    exact lxL_c h (fun _ _ _ => rfl) (lxL_r m _)⟩
theorem lsO_y {m : Int} {V W : Int → Int → Prop} {rw : Int → Int → Int → Int} {g h : Int → Int} {p i : Int} (a0 : lsO m V rw g) (e : ∀ a b, W a b ↔ V a b ∨ (a = p ∧ b = i)) (s : lxS m (rw p i) g) (hh : ∀ j, 0 ≤ j → j < m → h j = rw p i j) : lsO m W rw h := by
  refine ⟨⟨p, i, (e p i).mpr (Or.inr ⟨rfl, rfl⟩), hh⟩, fun a b w => ?_⟩
  rcases (e a b).mp w with v | ⟨rfl, rfl⟩
  · exact lxL_c hh (fun _ _ _ => rfl) (lxL_t (lxL_s s) (a0.2 a b v))
  · exact lxL_c hh (fun _ _ _ => rfl) (lxL_r m _)
theorem lsO_n {m : Int} {V W : Int → Int → Prop} {rw : Int → Int → Int → Int} {g : Int → Int} {p i : Int} (a : lsO m V rw g) (e : ∀ a b, W a b ↔ V a b ∨ (a = p ∧ b = i)) (s : ¬ lxS m (rw p i) g) : lsO m W rw g := by
  obtain ⟨⟨p2, i2, v2, e2⟩, l⟩ := a
  refine ⟨⟨p2, i2, (e _ _).mpr (Or.inl v2), e2⟩, fun a b w => ?_⟩
  rcases (e a b).mp w with v | ⟨rfl, rfl⟩
  · exact l a b v
  · exact lxL_n s
theorem mnN_le (f : Int → Int) (z : Int) : ∀ (n : Nat) (i : Int), 0 ≤ i → i < n → mnN f z n ≤ f i
  | 0, i, h0, h1 => by omega
  | n + 1, i, h0, h1 => by
    rw [mnN]
    by_cases hi : i = n
    · subst hi; omega
    · have := mnN_le f z n i h0 (by omega)
      omega
theorem mnN_ge (f : Int → Int) (z l : Int) (hz : l ≤ z) : ∀ (n : Nat), (∀ i : Int, 0 ≤ i → i < n → l ≤ f i) → l ≤ mnN f z n
  | 0, _ => hz
  | n + 1, h => by
    rw [mnN]
    have := mnN_ge f z l hz n (fun i h0 h1 => h i h0 (by omega))
    have := h n (by omega) (by omega)
    omega
theorem fXY_b {n p i : Int} {P : Int → Int} (hP : ∀ i, 0 ≤ i → isPg (P i)) (h0 : 0 ≤ i) (h1 : i < n) : cB 18 (fX n P p i) ∧ cB 18 (fY n P p i) := by
  have b : ∀ i, 0 ≤ i → (-9 ≤ gX P p i ∧ gX P p i ≤ 9) ∧ (-9 ≤ gY P p i ∧ gY P p i ≤ 9) := fun i i0 => by
    have := hP i i0
    exact tX_b (by omega) (by omega)
  have a := b i h0
  have m1 := mnN_le (gX P p) 100 n.toNat i h0 (by omega)
  have m2 := mnN_le (gY P p) 100 n.toNat i h0 (by omega)
  have m3 := mnN_ge (gX P p) 100 (-9) (by decide) n.toNat (fun j j0 j1 => (b j j0).1.1)
  have m4 := mnN_ge (gY P p) 100 (-9) (by decide) n.toNat (fun j j0 j1 => (b j j0).2.1)
  unfold fX fY
  omega
theorem rwV_b {n p i j : Int} {P : Int → Int} (hn : 0 < n) (hP : ∀ i, 0 ≤ i → isPg (P i)) : cB 18 (rwV n P p i j) := by
  have e1 := Int.emod_nonneg (i / 2 + wy i * (j / 2)) (show n ≠ 0 by omega)
  have e2 := Int.emod_lt_of_pos (i / 2 + wy i * (j / 2)) hn
  have := fXY_b (p := p) hP e1 e2
  unfold rwV
  split
  · exact this.1
  · exact this.2
set_option maxRecDepth 100000 in
set_option maxHeartbeats 4000000 in
theorem c_X10_lastPose {σ : jS} {w : Int} (hw : 0 ≤ w ∧ w ≤ 2) : Jp 1 miX10_lastPose [vI w] σ (vI (if w = 0 then 0 else if w = 1 then 3 else 7)) := by
  refine jm_ofF (Po := (jP (vI (if w = 0 then 0 else if w = 1 then 3 else 7)) σ)) (plainFor_of_name (by decide)) (Nat.le_of_ble_eq_true rfl) (lv := [(0, _)]) rfl ?_
  refine r_iload_n (dc dkX10_lastPose 0 rfl) rfl (np 1 rfl ?_)
  refine r_if_ne (tgt := 8) (dc dkX10_lastPose 1 rfl) rfl (by first | assumption | decide | omega) (fun h1 => ?_) (fun h1 => (np 4 rfl ?_))
  · skip
    refine r_iload_n (dc dkX10_lastPose 4 rfl) rfl (np 9 rfl ?_)
    refine r_iconst (dc dkX10_lastPose 5 rfl) (np 10 rfl ?_)
    refine r_icmp_ne (tgt := 17) (dc dkX10_lastPose 6 rfl) rfl (by first | assumption | decide | omega) (by first | assumption | decide | omega) (fun h10 => ?_) (fun h10 => (np 13 rfl ?_))
    · skip
      refine r_bipush (dc dkX10_lastPose 9 rfl) bp_7 (np 19 rfl ?_)
      exact r_iret (dc dkX10_lastPose 10 rfl) rfl ⟨congrArg (fun z => some (vI z)) (by first | (rw [if_pos (by omega)]; done) | (rw [if_neg (by omega), if_pos (by omega)]; done) | (rw [if_neg (by omega), if_neg (by omega)]; done)), rfl⟩
    refine r_iconst (dc dkX10_lastPose 7 rfl) (np 14 rfl ?_)
    refine r_goto (tgt := 19) (dc dkX10_lastPose 8 rfl) rfl ?_
    exact r_iret (dc dkX10_lastPose 10 rfl) rfl ⟨congrArg (fun z => some (vI z)) (by first | (rw [if_pos (by omega)]; done) | (rw [if_neg (by omega), if_pos (by omega)]; done) | (rw [if_neg (by omega), if_neg (by omega)]; done)), rfl⟩
  refine r_iconst (dc dkX10_lastPose 2 rfl) (np 5 rfl ?_)
  refine r_goto (tgt := 19) (dc dkX10_lastPose 3 rfl) rfl ?_
  exact r_iret (dc dkX10_lastPose 10 rfl) rfl ⟨congrArg (fun z => some (vI z)) (by first | (rw [if_pos (by omega)]; done) | (rw [if_neg (by omega), if_pos (by omega)]; done) | (rw [if_neg (by omega), if_neg (by omega)]; done)), rfl⟩
set_option maxRecDepth 100000 in
set_option maxHeartbeats 4000000 in
theorem c_X10_takePose {σ : jS} (hB : okB σ 30) {b : Int} (h0 : 0 ≤ b) (h1 : b < 8) (hn : 3 ≤ σ 32 b) {p : Int} (hp : 0 ≤ p ∧ p ≤ 7) : Jm 2 miX10_takePose [.ref 9, .ref 30, vI b, vI p, vI (σ 32 b)] σ (fun r τ => r = none ∧ same [13, 14] σ τ ∧ ∀ i, 0 ≤ i → i < σ 32 b → τ 13 i = fX (σ 32 b) (bAt σ 30 b) p i ∧ τ 14 i = fY (σ 32 b) (bAt σ 30 b) p i) := by
  have hs := hB.2.1 b h0 h1
  replace hs : 0 ≤ σ 32 b ∧ σ 32 b ≤ 8 := hs
  have hPg : ∀ i, 0 ≤ i → isPg (bAt σ 30 b i) := fun i i0 => bAt_p hB h0 h1 (show 0 < σ 32 b by omega) i0
  have ov : ovr p = 0 ∨ ovr p = 4 := by unfold ovr; split <;> omega
  have ovp : p % 4 + ovr p = p := by unfold ovr; split <;> omega
  refine jm_ofF (Po := (fun r τ => r = none ∧ same [13, 14] σ τ ∧ ∀ i, 0 ≤ i → i < σ 32 b → τ 13 i = fX (σ 32 b) (bAt σ 30 b) p i ∧ τ 14 i = fY (σ 32 b) (bAt σ 30 b) p i)) (plainFor_of_name (by decide)) (Nat.le_of_ble_eq_true rfl) (lv := [(0, _), (1, _), (2, _), (3, _), (4, _)]) rfl ?_
  refine r_bipush (dc dkX10_takePose 0 rfl) bp_100 (np 2 rfl ?_)
  refine r_istore (lv' := [(5, _), (0, _), (1, _), (2, _), (3, _), (4, _)]) (dc dkX10_takePose 1 rfl) (Nat.le_of_ble_eq_true rfl) rfl (np 4 rfl ?_)
  refine r_bipush (dc dkX10_takePose 2 rfl) bp_100 (np 6 rfl ?_)
  refine r_istore (lv' := [(6, _), (5, _), (0, _), (1, _), (2, _), (3, _), (4, _)]) (dc dkX10_takePose 3 rfl) (Nat.le_of_ble_eq_true rfl) rfl (np 8 rfl ?_)
  refine r_iconst (dc dkX10_takePose 4 rfl) (np 9 rfl ?_)
  refine r_istore (lv' := [(7, _), (6, _), (5, _), (0, _), (1, _), (2, _), (3, _), (4, _)]) (dc dkX10_takePose 5 rfl) (Nat.le_of_ble_eq_true rfl) rfl (np 11 rfl ?_)
  refine r_pick [3, 4, 5, 6, 7, 2, 1, 0] (lv' := [(0, _), (1, _), (2, _), (3, _), (4, _), (5, _), (6, _), (7, _)]) rfl ?_
  refine jlp4 (P := fun (u : Int) (v : Int) (i : Int) (τ : jS) => jR _ _ _ 11 [(0, .ref 9), (1, .ref 30), (2, vI b), (3, vI p), (4, vI (σ 32 b)), (5, vI u), (6, vI v), (7, vI i)] [] τ) (I := fun (u : Int) (v : Int) (i : Int) (τ : jS) => (0 ≤ i ∧ i ≤ σ 32 b) ∧ same [13, 14] σ τ ∧ (u = mnN (gX (bAt σ 30 b) p) 100 i.toNat ∧ v = mnN (gY (bAt σ 30 b) p) 100 i.toNat) ∧ (-100 ≤ u ∧ u ≤ 100 ∧ -100 ≤ v ∧ v ≤ 100) ∧ ∀ j, 0 ≤ j → j < i → τ 13 j = gX (bAt σ 30 b) p j ∧ τ 14 j = gY (bAt σ 30 b) p j) (fun (u : Int) (v : Int) (i : Int) (τ : jS) => (σ 32 b - i).toNat) ?_ _ _ _ _ ⟨by omega, same.refl _ _, ⟨rfl, rfl⟩, by omega, fun j _ _ => by omega⟩
  intro u v i τ hI11 ih11
  have e2 := hI11.2.1 32 (by decide)
  have e3 := hI11.2.1 33 (by decide)
  have hB2 : okB τ 30 := okB_t hB (hI11.2.1 30 (by decide)) (hI11.2.1 31 (by decide)) e2 e3
  have hsz : 0 < τ 32 b := by rw [e2]; omega
  refine r_iload (dc dkX10_takePose 6 rfl) rfl (np 13 rfl ?_)
  refine r_iload (dc dkX10_takePose 7 rfl) rfl (np 15 rfl ?_)
  refine r_icmp_ge (tgt := 124) (dc dkX10_takePose 8 rfl) rfl (by first | assumption | decide | omega) (by first | assumption | decide | omega) (fun h15 => ?_) (fun h15 => (np 18 rfl ?_))
  · skip
    have hu : u = mnN (gX (bAt σ 30 b) p) 100 (σ 32 b).toNat := by rw [hI11.2.2.1.1, show i = σ 32 b by omega]
    have hv : v = mnN (gY (bAt σ 30 b) p) 100 (σ 32 b).toNat := by rw [hI11.2.2.1.2, show i = σ 32 b by omega]
    refine r_iconst (dc dkX10_takePose 65 rfl) (np 125 rfl ?_)
    refine r_istore (lv' := [(7, _), (0, _), (1, _), (2, _), (3, _), (4, _), (5, _), (6, _)]) (dc dkX10_takePose 66 rfl) (Nat.le_of_ble_eq_true rfl) rfl (np 127 rfl ?_)
    refine r_pick [1, 2, 3, 4, 5, 6, 7, 0] (lv' := [(0, _), (1, _), (2, _), (3, _), (4, _), (5, _), (6, _), (7, _)]) rfl ?_
    refine jlp2 (P := fun (i : Int) (τ5 : jS) => jR _ _ _ 127 [(0, .ref 9), (1, .ref 30), (2, vI b), (3, vI p), (4, vI (σ 32 b)), (5, vI u), (6, vI v), (7, vI i)] [] τ5) (I := fun (i : Int) (τ5 : jS) => (0 ≤ i ∧ i ≤ σ 32 b) ∧ same [13, 14] σ τ5 ∧ (∀ j, 0 ≤ j → j < i → τ5 13 j = fX (σ 32 b) (bAt σ 30 b) p j ∧ τ5 14 j = fY (σ 32 b) (bAt σ 30 b) p j) ∧ ∀ j, i ≤ j → j < σ 32 b → τ5 13 j = gX (bAt σ 30 b) p j ∧ τ5 14 j = gY (bAt σ 30 b) p j) (fun (i : Int) (τ5 : jS) => (σ 32 b - i).toNat) ?_ _ _ ⟨by omega, hI11.2.1, fun j _ _ => by omega, fun j j0 j1 => hI11.2.2.2.2 j j0 (by omega)⟩
    intro i τ5 hI127 ih127
    refine r_iload (dc dkX10_takePose 67 rfl) rfl (np 129 rfl ?_)
    refine r_iload (dc dkX10_takePose 68 rfl) rfl (np 131 rfl ?_)
    refine r_icmp_ge (tgt := 164) (dc dkX10_takePose 69 rfl) rfl (by first | assumption | decide | omega) (by first | assumption | decide | omega) (fun h131 => ?_) (fun h131 => (np 134 rfl ?_))
    · skip
      exact r_vret (dc dkX10_takePose 88 rfl) rfl ⟨rfl, hI127.2.1, fun j j0 j1 => hI127.2.2.1 j j0 (by omega)⟩
    refine r_aload_n (dc dkX10_takePose 70 rfl) rfl (np 135 rfl ?_)
    refine r_getR (dc dkX10_takePose 71 rfl) flX10_25 fd_9_4 (np 138 rfl ?_)
    refine r_iload (dc dkX10_takePose 72 rfl) rfl (np 140 rfl ?_)
    refine r_dup2 (dc dkX10_takePose 73 rfl) ⟨rfl, rfl⟩ (np 141 rfl ?_)
    refine r_iald (dc dkX10_takePose 74 rfl) ar_13 (by omega) (np 142 rfl ?_)
    refine r_iload (dc dkX10_takePose 75 rfl) rfl (np 144 rfl ?_)
    refine r_isub (dc dkX10_takePose 76 rfl) (np 145 rfl ?_)
    refine r_iast (dc dkX10_takePose 77 rfl) ar_13 (by omega) (np 146 rfl ?_)
    refine r_aload_n (dc dkX10_takePose 78 rfl) rfl (np 147 rfl ?_)
    refine r_getR (dc dkX10_takePose 79 rfl) flX10_28 fd_9_5 (np 150 rfl ?_)
    refine r_iload (dc dkX10_takePose 80 rfl) rfl (np 152 rfl ?_)
    refine r_dup2 (dc dkX10_takePose 81 rfl) ⟨rfl, rfl⟩ (np 153 rfl ?_)
    refine r_iald (dc dkX10_takePose 82 rfl) ar_14 (by omega) (np 154 rfl ?_)
    refine r_iload (dc dkX10_takePose 83 rfl) rfl (np 156 rfl ?_)
    refine r_isub (dc dkX10_takePose 84 rfl) (np 157 rfl ?_)
    refine r_iast (dc dkX10_takePose 85 rfl) ar_14 (by omega) (np 158 rfl ?_)
    refine r_iinc (lv' := [(7, _), (0, _), (1, _), (2, _), (3, _), (4, _), (5, _), (6, _)]) (dc dkX10_takePose 86 rfl) (Nat.le_of_ble_eq_true rfl) rfl rfl (np 161 rfl ?_)
    refine r_goto (tgt := 127) (dc dkX10_takePose 87 rfl) rfl ?_
    refine r_pick [1, 2, 3, 4, 5, 6, 7, 0] rfl ?_
    exact ih127 _ _ (by
          have q := hI127.2.2.2 i (by omega) (by omega)
          refine ⟨by omega, (hI127.2.1.put (by decide)).put (by decide), fun j j0 j1 => ?_, fun j j0 j1 => ?_⟩
          · by_cases hj : j = i
            · rw [hj, ju_ne (by omega), ju_at, ju_at, ju_ne (by omega), q.1, q.2, hu, hv]; exact ⟨rfl, rfl⟩
            · rw [ju_ne (by omega), ju_ne (by omega), ju_ne (by omega), ju_ne (by omega)]; exact hI127.2.2.1 j j0 (by omega)
          · rw [ju_ne (by omega), ju_ne (by omega), ju_ne (by omega), ju_ne (by omega)]; exact hI127.2.2.2 j (by omega) j1) (by omega)
  refine r_aload_n (dc dkX10_takePose 9 rfl) rfl (np 19 rfl ?_)
  refine r_iload_n (dc dkX10_takePose 10 rfl) rfl (np 20 rfl ?_)
  refine r_iload (dc dkX10_takePose 11 rfl) rfl (np 22 rfl ?_)
  refine r_pV2 (y' := miX0_at) (dc dkX10_takePose 12 rfl) mlX10_66 ceX0_at ob_30 (Nat.le_of_ble_eq_true rfl) (Nat.le_of_ble_eq_true rfl) (c_X0_at isBands_at30 (hB2) h0 h1 (by omega) (by omega)) (np 25 rfl ?_)
  refine r_eqI (bAt σ 30 b i) (bAt_t e2 e3 b i) ?_
  have pg := hPg i (by omega)
  refine r_bipush (dc dkX10_takePose 13 rfl) bp_10 (np 27 rfl ?_)
  refine r_iremn (dc dkX10_takePose 14 rfl) (by first | assumption | decide | omega) (by first | assumption | decide | omega) (np 28 rfl ?_)
  refine r_istore (lv' := [(8, _), (0, _), (1, _), (2, _), (3, _), (4, _), (5, _), (6, _), (7, _)]) (dc dkX10_takePose 15 rfl) (Nat.le_of_ble_eq_true rfl) rfl (np 30 rfl ?_)
  refine r_aload_n (dc dkX10_takePose 16 rfl) rfl (np 31 rfl ?_)
  refine r_iload_n (dc dkX10_takePose 17 rfl) rfl (np 32 rfl ?_)
  refine r_iload (dc dkX10_takePose 18 rfl) rfl (np 34 rfl ?_)
  refine r_pV2 (y' := miX0_at) (dc dkX10_takePose 19 rfl) mlX10_66 ceX0_at ob_30 (Nat.le_of_ble_eq_true rfl) (Nat.le_of_ble_eq_true rfl) (c_X0_at isBands_at30 (hB2) h0 h1 (by omega) (by omega)) (np 37 rfl ?_)
  refine r_eqI (bAt σ 30 b i) (bAt_t e2 e3 b i) ?_
  refine r_bipush (dc dkX10_takePose 20 rfl) bp_10 (np 39 rfl ?_)
  refine r_idivn (dc dkX10_takePose 21 rfl) (by first | assumption | decide | omega) (by first | assumption | decide | omega) (np 40 rfl ?_)
  refine r_istore (lv' := [(9, _), (8, _), (0, _), (1, _), (2, _), (3, _), (4, _), (5, _), (6, _), (7, _)]) (dc dkX10_takePose 22 rfl) (Nat.le_of_ble_eq_true rfl) rfl (np 42 rfl ?_)
  have jj52 : ∀ x0 : Int, x0 = tX (ovr p) (bAt σ 30 b i % 10) (bAt σ 30 b i / 10) → jR 2 miX10_takePose (fun r τ => r = none ∧ same [13, 14] σ τ ∧ ∀ i, 0 ≤ i → i < σ 32 b → τ 13 i = fX (σ 32 b) (bAt σ 30 b) p i ∧ τ 14 i = fY (σ 32 b) (bAt σ 30 b) p i) 52 [(0, .ref 9), (1, .ref 30), (2, vI b), (3, vI p), (4, vI (σ 32 b)), (5, vI u), (6, vI v), (7, vI i), (8, vI x0), (9, vI (bAt σ 30 b i / 10))] [] τ := by
    intro x0 hx0
    refine r_iconst (dc dkX10_takePose 29 rfl) (np 53 rfl ?_)
    refine r_istore (lv' := [(10, _), (0, _), (1, _), (2, _), (3, _), (4, _), (5, _), (6, _), (7, _), (8, _), (9, _)]) (dc dkX10_takePose 30 rfl) (Nat.le_of_ble_eq_true rfl) rfl (np 55 rfl ?_)
    refine r_pick [1, 2, 3, 4, 5, 6, 7, 8, 9, 10, 0] (lv' := [(0, _), (1, _), (2, _), (3, _), (4, _), (5, _), (6, _), (7, _), (8, _), (9, _), (10, _)]) rfl ?_
    refine jlp3 (P := fun (x : Int) (y : Int) (k : Int) => jR _ _ _ 55 [(0, .ref 9), (1, .ref 30), (2, _), (3, _), (4, vI (σ 32 b)), (5, vI u), (6, vI v), (7, vI i), (8, vI x), (9, vI y), (10, vI k)] [] τ) (I := fun (x : Int) (y : Int) (k : Int) => (0 ≤ k ∧ k ≤ p % 4) ∧ x = tX (k + ovr p) (bAt σ 30 b i % 10) (bAt σ 30 b i / 10) ∧ y = tY (k + ovr p) (bAt σ 30 b i % 10) (bAt σ 30 b i / 10)) (fun (x : Int) (y : Int) (k : Int) => (p % 4 - k).toNat) ?_ _ _ _ ⟨by omega, by rw [show (0 : Int) + ovr p = ovr p by omega]; exact hx0, by rw [show (0 : Int) + ovr p = ovr p by omega]; unfold tY; rcases ov with z | z <;> rw [z] <;> rfl⟩
    intro x y k hI55 ih55
    refine r_iload (dc dkX10_takePose 31 rfl) rfl (np 57 rfl ?_)
    refine r_iload_n (dc dkX10_takePose 32 rfl) rfl (np 58 rfl ?_)
    refine r_iconst (dc dkX10_takePose 33 rfl) (np 59 rfl ?_)
    refine r_iremn (dc dkX10_takePose 34 rfl) (by first | assumption | decide | omega) (by first | assumption | decide | omega) (np 60 rfl ?_)
    refine r_icmp_ge (tgt := 82) (dc dkX10_takePose 35 rfl) rfl (by first | assumption | decide | omega) (by first | assumption | decide | omega) (fun h60 => ?_) (fun h60 => (np 63 rfl ?_))
    · skip
      have tb := tX_b (p := k + ovr p) (x := bAt σ 30 b i % 10) (y := bAt σ 30 b i / 10) (by omega) (by omega)
      rw [← hI55.2.1, ← hI55.2.2] at tb
      refine r_aload_n (dc dkX10_takePose 45 rfl) rfl (np 83 rfl ?_)
      refine r_getR (dc dkX10_takePose 46 rfl) flX10_25 fd_9_4 (np 86 rfl ?_)
      refine r_iload (dc dkX10_takePose 47 rfl) rfl (np 88 rfl ?_)
      refine r_iload (dc dkX10_takePose 48 rfl) rfl (np 90 rfl ?_)
      refine r_iast (dc dkX10_takePose 49 rfl) ar_13 (by omega) (np 91 rfl ?_)
      refine r_aload_n (dc dkX10_takePose 50 rfl) rfl (np 92 rfl ?_)
      refine r_getR (dc dkX10_takePose 51 rfl) flX10_28 fd_9_5 (np 95 rfl ?_)
      refine r_iload (dc dkX10_takePose 52 rfl) rfl (np 97 rfl ?_)
      refine r_iload (dc dkX10_takePose 53 rfl) rfl (np 99 rfl ?_)
      refine r_iast (dc dkX10_takePose 54 rfl) ar_14 (by omega) (np 100 rfl ?_)
      refine r_iload (dc dkX10_takePose 55 rfl) rfl (np 102 rfl ?_)
      refine r_iload (dc dkX10_takePose 56 rfl) rfl (np 104 rfl ?_)
      refine r_pS2 (y' := miJ9_min_7cf53) (dc dkX10_takePose 57 rfl) mlX10_48 seJ9_min_7cf53 (Nat.le_of_ble_eq_true rfl) (Nat.le_of_ble_eq_true rfl) (c_J9_min_7cf53 (by omega) (by omega)) (np 107 rfl ?_)
      refine r_istore (lv' := [(5, _), (0, _), (1, _), (2, _), (3, _), (4, _), (6, _), (7, _), (8, _), (9, _), (10, _)]) (dc dkX10_takePose 58 rfl) (Nat.le_of_ble_eq_true rfl) rfl (np 109 rfl ?_)
      refine r_iload (dc dkX10_takePose 59 rfl) rfl (np 111 rfl ?_)
      refine r_iload (dc dkX10_takePose 60 rfl) rfl (np 113 rfl ?_)
      refine r_pS2 (y' := miJ9_min_7cf53) (dc dkX10_takePose 61 rfl) mlX10_48 seJ9_min_7cf53 (Nat.le_of_ble_eq_true rfl) (Nat.le_of_ble_eq_true rfl) (c_J9_min_7cf53 (by omega) (by omega)) (np 116 rfl ?_)
      refine r_istore (lv' := [(6, _), (5, _), (0, _), (1, _), (2, _), (3, _), (4, _), (7, _), (8, _), (9, _), (10, _)]) (dc dkX10_takePose 62 rfl) (Nat.le_of_ble_eq_true rfl) rfl (np 118 rfl ?_)
      refine r_iinc (lv' := [(7, _), (6, _), (5, _), (0, _), (1, _), (2, _), (3, _), (4, _), (8, _), (9, _), (10, _)]) (dc dkX10_takePose 63 rfl) (Nat.le_of_ble_eq_true rfl) rfl rfl (np 121 rfl ?_)
      refine r_goto (tgt := 11) (dc dkX10_takePose 64 rfl) rfl ?_
      refine r_pick [3, 4, 5, 6, 7, 2, 1, 0] rfl ?_
      exact ih11 _ _ _ _ (by
            have kk : k + ovr p = p := by omega
            rw [kk] at hI55
            refine ⟨by omega, (hI11.2.1.put (by decide)).put (by decide), ⟨?_, ?_⟩, by omega, fun j j0 j1 => ?_⟩
            · rw [mnN_s _ _ (by omega), ← hI11.2.2.1.1, hI55.2.1]; rfl
            · rw [mnN_s _ _ (by omega), ← hI11.2.2.1.2, hI55.2.2]; rfl
            · by_cases hj : j = i
              · rw [hj, ju_ne (by omega), ju_at, ju_at, hI55.2.1, hI55.2.2]; exact ⟨rfl, rfl⟩
              · rw [ju_ne (by omega), ju_ne (by omega), ju_ne (by omega), ju_ne (by omega)]; exact hI11.2.2.2.2 j j0 (by omega)) (by omega)
    refine r_iload (dc dkX10_takePose 36 rfl) rfl (np 65 rfl ?_)
    refine r_istore (lv' := [(11, _), (0, _), (1, _), (2, _), (3, _), (4, _), (5, _), (6, _), (7, _), (8, _), (9, _), (10, _)]) (dc dkX10_takePose 37 rfl) (Nat.le_of_ble_eq_true rfl) rfl (np 67 rfl ?_)
    refine r_iload (dc dkX10_takePose 38 rfl) rfl (np 69 rfl ?_)
    refine r_ineg (dc dkX10_takePose 39 rfl) (np 70 rfl ?_)
    refine r_istore (lv' := [(8, _), (11, _), (0, _), (1, _), (2, _), (3, _), (4, _), (5, _), (6, _), (7, _), (9, _), (10, _)]) (dc dkX10_takePose 40 rfl) (Nat.le_of_ble_eq_true rfl) rfl (np 72 rfl ?_)
    refine r_iload (dc dkX10_takePose 41 rfl) rfl (np 74 rfl ?_)
    refine r_istore (lv' := [(9, _), (8, _), (11, _), (0, _), (1, _), (2, _), (3, _), (4, _), (5, _), (6, _), (7, _), (10, _)]) (dc dkX10_takePose 42 rfl) (Nat.le_of_ble_eq_true rfl) rfl (np 76 rfl ?_)
    refine r_iinc (lv' := [(10, _), (9, _), (8, _), (11, _), (0, _), (1, _), (2, _), (3, _), (4, _), (5, _), (6, _), (7, _)]) (dc dkX10_takePose 43 rfl) (Nat.le_of_ble_eq_true rfl) rfl rfl (np 79 rfl ?_)
    refine r_goto (tgt := 55) (dc dkX10_takePose 44 rfl) rfl ?_
    refine r_pick [4, 5, 6, 7, 8, 9, 10, 11, 2, 1, 0] rfl ?_
    exact ih55 _ _ _ (by have q := tX_s (x := bAt σ 30 b i % 10) (y := bAt σ 30 b i / 10) (k := k) (by omega) ov; exact ⟨by omega, by rw [q.1, hI55.2.2], by rw [q.2, hI55.2.1]⟩) (by omega)
  refine r_iload_n (dc dkX10_takePose 23 rfl) rfl (np 43 rfl ?_)
  refine r_iconst (dc dkX10_takePose 24 rfl) (np 44 rfl ?_)
  refine r_icmp_lt (tgt := 52) (dc dkX10_takePose 25 rfl) rfl (by first | assumption | decide | omega) (by first | assumption | decide | omega) (fun h44 => ?_) (fun h44 => (np 47 rfl ?_))
  · skip
    refine r_pick [2, 3, 4, 5, 6, 7, 8, 9, 1, 0] rfl ?_
    exact jj52 _ (by unfold ovr; first | (rw [if_neg (by omega)]; rfl) | (rw [if_pos (by omega)]; rfl))
  refine r_iload (dc dkX10_takePose 26 rfl) rfl (np 49 rfl ?_)
  refine r_ineg (dc dkX10_takePose 27 rfl) (np 50 rfl ?_)
  refine r_istore (lv' := [(8, _), (9, _), (0, _), (1, _), (2, _), (3, _), (4, _), (5, _), (6, _), (7, _)]) (dc dkX10_takePose 28 rfl) (Nat.le_of_ble_eq_true rfl) rfl (np 52 rfl ?_)
  refine r_pick [2, 3, 4, 5, 6, 7, 8, 9, 0, 1] rfl ?_
  exact jj52 _ (by unfold ovr; first | (rw [if_neg (by omega)]; rfl) | (rw [if_pos (by omega)]; rfl))
