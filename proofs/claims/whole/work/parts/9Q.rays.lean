/-! ===== the ray of a point, told by the sweep ===== -/
theorem ray1 {x y a b : Int} (hx : 0 ≤ x ∧ x ≤ 18) (ha : isPg a) (hb : isPg b) (h : a / 10 < b / 10) : crC x y a b ↔ ((2 * lv a ≤ 20 * y + 18 - x ∧ 20 * y + 18 - x < 2 * lv b) ∧ FS a b (20 * y + 18 - x) < NN * (18 - x)) := by
  have nab : ¬ a = b := fun z => by rw [z] at h; omega
  have e := FS_x ha hb nab x y
  have N0 := NN_0
  have g := sg_pos (show 0 < lv b - lv a by unfold lv; omega) (show 0 < 10 * NN by omega) e
  have t1 : y = 2 * (a / 10) → (0 < 2 * (a % 10) - x ↔ 0 < crT x y (2 * (a % 10)) (2 * (a / 10)) (2 * (b % 10)) (2 * (b / 10))) := fun z => (sg_pos (D := 2 * (b / 10) - 2 * (a / 10)) (K := 1) (by omega) (by omega) (by rw [z]; unfold crT; grind)).1
  have t2 : y = 2 * (b / 10) → (0 < 2 * (b % 10) - x ↔ 0 < crT x y (2 * (a % 10)) (2 * (a / 10)) (2 * (b % 10)) (2 * (b / 10))) := fun z => (sg_pos (D := 2 * (b / 10) - 2 * (a / 10)) (K := 1) (by omega) (by omega) (by rw [z]; unfold crT; grind)).1
  unfold crC
  clear e
  have g1 := g.1
  clear g
  generalize crT x y (2 * (a % 10)) (2 * (a / 10)) (2 * (b % 10)) (2 * (b / 10)) = T at *
  generalize FS a b (20 * y + 18 - x) = f at *
  generalize NN * (18 - x) = w at *
  unfold lv
  by_cases c : 0 < T
  · have c' : f < w := by omega
    have r1 : 2 * (a / 10) ≤ y ↔ 2 * (20 * (a / 10) + 9 - a % 10) ≤ 20 * y + 18 - x := by
      rcases Int.lt_trichotomy y (2 * (a / 10)) with k | k | k
      · omega
      · have := t1 k; omega
      · omega
    have r2 : y < 2 * (b / 10) ↔ 20 * y + 18 - x < 2 * (20 * (b / 10) + 9 - b % 10) := by
      rcases Int.lt_trichotomy y (2 * (b / 10)) with k | k | k
      · omega
      · have := t2 k; omega
      · omega
    omega
  · omega
def cr2 (a b s : Int) : Prop := 2 * a ≤ s ∧ s < 2 * b ∨ 2 * b ≤ s ∧ s < 2 * a
theorem ray {x y a b : Int} (hx : 0 ≤ x ∧ x ≤ 18) (ha : isPg a) (hb : isPg b) (nab : ¬ a = b) (hz : ¬ (y < 2 * (a / 10) ↔ y < 2 * (b / 10)) → ¬ crT x y (2 * (a % 10)) (2 * (a / 10)) (2 * (b % 10)) (2 * (b / 10)) = 0) : crC x y a b ↔ (cr2 (lv a) (lv b) (20 * y + 18 - x) ∧ FS a b (20 * y + 18 - x) < NN * (18 - x)) := by
  rcases Int.lt_trichotomy (a / 10) (b / 10) with k | k | k
  · rw [ray1 hx ha hb k]
    unfold cr2 lv
    omega
  · have e := FS_x ha hb nab x y
    have N0 := NN_0
    unfold crC
    have z : ¬ (cr2 (lv a) (lv b) (20 * y + 18 - x) ∧ FS a b (20 * y + 18 - x) < NN * (18 - x)) := fun ⟨z1, z2⟩ => by
      have d : ¬ lv b - lv a = 0 := fun z => nab (lv_i (by omega))
      have y2 : y = 2 * (a / 10) := by unfold cr2 lv at z1; omega
      have T0 : crT x y (2 * (a % 10)) (2 * (a / 10)) (2 * (b % 10)) (2 * (b / 10)) = 0 := by
        rw [y2]; unfold crT; rw [k]; grind
      rw [T0, Int.mul_zero] at e
      rcases Int.mul_eq_zero.mp e with w | w <;> omega
    constructor
    · intro w; omega
    · intro w; exact absurd w z
  · have sw : crC x y a b ↔ crC x y b a := by
      have e : crT x y (2 * (b % 10)) (2 * (b / 10)) (2 * (a % 10)) (2 * (a / 10)) = - crT x y (2 * (a % 10)) (2 * (a / 10)) (2 * (b % 10)) (2 * (b / 10)) := by unfold crT; grind
      unfold crC
      rw [e]
      generalize crT x y (2 * (a % 10)) (2 * (a / 10)) (2 * (b % 10)) (2 * (b / 10)) = T at *
      by_cases c : (y < 2 * (a / 10) ↔ y < 2 * (b / 10))
      · omega
      · have := hz c; omega
    rw [sw, ray1 hx hb ha k, FS_sw ha hb nab]
    unfold cr2 lv
    omega
theorem smI_m2 {f g : Int → Int} {n : Int} (h : ∀ k, 0 ≤ k → k < n → f k % 2 = g k % 2) : smI f n % 2 = smI g n % 2 := by
  have key : ∀ m : Nat, (m : Int) ≤ n → sm f m % 2 = sm g m % 2 := by
    intro m
    induction m with
    | zero => intro _; rfl
    | succ m ih =>
      intro hm
      have a := ih (by omega)
      have b := h m (by omega) (by omega)
      show (sm f m + f m) % 2 = (sm g m + g m) % 2
      omega
  by_cases c : 0 ≤ n
  · exact key n.toNat (by omega)
  · unfold smI; rw [show n.toNat = 0 by omega]; rfl
/-- the ray of an end of a way, counted beside the way -/
theorem enc_end {n : Int} {P : Int → Int} (pg : ∀ i, isPg (P i)) (nx : ∀ k, 0 ≤ k → k < n → ¬ P k = P (k + 1)) {a b z u : Int} (ha : isPg a) (hb : isPg b) (nab : ¬ a = b) (hz : z = a ∨ z = b) (hu : u = lv z ∨ u + 1 = lv z) (cx : crx (lv a) (lv b) u) (H : ∀ k, 0 ≤ k → k < n → HP a b (P k) (P (k + 1))) (no : ∀ k, 0 ≤ k → k < n → ¬ onS z (P k) (P (k + 1))) : encN n P (2 * (z % 10)) (2 * (z / 10)) % 2 = LW n P u (FS a b (2 * u + 1)) % 2 := by
  refine smI_m2 (fun k k0 k1 => ?_)
  have no' := no k k0 k1
  have nx' := nx k k0 k1
  have pz : isPg z := by rcases hz with e | e <;> rw [e] <;> assumption
  have R := ray (x := 2 * (z % 10)) (y := 2 * (z / 10)) (by omega) (pg k) (pg (k + 1)) nx' (fun c0 c1 => no' (cr_on c0 c1))
  rw [show 20 * (2 * (z / 10)) + 18 - 2 * (z % 10) = 2 * lv z by unfold lv; omega, show NN * (18 - 2 * (z % 10)) = ps z by unfold ps; grind] at R
  have d1 : ¬ lv (P k) = lv z := fun e => no' (by rw [← lv_i e]; exact onS_a _ _)
  have d2 : ¬ lv (P (k + 1)) = lv z := fun e => no' (by rw [← lv_i e]; exact onS_b _ _)
  have fz : FS a b (2 * lv z) = ps z := by
    rcases hz with e | e <;> rw [e]
    · exact FS_a a b
    · exact FS_b ha hb nab
  have K := H k k0 k1 (2 * lv z) (2 * u + 1)
  rw [fz] at K
  have iz : inc (lv a) (lv b) (2 * lv z) := by unfold inc; rcases hz with e | e <;> rw [e] <;> omega
  have iu : inc (lv a) (lv b) (2 * u + 1) := by unfold inc; unfold crx at cx; omega
  show bI _ % 2 = tr (lv (P k)) (lv (P (k + 1))) u (FS (P k) (P (k + 1)) (2 * u + 1)) (FS a b (2 * u + 1)) % 2
  unfold cr2 at R
  unfold tr dd
  by_cases c : crx (lv (P k)) (lv (P (k + 1))) u
  · unfold crx at c
    have K' := (K iz (by unfold inc; omega) (by unfold ino; omega) iu (by unfold inc; omega) (by unfold ino; omega)).1
    by_cases g : FS (P k) (P (k + 1)) (2 * lv z) < ps z
    · rw [bI_t (R.mpr ⟨by omega, g⟩), if_pos (K'.mp g)]; omega
    · rw [bI_f (fun w => g (R.mp w).2), if_neg (fun w => g (K'.mpr w))]
  · unfold crx at c
    rw [bI_f (fun w => c (by have := (R.mp w).1; omega))]
    have e : (if u < lv (P (k + 1)) then (1 : Int) else 0) - (if u < lv (P k) then 1 else 0) = 0 := by omega
    rw [e, ite_self]
theorem enc_sides {n : Int} {P : Int → Int} (hn : 0 ≤ n) (pn : P n = P 0) (pg : ∀ i, isPg (P i)) (nx : ∀ k, 0 ≤ k → k < n → ¬ P k = P (k + 1)) {a b : Int} (ha : isPg a) (hb : isPg b) (nab : ¬ a = b) (h : ∀ k, 0 ≤ k → k < n → mt a b (P k) (P (k + 1)) = 0) : encN n P (2 * (a % 10)) (2 * (a / 10)) % 2 = encN n P (2 * (b % 10)) (2 * (b / 10)) % 2 := by
  have H : ∀ k, 0 ≤ k → k < n → HP a b (P k) (P (k + 1)) := fun k k0 k1 => hp_nm ha hb (pg _) (pg _) nab (nx k k0 k1) (h k k0 k1)
  have l : ¬ lv a = lv b := fun z => nab (lv_i z)
  have noa : ∀ k, 0 ≤ k → k < n → ¬ onS a (P k) (P (k + 1)) := fun k k0 k1 z => (mt_0.mp (h k k0 k1)).2 (.inr (.inr (.inl z)))
  have nob : ∀ k, 0 ≤ k → k < n → ¬ onS b (P k) (P (k + 1)) := fun k k0 k1 z => (mt_0.mp (h k k0 k1)).2 (.inr (.inr (.inr z)))
  have Lx : ∀ c d : Int, ¬ c = d → ∃ u, (u = c ∨ u + 1 = c) ∧ crx c d u := fun c d cd => by
    by_cases g : c < d
    · exact ⟨c, .inl rfl, by unfold crx; omega⟩
    · exact ⟨c - 1, .inr (by omega), by unfold crx; omega⟩
  obtain ⟨u, u1, u2⟩ := Lx (lv a) (lv b) l
  obtain ⟨v, v1, v2⟩ := Lx (lv b) (lv a) (fun z => l z.symm)
  have v3 : crx (lv a) (lv b) v := by unfold crx at *; omega
  rw [enc_end pg nx ha hb nab (.inl rfl) u1 u2 H noa, enc_end pg nx ha hb nab (.inr rfl) v1 v3 H nob]
  exact congrArg (· % 2) (WW_all (q := fun k => lv (P k)) (Z := fun k => ps (P k)) (F := fun k s => cS (P k) (P (k + 1)) + mS (P k) (P (k + 1)) * s) (f := FS a b) hn (congrArg lv pn) (congrArg ps pn) (fun k k0 k1 z => nx k k0 k1 (lv_i z)) (fun k k0 k1 => ⟨FS_a _ _, FS_b (pg k) (pg (k + 1)) (nx k k0 k1)⟩) (fun k k0 k1 => HX_H (H k k0 k1)) u2 v3)
/-- a count that is full -/
theorem smI_full {p : Int → Prop} {n : Int} (hn : 0 ≤ n) : smI (fun i => bI (p i)) n = n ↔ ∀ i, 0 ≤ i → i < n → p i := by
  have key : ∀ m : Nat, sm (fun i => bI (p i)) m ≤ m ∧ (sm (fun i => bI (p i)) m = m ↔ ∀ i : Int, 0 ≤ i → i < m → p i) := by
    intro m
    induction m with
    | zero => exact ⟨Int.le_refl 0, ⟨fun _ i i0 i1 => by omega, fun _ => rfl⟩⟩
    | succ m ih =>
      have st : sm (fun i => bI (p i)) (m + 1) = sm (fun i => bI (p i)) m + bI (p m) := rfl
      rw [st]
      by_cases c : p m
      · rw [bI_t c]
        refine ⟨by omega, ⟨fun g i i0 i1 => ?_, fun g => ?_⟩⟩
        · by_cases d : i = m
          · rw [d]; exact c
          · exact ih.2.mp (by omega) i i0 (by omega)
        · have := ih.2.mpr (fun i i0 i1 => g i i0 (by omega)); omega
      · rw [bI_f c]
        exact ⟨by omega, ⟨fun g => by omega, fun g => absurd (g m (by omega) (by omega)) c⟩⟩
  have := (key n.toNat).2
  rw [show ((n.toNat : Nat) : Int) = n by omega] at this
  exact this
theorem smI_le2 {f : Int → Int} {n m : Int} (hn : 0 ≤ n) (h : ∀ i, 0 ≤ i → i < n → f i ≤ m) : smI f n ≤ n * m ∧ (smI f n = n * m ↔ ∀ i, 0 ≤ i → i < n → f i = m) := by
  have key : ∀ k : Nat, (k : Int) ≤ n → sm f k ≤ k * m ∧ (sm f k = k * m ↔ ∀ i : Int, 0 ≤ i → i < k → f i = m) := by
    intro k
    induction k with
    | zero => intro _; exact ⟨by show (0 : Int) ≤ _; simp, ⟨fun _ i i0 i1 => by omega, fun _ => by show (0 : Int) = _; simp⟩⟩
    | succ k ih =>
      intro hk
      have ih := ih (by omega)
      have hf := h k (by omega) (by omega)
      have st : sm f (k + 1) = sm f k + f k := rfl
      have e : ((k + 1 : Nat) : Int) * m = k * m + m := by rw [show ((k + 1 : Nat) : Int) = (k : Int) + 1 by omega]; grind
      rw [st, e]
      refine ⟨by omega, ⟨fun g i i0 i1 => ?_, fun g => ?_⟩⟩
      · by_cases d : i = k
        · rw [d]; omega
        · exact ih.2.mp (by omega) i i0 (by omega)
      · have a := ih.2.mpr (fun i i0 i1 => g i i0 (by omega))
        have b := g k (by omega) (by omega)
        omega
  have := key n.toNat (by omega)
  rw [show ((n.toNat : Nat) : Int) = n by omega] at this
  exact this
theorem meet_full {n : Int} {P : Int → Int} {m : Int} {Q : Int → Int} (hn : 0 ≤ n) (hm : 0 ≤ m) (how : Int) : meetN n P m Q how = n * m ↔ ∀ i j, 0 ≤ i → i < n → 0 ≤ j → j < m → mt (P i) (P (i + 1)) (Q j) (Q (j + 1)) = how := by
  have a := smI_le2 (f := fun i => smI (fun j => bI (mt (P i) (P (i + 1)) (Q j) (Q (j + 1)) = how)) m) (n := n) (m := m) hn (fun i _ _ => by
    have := (smI_le2 (f := fun j => bI (mt (P i) (P (i + 1)) (Q j) (Q (j + 1)) = how)) (n := m) (m := 1) hm (fun j _ _ => by unfold bI; split <;> omega)).1
    omega)
  refine a.2.trans ⟨fun h i j i0 i1 j0 j1 => (smI_full hm).mp (h i i0 i1) j j0 j1, fun h i i0 i1 => (smI_full hm).mpr (fun j j0 j1 => h i j i0 i1 j0 j1)⟩
/-- one band lies in another if nothing meets and its first corner is within -/
theorem lie_iff {n : Int} {P : Int → Int} {m : Int} {Q : Int → Int} (hn : 1 ≤ n) (hm : 0 ≤ m) (qn : Q m = Q 0) (pgP : ∀ i, isPg (P i)) (pgQ : ∀ i, isPg (Q i)) (nxP : ∀ k, 0 ≤ k → k < n → ¬ P k = P (k + 1)) (nxQ : ∀ k, 0 ≤ k → k < m → ¬ Q k = Q (k + 1)) : lieB n P m Q ↔ (∀ i j, 0 ≤ i → i < n → 0 ≤ j → j < m → mt (P i) (P (i + 1)) (Q j) (Q (j + 1)) = 0) ∧ wthB m Q (P 0) := by
  unfold lieB
  rw [meet_full (by omega) hm]
  refine ⟨fun h => ⟨h.1, h.2 0 (by omega) (by omega)⟩, fun h => ⟨h.1, ?_⟩⟩
  have key : ∀ k : Nat, (k : Int) < n → wthB m Q (P k) := by
    intro k
    induction k with
    | zero => intro _; exact h.2
    | succ k ih =>
      intro hk
      have e := enc_sides hm qn pgQ nxQ (pgP k) (pgP (k + 1)) (nxP k (by omega) (by omega)) (fun j j0 j1 => h.1 k j (by omega) (by omega) j0 j1)
      rw [show ((k + 1 : Nat) : Int) = (k : Int) + 1 by omega]
      refine ⟨fun ⟨j, j0, j1, z⟩ => (mt_0.mp (h.1 k j (by omega) (by omega) j0 j1)).2 (.inr (.inr (.inr z))), ?_⟩
      have w := (ih (by omega)).2
      unfold encB at w ⊢
      omega
  intro i i0 i1
  have := key i.toNat (by omega)
  rw [show ((i.toNat : Nat) : Int) = i by omega] at this
  exact this
