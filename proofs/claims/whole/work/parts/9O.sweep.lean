/-! ===== a sweep over a closed way: levels, sides that cross a level, how many lie to the left ===== -/
theorem smI_tel {h g : Int → Int} {n : Int} (hn : 0 ≤ n) (e : ∀ k, 0 ≤ k → k < n → h k = g (k + 1) - g k) : smI h n = g n - g 0 := by
  have key : ∀ m : Nat, (m : Int) ≤ n → sm h m = g m - g 0 := by
    intro m
    induction m with
    | zero => intro _; show (0 : Int) = g 0 - g 0; omega
    | succ m ih =>
      intro hm
      have a := ih (by omega)
      have b := e m (by omega) (by omega)
      show sm h m + h m = g ((m + 1 : Nat) : Int) - g 0
      rw [a, b, show ((m + 1 : Nat) : Int) = (m : Int) + 1 by omega]
      omega
  have := key n.toNat (by omega)
  unfold smI
  rw [this, show ((n.toNat : Nat) : Int) = n by omega]
theorem smI_one {g h : Int → Int} {n o : Int} (h0 : 0 ≤ o) (h1 : o < n) (e : ∀ k, 0 ≤ k → k < n → ¬ k = o → g k = h k) : smI g n = smI h n + (g o - h o) := by
  have key : ∀ m : Nat, (m : Int) ≤ n → sm g m = sm h m + (if o < m then g o - h o else 0) := by
    intro m
    induction m with
    | zero => intro _; show (0 : Int) = 0 + _; rw [if_neg (by omega)]; rfl
    | succ m ih =>
      intro hm
      have a := ih (by omega)
      show sm g m + g m = sm h m + h m + _
      by_cases c : (m : Int) = o
      · rw [a, if_neg (by omega), if_pos (by omega), c]; omega
      · have b := e m (by omega) (by omega) c
        by_cases d : o < m
        · rw [a, if_pos d, if_pos (by omega), b]; omega
        · rw [a, if_neg d, if_neg (by omega), b]; omega
  have := key n.toNat (by omega)
  unfold smI
  rw [this, if_pos (by omega)]
theorem sm_z {f : Int → Int} (n : Int) (h : ∀ i, 0 ≤ i → i < n → f i = 0) : smI f n = 0 := by
  have key : ∀ m : Nat, (m : Int) ≤ n → sm f m = 0 := by
    intro m
    induction m with
    | zero => intro _; rfl
    | succ m ih => intro hm; show sm f m + f m = 0; rw [ih (by omega), h m (by omega) (by omega)]; rfl
  by_cases c : 0 ≤ n
  · exact key n.toNat (by omega)
  · unfold smI; rw [show n.toNat = 0 by omega]; rfl
theorem smI_swap (g : Int → Int → Int) (n m : Int) : smI (fun i => smI (g i) m) n = smI (fun j => smI (fun i => g i j) n) m := by
  have key : ∀ a : Nat, sm (fun i => smI (g i) m) a = smI (fun j => sm (fun i => g i j) a) m := by
    intro a
    induction a with
    | zero => exact (sm_z m (fun _ _ _ => rfl)).symm
    | succ a ih =>
      show sm (fun i => smI (g i) m) a + smI (g a) m = _
      rw [ih]
      exact (smI_ad (fun j _ _ => rfl)).symm
  exact key n.toNat
theorem smI_mul (c : Int) (f : Int → Int) (n : Int) : smI (fun i => c * f i) n = c * smI f n := by
  unfold smI
  induction n.toNat with
  | zero => show (0 : Int) = c * 0; omega
  | succ m ih => show sm (fun i => c * f i) m + c * f m = c * (sm f m + f m); rw [ih]; grind
theorem smI_ge {f : Int → Int} {n : Int} (h : ∀ i, 0 ≤ i → i < n → 0 ≤ f i) : 0 ≤ smI f n := by
  have key : ∀ m : Nat, (m : Int) ≤ n → 0 ≤ sm f m := by
    intro m
    induction m with
    | zero => intro _; exact Int.le_refl 0
    | succ m ih => intro hm; show 0 ≤ sm f m + f m; have := ih (by omega); have := h m (by omega) (by omega); omega
  by_cases c : 0 ≤ n
  · exact key n.toNat (by omega)
  · unfold smI; rw [show n.toNat = 0 by omega]; exact Int.le_refl 0
theorem smI_gt {f : Int → Int} {n o : Int} (h : ∀ i, 0 ≤ i → i < n → 0 ≤ f i) (h0 : 0 ≤ o) (h1 : o < n) (hp : 0 < f o) : 0 < smI f n := by
  have a := smI_one (g := f) (h := fun k => if k = o then 0 else f k) h0 h1 (fun k _ _ c => (if_neg c).symm)
  rw [if_pos rfl] at a
  have b : 0 ≤ smI (fun k => if k = o then 0 else f k) n := smI_ge (fun i i0 i1 => by
    by_cases c : i = o
    · rw [if_pos c]; exact Int.le_refl 0
    · rw [if_neg c]; exact h i i0 i1)
  omega
def inc (a b s : Int) : Prop := 2 * a ≤ s ∧ s ≤ 2 * b ∨ 2 * b ≤ s ∧ s ≤ 2 * a
def ino (a b s : Int) : Prop := 2 * a < s ∧ s < 2 * b ∨ 2 * b < s ∧ s < 2 * a
def crx (a b u : Int) : Prop := a ≤ u ∧ u < b ∨ b ≤ u ∧ u < a
/-- two ways keep their order wherever both are, but for an end that both share -/
def HH (a b c d : Int) (f g : Int → Int) : Prop := ∀ s t, inc a b s → inc c d s → (ino a b s ∨ ino c d s) → inc a b t → inc c d t → (ino a b t ∨ ino c d t) → (g s < f s ↔ g t < f t)
def dd (a b u : Int) : Int := (if u < b then 1 else 0) - (if u < a then 1 else 0)
def tr (a b u x y : Int) : Int := if x < y then dd a b u else 0
def WW (n : Int) (q : Int → Int) (F : Int → Int → Int) (u t : Int) : Int := smI (fun k => tr (q k) (q (k + 1)) u (F k (2 * u + 1)) t) n
theorem ww_1 {qa qb u x1 x2 x3 y1 y2 y3 za zb : Int} (hk : ¬ qa = qb) (e1 : qa = u + 1 → x2 = za) (e2 : qb = u + 1 → x2 = zb) 
  (A : inc qa qb (2 * (u + 1)) → inc qa qb (2 * u + 1) → (x2 < y2 ↔ x1 < y1)) (B : inc qa qb (2 * (u + 1)) → inc qa qb (2 * (u + 1) + 1) → (x2 < y2 ↔ x3 < y3)) (C : inc qa qb (2 * u + 1) → inc qa qb (2 * (u + 1) + 1) → (x1 < y1 ↔ x3 < y3)) : tr qa qb u x1 y1 - tr qa qb (u + 1) x3 y3 = (if qb = u + 1 ∧ zb < y2 then (1 : Int) else 0) - (if qa = u + 1 ∧ za < y2 then (1 : Int) else 0) := by
  unfold inc at A B C
  unfold tr dd
  by_cases g1 : qa = u + 1
  · have e := e1 g1
    by_cases g2 : qb < u + 1
    · have a := A (by omega) (by omega); omega
    · have a := B (by omega) (by omega); omega
  · by_cases g3 : qb = u + 1
    · have e := e2 g3
      by_cases g2 : qa < u + 1
      · have a := A (by omega) (by omega); omega
      · have a := B (by omega) (by omega); omega
    · by_cases g4 : inc qa qb (2 * u + 1) ∧ inc qa qb (2 * (u + 1) + 1)
      · have a := C g4.1 g4.2; omega
      · unfold inc at g4; omega
theorem WW_step {n : Int} {q Z : Int → Int} {F : Int → Int → Int} {a b : Int} {f : Int → Int} {u : Int} (hn : 0 ≤ n) (hq : q n = q 0) (hZ : Z n = Z 0) (hd : ∀ k, 0 ≤ k → k < n → ¬ q k = q (k + 1)) (h0 : ∀ k, 0 ≤ k → k < n → F k (2 * q k) = Z k ∧ F k (2 * q (k + 1)) = Z (k + 1)) (hH : ∀ k, 0 ≤ k → k < n → HH a b (q k) (q (k + 1)) f (F k)) (c1 : crx a b u) (c2 : crx a b (u + 1)) : WW n q F u (f (2 * u + 1)) = WW n q F (u + 1) (f (2 * (u + 1) + 1)) := by
  have key : smI (fun k => tr (q k) (q (k + 1)) u (F k (2 * u + 1)) (f (2 * u + 1)) - tr (q k) (q (k + 1)) (u + 1) (F k (2 * (u + 1) + 1)) (f (2 * (u + 1) + 1))) n = (fun k => if q k = u + 1 ∧ Z k < f (2 * (u + 1)) then (1 : Int) else 0) n - (fun k => if q k = u + 1 ∧ Z k < f (2 * (u + 1)) then (1 : Int) else 0) 0 := by
    refine smI_tel (g := fun k => if q k = u + 1 ∧ Z k < f (2 * (u + 1)) then (1 : Int) else 0) hn (fun k k0 k1 => ?_)
    obtain ⟨z1, z2⟩ := h0 k k0 k1
    have H := hH k k0 k1
    unfold crx at c1 c2
    have i1 : inc a b (2 * (u + 1)) := by unfold inc; omega
    have i2 : inc a b (2 * u + 1) := by unfold inc; omega
    have i3 : inc a b (2 * (u + 1) + 1) := by unfold inc; omega
    have o1 : ino a b (2 * (u + 1)) := by unfold ino; omega
    have o2 : ino a b (2 * u + 1) := by unfold ino; omega
    have o3 : ino a b (2 * (u + 1) + 1) := by unfold ino; omega
    exact ww_1 (hd k k0 k1) (fun e => by rw [← e]; exact z1) (fun e => by rw [← e]; exact z2) (fun p r => H _ _ i1 p (.inl o1) i2 r (.inl o2)) (fun p r => H _ _ i1 p (.inl o1) i3 r (.inl o3)) (fun p r => H _ _ i2 p (.inl o2) i3 r (.inl o3))
  have sp : WW n q F u (f (2 * u + 1)) = smI (fun k => tr (q k) (q (k + 1)) u (F k (2 * u + 1)) (f (2 * u + 1)) - tr (q k) (q (k + 1)) (u + 1) (F k (2 * (u + 1) + 1)) (f (2 * (u + 1) + 1))) n + WW n q F (u + 1) (f (2 * (u + 1) + 1)) := smI_ad (fun k _ _ => by omega)
  rw [sp, key]
  simp only [hq, hZ]
  omega
/-- along one way that keeps its order with all sides, the number to its left stays -/
theorem WW_along {n : Int} {q Z : Int → Int} {F : Int → Int → Int} {a b : Int} {f : Int → Int} (hn : 0 ≤ n) (hq : q n = q 0) (hZ : Z n = Z 0) (hd : ∀ k, 0 ≤ k → k < n → ¬ q k = q (k + 1)) (h0 : ∀ k, 0 ≤ k → k < n → F k (2 * q k) = Z k ∧ F k (2 * q (k + 1)) = Z (k + 1)) (hH : ∀ k, 0 ≤ k → k < n → HH a b (q k) (q (k + 1)) f (F k)) : ∀ (d : Nat) {u : Int}, crx a b u → crx a b (u + d) → WW n q F u (f (2 * u + 1)) = WW n q F (u + d) (f (2 * (u + d) + 1))
  | 0, u, _, _ => by rw [show u + ((0 : Nat) : Int) = u by omega]
  | d + 1, u, c1, c2 => by
    have c3 : crx a b (u + d) := by unfold crx at *; omega
    rw [WW_along hn hq hZ hd h0 hH d c1 c3, show u + ((d + 1 : Nat) : Int) = u + d + 1 by omega]
    exact WW_step hn hq hZ hd h0 hH c3 (by rw [show u + (d : Int) + 1 = u + ((d + 1 : Nat) : Int) by omega]; exact c2)
theorem WW_all {n : Int} {q Z : Int → Int} {F : Int → Int → Int} {a b : Int} {f : Int → Int} (hn : 0 ≤ n) (hq : q n = q 0) (hZ : Z n = Z 0) (hd : ∀ k, 0 ≤ k → k < n → ¬ q k = q (k + 1)) (h0 : ∀ k, 0 ≤ k → k < n → F k (2 * q k) = Z k ∧ F k (2 * q (k + 1)) = Z (k + 1)) (hH : ∀ k, 0 ≤ k → k < n → HH a b (q k) (q (k + 1)) f (F k)) {u v : Int} (c1 : crx a b u) (c2 : crx a b v) : WW n q F u (f (2 * u + 1)) = WW n q F v (f (2 * v + 1)) := by
  by_cases c : u ≤ v
  · have := WW_along hn hq hZ hd h0 hH (v - u).toNat c1 (by rw [show u + ((v - u).toNat : Int) = v by omega]; exact c2)
    rw [show u + ((v - u).toNat : Int) = v by omega] at this
    exact this
  · have := WW_along hn hq hZ hd h0 hH (u - v).toNat c2 (by rw [show v + ((u - v).toNat : Int) = u by omega]; exact c1)
    rw [show v + ((u - v).toNat : Int) = u by omega] at this
    exact this.symm
/-- a closed way whose sides keep their order -/
def PG (n : Int) (q Z : Int → Int) (F : Int → Int → Int) : Prop := 2 ≤ n ∧ q n = q 0 ∧ Z n = Z 0 ∧ (∀ i j, 0 ≤ i → i < n → 0 ≤ j → j < n → q i = q j → i = j) ∧ (∀ k, 0 ≤ k → k < n → F k (2 * q k) = Z k ∧ F k (2 * q (k + 1)) = Z (k + 1)) ∧ (∀ i k, 0 ≤ i → i < n → 0 ≤ k → k < n → ¬ i = k → HH (q i) (q (i + 1)) (q k) (q (k + 1)) (F i) (F k)) ∧ (∀ i k u, 0 ≤ i → i < n → 0 ≤ k → k < n → ¬ i = k → crx (q i) (q (i + 1)) u → crx (q k) (q (k + 1)) u → ¬ F i (2 * u + 1) = F k (2 * u + 1))
theorem PG_d {n : Int} {q Z : Int → Int} {F : Int → Int → Int} (h : PG n q Z F) {k : Int} (k0 : 0 ≤ k) (k1 : k < n) : ¬ q k = q (k + 1) := by
  obtain ⟨n2, hq, _, hi, _⟩ := h
  intro e
  by_cases c : k + 1 = n
  · rw [c, hq] at e
    have := hi k 0 k0 k1 (by omega) (by omega) e
    omega
  · have := hi k (k + 1) k0 k1 (by omega) (by omega) e
    omega
theorem PG_own {n : Int} {q Z : Int → Int} {F : Int → Int → Int} (h : PG n q Z F) {i : Int} (i0 : 0 ≤ i) (i1 : i < n) {u v : Int} (c1 : crx (q i) (q (i + 1)) u) (c2 : crx (q i) (q (i + 1)) v) : WW n q F u (F i (2 * u + 1)) = WW n q F v (F i (2 * v + 1)) := by
  refine WW_all (Z := Z) (by have := h.1; omega) h.2.1 h.2.2.1 (fun k k0 k1 => PG_d h k0 k1) h.2.2.2.2.1 (fun k k0 k1 => ?_) c1 c2
  by_cases c : i = k
  · subst c
    intro s t _ _ _ _ _ _
    constructor <;> intro g <;> exact absurd g (Int.lt_irrefl _)
  · exact h.2.2.2.2.2.1 i k i0 i1 k0 k1 c
def rr (a b v x y : Int) : Int := if x < y then (if a < v ∧ v < b then 1 else if b < v ∧ v < a then -1 else 0) else 0
def RR (n : Int) (q Z : Int → Int) (F : Int → Int → Int) (j : Int) : Int := smI (fun k => rr (q k) (q (k + 1)) (q j) (F k (2 * q j)) (Z j)) n
theorem ww_2 {qa qb a b v u x1 x2 y1 y2 : Int} (hv : u = v ∨ u + 1 = v) (cx : crx a b u) (e1 : ¬ qa = v) (e2 : ¬ qb = v) (A : inc qa qb (2 * v) → inc qa qb (2 * u + 1) → (ino a b (2 * v) ∨ ino qa qb (2 * v)) → (ino a b (2 * u + 1) ∨ ino qa qb (2 * u + 1)) → (x2 < y2 ↔ x1 < y1)) : tr qa qb u x1 y1 = rr qa qb v x2 y2 := by
  unfold tr dd rr
  unfold crx at cx
  unfold inc ino at A
  by_cases c : qa < v ∧ v < qb ∨ qb < v ∧ v < qa
  · have a := A (by omega) (by omega) (by omega) (by omega)
    clear A
    by_cases g : x2 < y2
    · rw [if_pos (a.mp g), if_pos g]; omega
    · rw [if_neg (fun z => g (a.mpr z)), if_neg g]
  · clear A
    have e : (if u < qb then (1 : Int) else 0) - (if u < qa then 1 else 0) = 0 := by omega
    have e' : (if qa < v ∧ v < qb then (1 : Int) else if qb < v ∧ v < qa then -1 else 0) = 0 := by omega
    rw [e, e']
    rw [ite_self, ite_self]
theorem PG_at {n : Int} {q Z : Int → Int} {F : Int → Int → Int} (h : PG n q Z F) {j i o u : Int} (j0 : 1 ≤ j) (j1 : j < n) (hio : i = j - 1 ∧ o = j ∨ i = j ∧ o = j - 1) (hu : u = q j ∨ u + 1 = q j) (cx : crx (q i) (q (i + 1)) u) : WW n q F u (F i (2 * u + 1)) = RR n q Z F j + tr (q o) (q (o + 1)) u (F o (2 * u + 1)) (F i (2 * u + 1)) := by
  have H := h
  obtain ⟨n2, hq, hZ, hi, h0, hH, hN⟩ := h
  have ro : ∀ k, k = j ∨ k + 1 = j → ∀ x y, rr (q k) (q (k + 1)) (q j) x y = 0 := by
    intro k hk x y
    unfold rr
    rcases hk with e | e <;> rw [e] <;> (split <;> omega)
  have e := smI_one (g := fun k => tr (q k) (q (k + 1)) u (F k (2 * u + 1)) (F i (2 * u + 1))) (h := fun k => rr (q k) (q (k + 1)) (q j) (F k (2 * q j)) (Z j)) (n := n) (o := o) (by omega) (by omega) (fun k k0 k1 ko => by
    by_cases c : k = i
    · rw [ro k (by omega), c]; unfold tr; rw [if_neg (Int.lt_irrefl _)]
    · have d1 : ¬ q k = q j := fun e => by have := hi k j k0 k1 (by omega) j1 e; omega
      have d2 : ¬ q (k + 1) = q j := fun e => by
        by_cases c : k + 1 = n
        · rw [c, hq] at e
          have := hi 0 j (by omega) (by omega) (by omega) j1 e
          omega
        · have := hi (k + 1) j (by omega) (by omega) (by omega) j1 e
          omega
      have zi : F i (2 * q j) = Z j := by
        rcases hio with e | e
        · have := (h0 i (by omega) (by omega)).2
          rw [show i + 1 = j by omega] at this; exact this
        · have := (h0 i (by omega) (by omega)).1
          rw [e.1] at this ⊢; exact this
      have K := hH i k (by omega) (by omega) k0 k1 (fun e => c e.symm) (2 * q j) (2 * u + 1)
      rw [zi] at K
      have ij : inc (q i) (q (i + 1)) (2 * q j) := by
        unfold inc
        rcases hio with e | e
        · rw [show i + 1 = j by omega]; omega
        · rw [e.1]; omega
      have iu : inc (q i) (q (i + 1)) (2 * u + 1) := by unfold inc; unfold crx at cx; omega
      exact ww_2 hu cx d1 d2 (fun p r s t => K ij p s iu r t))
  have r0 := ro o (by omega)
  simp only [r0] at e
  unfold WW RR
  rw [e]
  omega
def dr (a b : Int) : Int := if a < b then 1 else -1
theorem PG_nx {n : Int} {q Z : Int → Int} {F : Int → Int → Int} (h : PG n q Z F) {j u v : Int} (j0 : 1 ≤ j) (j1 : j < n) (c1 : crx (q (j - 1)) (q j) u) (c2 : crx (q j) (q (j + 1)) v) : dr (q (j - 1)) (q j) + 2 * WW n q F u (F (j - 1) (2 * u + 1)) = dr (q j) (q (j + 1)) + 2 * WW n q F v (F j (2 * v + 1)) := by
  have p1 : j - 1 + 1 = j := by omega
  have d1 := PG_d h (k := j - 1) (by omega) (by omega)
  have d2 := PG_d h (k := j) (by omega) (by omega)
  rw [p1] at d1
  -- the levels next to the corner
  have L1 : ∃ u', (u' = q j ∨ u' + 1 = q j) ∧ crx (q (j - 1)) (q j) u' ∧ (u' = q j ↔ q j < q (j - 1)) := by
    by_cases c : q j < q (j - 1)
    · exact ⟨q j, .inl rfl, by unfold crx; omega, by omega⟩
    · exact ⟨q j - 1, .inr (by omega), by unfold crx; omega, by omega⟩
  have L2 : ∃ v', (v' = q j ∨ v' + 1 = q j) ∧ crx (q j) (q (j + 1)) v' ∧ (v' = q j ↔ q j < q (j + 1)) := by
    by_cases c : q j < q (j + 1)
    · exact ⟨q j, .inl rfl, by unfold crx; omega, by omega⟩
    · exact ⟨q j - 1, .inr (by omega), by unfold crx; omega, by omega⟩
  obtain ⟨u', a1, a2, a3⟩ := L1
  obtain ⟨v', b1, b2, b3⟩ := L2
  have x1 := PG_own h (i := j - 1) (by omega) (by omega) (by rw [p1]; exact c1) (by rw [p1]; exact a2)
  have x2 := PG_own h (i := j) (by omega) (by omega) c2 b2
  have y1 := PG_at h (i := j - 1) (o := j) j0 j1 (.inl ⟨rfl, rfl⟩) a1 (by rw [p1]; exact a2)
  have y2 := PG_at h (i := j) (o := j - 1) j0 j1 (.inr ⟨rfl, rfl⟩) b1 b2
  rw [p1] at y2
  rw [x1, x2, y1, y2]
  unfold dr tr dd
  by_cases s1 : q j < q (j - 1) <;> by_cases s2 : q j < q (j + 1)
  · have e1 : u' = q j := a3.mpr s1
    have e2 : v' = q j := b3.mpr s2
    have ne := h.2.2.2.2.2.2 (j - 1) j u' (by omega) (by omega) (by omega) (by omega) (by omega) (by rw [p1]; exact a2) (by rw [show u' = v' by omega]; exact b2)
    have e3 : v' = u' := by omega
    rw [e3]
    omega
  · omega
  · omega
  · have e1 : u' = q j - 1 := by omega
    have e2 : v' = q j - 1 := by omega
    have ne := h.2.2.2.2.2.2 (j - 1) j u' (by omega) (by omega) (by omega) (by omega) (by omega) (by rw [p1]; exact a2) (by rw [show u' = v' by omega]; exact b2)
    have e3 : v' = u' := by omega
    rw [e3]
    omega
theorem crx_ex {a b : Int} (h : ¬ a = b) : ∃ u, crx a b u := by
  by_cases c : a < b
  · exact ⟨a, by unfold crx; omega⟩
  · exact ⟨b, by unfold crx; omega⟩
theorem PG_V {n : Int} {q Z : Int → Int} {F : Int → Int → Int} (h : PG n q Z F) : ∃ s, ∀ i u, 0 ≤ i → i < n → crx (q i) (q (i + 1)) u → dr (q i) (q (i + 1)) + 2 * WW n q F u (F i (2 * u + 1)) = s := by
  obtain ⟨u0, hu0⟩ := crx_ex (PG_d h (k := 0) (by omega) (by have := h.1; omega))
  refine ⟨dr (q 0) (q (0 + 1)) + 2 * WW n q F u0 (F 0 (2 * u0 + 1)), ?_⟩
  have key : ∀ m : Nat, (m : Int) < n → ∀ u, crx (q m) (q (m + 1)) u → dr (q m) (q (m + 1)) + 2 * WW n q F u (F m (2 * u + 1)) = dr (q 0) (q (0 + 1)) + 2 * WW n q F u0 (F 0 (2 * u0 + 1)) := by
    intro m
    induction m with
    | zero => intro hm u cu; have := PG_own h (i := 0) (by omega) hm cu hu0; show dr (q 0) (q (0 + 1)) + 2 * WW n q F u (F 0 (2 * u + 1)) = _; rw [this]
    | succ m ih =>
      intro hm u cu
      obtain ⟨v, hv⟩ := crx_ex (PG_d h (k := m) (by omega) (by omega))
      rw [← ih (by omega) v hv]
      have e := PG_nx h (j := (m : Int) + 1) (u := v) (v := u) (by omega) (by omega) (by rw [show (m : Int) + 1 - 1 = m by omega]; exact hv) (by rw [show ((m + 1 : Nat) : Int) = (m : Int) + 1 by omega] at cu; exact cu)
      rw [show (m : Int) + 1 - 1 = m by omega] at e
      rw [show ((m + 1 : Nat) : Int) = (m : Int) + 1 by omega]
      exact e.symm
  intro i u i0 i1 cu
  have := key i.toNat (by omega) u
  rw [show ((i.toNat : Nat) : Int) = i by omega] at this
  exact this cu
/-- the least of some numbers -/
theorem ex_min (p : Int → Prop) (f : Int → Int) : ∀ n : Nat, (∃ k : Int, 0 ≤ k ∧ k < n ∧ p k) → ∃ k : Int, 0 ≤ k ∧ k < n ∧ p k ∧ ∀ l : Int, 0 ≤ l → l < n → p l → f k ≤ f l := by
  intro n
  induction n with
  | zero => intro ⟨k, a, b, _⟩; omega
  | succ n ih =>
    intro ⟨k, k0, k1, pk⟩
    by_cases c : ∃ k : Int, 0 ≤ k ∧ k < n ∧ p k
    · obtain ⟨m, m0, m1, pm, hm⟩ := ih c
      by_cases d : p n ∧ f n < f m
      · refine ⟨n, by omega, by omega, d.1, fun l l0 l1 pl => ?_⟩
        by_cases g : l = n
        · rw [g]; omega
        · have := hm l l0 (by omega) pl; omega
      · refine ⟨m, m0, by omega, pm, fun l l0 l1 pl => ?_⟩
        by_cases g : l = n
        · rw [g] at pl ⊢; exact Int.not_lt.mp (fun z => d ⟨pl, z⟩)
        · exact hm l l0 (by omega) pl
    · have e : k = n := by
        refine Classical.byContradiction (fun z => c ⟨k, k0, by omega, pk⟩)
      refine ⟨k, k0, k1, pk, fun l l0 l1 pl => ?_⟩
      by_cases g : l = n
      · rw [g, e]; exact Int.le_refl _
      · exact absurd ⟨l, l0, by omega, pl⟩ c
theorem PG_min {n : Int} {q Z : Int → Int} {F : Int → Int → Int} (h : PG n q Z F) {u : Int} (hc : ∃ k, 0 ≤ k ∧ k < n ∧ crx (q k) (q (k + 1)) u) : ∃ i, 0 ≤ i ∧ i < n ∧ crx (q i) (q (i + 1)) u ∧ WW n q F u (F i (2 * u + 1)) = 0 ∧ ∀ k, 0 ≤ k → k < n → crx (q k) (q (k + 1)) u → F i (2 * u + 1) ≤ F k (2 * u + 1) := by
  obtain ⟨k, k0, k1, ck⟩ := hc
  obtain ⟨i, i0, i1, ci, hi⟩ := ex_min (fun k => crx (q k) (q (k + 1)) u) (fun k => F k (2 * u + 1)) n.toNat ⟨k, k0, by omega, ck⟩
  refine ⟨i, i0, by omega, ci, sm_z n (fun k k0 k1 => ?_), fun k k0 k1 => hi k k0 (by omega)⟩
  unfold tr dd
  by_cases c : crx (q k) (q (k + 1)) u
  · have := hi k k0 (by omega) c
    rw [if_neg (by omega)]
  · unfold crx at c
    have e : (if u < q (k + 1) then (1 : Int) else 0) - (if u < q k then 1 else 0) = 0 := by omega
    rw [e, ite_self]
theorem PG_s {n : Int} {q Z : Int → Int} {F : Int → Int → Int} (h : PG n q Z F) : ∃ s, (s = 1 ∨ s = -1) ∧ ∀ i u, 0 ≤ i → i < n → crx (q i) (q (i + 1)) u → dr (q i) (q (i + 1)) + 2 * WW n q F u (F i (2 * u + 1)) = s := by
  obtain ⟨s, hs⟩ := PG_V h
  refine ⟨s, ?_, hs⟩
  obtain ⟨u, hu⟩ := crx_ex (PG_d h (k := 0) (by omega) (by have := h.1; omega))
  obtain ⟨i, i0, i1, ci, e, _⟩ := PG_min h ⟨0, by omega, by have := h.1; omega, hu⟩
  have := hs i u i0 i1 ci
  rw [e] at this
  unfold dr at this
  omega
/-- at a level, wherever one stands, the sides to the left add up to 0 or to s -/
theorem PG_lv {n : Int} {q Z : Int → Int} {F : Int → Int → Int} (h : PG n q Z F) {s : Int} (hs1 : s = 1 ∨ s = -1) (hs : ∀ i u, 0 ≤ i → i < n → crx (q i) (q (i + 1)) u → dr (q i) (q (i + 1)) + 2 * WW n q F u (F i (2 * u + 1)) = s) (u t : Int) : WW n q F u t = 0 ∨ WW n q F u t = s := by
  by_cases c : ∃ k, 0 ≤ k ∧ k < n ∧ (crx (q k) (q (k + 1)) u ∧ F k (2 * u + 1) < t)
  · obtain ⟨k, k0, k1, ck⟩ := c
    obtain ⟨i, i0, i1, ci, hi⟩ := ex_min (fun k => crx (q k) (q (k + 1)) u ∧ F k (2 * u + 1) < t) (fun k => - F k (2 * u + 1)) n.toNat ⟨k, k0, by omega, ck⟩
    have i1 : i < n := by omega
    have e := smI_one (g := fun k => tr (q k) (q (k + 1)) u (F k (2 * u + 1)) t) (h := fun k => tr (q k) (q (k + 1)) u (F k (2 * u + 1)) (F i (2 * u + 1))) (n := n) (o := i) i0 i1 (fun k k0 k1 ki => by
      unfold tr dd
      by_cases c : crx (q k) (q (k + 1)) u
      · by_cases d : F k (2 * u + 1) < t
        · have := hi k k0 (by omega) ⟨c, d⟩
          have ne := h.2.2.2.2.2.2 k i u k0 k1 i0 i1 ki c ci.1
          have z : F k (2 * u + 1) < F i (2 * u + 1) := by omega
          rw [if_pos d, if_pos z]
        · have z : ¬ F k (2 * u + 1) < F i (2 * u + 1) := by omega
          rw [if_neg d, if_neg z]
      · unfold crx at c
        have e : (if u < q (k + 1) then (1 : Int) else 0) - (if u < q k then 1 else 0) = 0 := by omega
        rw [e, ite_self, ite_self])
    have g : tr (q i) (q (i + 1)) u (F i (2 * u + 1)) t - tr (q i) (q (i + 1)) u (F i (2 * u + 1)) (F i (2 * u + 1)) = dr (q i) (q (i + 1)) := by
      unfold tr dd dr
      rw [if_pos ci.2, if_neg (Int.lt_irrefl _)]
      have := ci.1
      unfold crx at this
      omega
    have w := hs i u i0 i1 ci.1
    simp only [g] at e
    unfold WW at w ⊢
    rw [e]
    unfold dr at w ⊢
    omega
  · left
    refine sm_z n (fun k k0 k1 => ?_)
    unfold tr dd
    by_cases d : F k (2 * u + 1) < t
    · have : ¬ crx (q k) (q (k + 1)) u := fun z => c ⟨k, k0, k1, z, d⟩
      unfold crx at this
      rw [if_pos d]; omega
    · rw [if_neg d]
def SS1 (n : Int) (q : Int → Int) (F : Int → Int → Int) (u : Int) : Int := smI (fun k => dd (q k) (q (k + 1)) u * F k (2 * u + 1)) n
theorem sm_cnt (x : Int) (hx : 0 ≤ x) : ∀ m : Nat, sm (fun t => if x < t then 1 else 0) m = if x < m then m - 1 - x else 0
  | 0 => by rw [if_neg (by omega)]; rfl
  | m + 1 => by
    have e := sm_cnt x hx m
    show sm (fun t => if x < t then 1 else 0) m + (if x < (m : Int) then 1 else 0) = _
    rw [e]
    omega
theorem PG_S {n : Int} {q Z : Int → Int} {F : Int → Int → Int} (h : PG n q Z F) {M : Int} (hM : ∀ k u, 0 ≤ k → k < n → crx (q k) (q (k + 1)) u → 0 ≤ F k (2 * u + 1) ∧ F k (2 * u + 1) + 1 < M) (u : Int) : SS1 n q F u = - smI (fun t => WW n q F u t) M := by
  have n0 := h.1
  have z : smI (fun k => dd (q k) (q (k + 1)) u) n = 0 := by
    have t := smI_tel (h := fun k => dd (q k) (q (k + 1)) u) (g := fun k => if u < q k then (1 : Int) else 0) (n := n) (by omega) (fun k _ _ => rfl)
    rw [t, h.2.1]; omega
  have sw : smI (fun t => WW n q F u t) M = smI (fun k => smI (fun t => tr (q k) (q (k + 1)) u (F k (2 * u + 1)) t) M) n := smI_swap (fun t k => tr (q k) (q (k + 1)) u (F k (2 * u + 1)) t) M n
  have e : ∀ k, 0 ≤ k → k < n → smI (fun t => tr (q k) (q (k + 1)) u (F k (2 * u + 1)) t) M = (M - 1) * dd (q k) (q (k + 1)) u + -1 * (dd (q k) (q (k + 1)) u * F k (2 * u + 1)) := by
    intro k k0 k1
    by_cases c : crx (q k) (q (k + 1)) u
    · obtain ⟨f0, f1⟩ := hM k u k0 k1 c
      have g := sm_cnt (F k (2 * u + 1)) f0 M.toNat
      rw [if_pos (by omega), show ((M.toNat : Nat) : Int) = M by omega] at g
      have g2 : smI (fun t => tr (q k) (q (k + 1)) u (F k (2 * u + 1)) t) M = smI (fun t => dd (q k) (q (k + 1)) u * (if F k (2 * u + 1) < t then 1 else 0)) M := smI_congr (fun t _ _ => by
        unfold tr
        by_cases d : F k (2 * u + 1) < t
        · rw [if_pos d, if_pos d]; omega
        · rw [if_neg d, if_neg d]; omega)
      rw [g2, smI_mul]
      unfold smI
      rw [g]
      grind
    · have d0 : dd (q k) (q (k + 1)) u = 0 := by unfold dd; unfold crx at c; omega
      rw [sm_z M (fun t _ _ => by unfold tr; rw [d0, ite_self]), d0]
      omega
  rw [sw, smI_congr e, smI_ad (fun k _ _ => rfl), smI_mul, smI_mul, z]
  unfold SS1
  omega
/-- the sum over a level has the sign against s -/
theorem PG_S0 {n : Int} {q Z : Int → Int} {F : Int → Int → Int} (h : PG n q Z F) {M s : Int} (hM : ∀ k u, 0 ≤ k → k < n → crx (q k) (q (k + 1)) u → 0 ≤ F k (2 * u + 1) ∧ F k (2 * u + 1) + 1 < M) (hs1 : s = 1 ∨ s = -1) (hs : ∀ i u, 0 ≤ i → i < n → crx (q i) (q (i + 1)) u → dr (q i) (q (i + 1)) + 2 * WW n q F u (F i (2 * u + 1)) = s) (u : Int) : s * SS1 n q F u ≤ 0 ∧ ((∃ k, 0 ≤ k ∧ k < n ∧ crx (q k) (q (k + 1)) u) → s * SS1 n q F u < 0) := by
  have e : s * SS1 n q F u = - smI (fun t => s * WW n q F u t) M := by rw [PG_S h hM u, smI_mul]; grind
  have nn : ∀ t, 0 ≤ s * WW n q F u t := fun t => by
    rcases PG_lv h hs1 hs u t with a | a <;> rw [a] <;> rcases hs1 with rfl | rfl <;> decide
  rw [e]
  refine ⟨?_, fun hc => ?_⟩
  · have := smI_ge (f := fun t => s * WW n q F u t) (n := M) (fun t _ _ => nn t); omega
  · obtain ⟨i, i0, i1, ci, wi, mi⟩ := PG_min h hc
    obtain ⟨f0, f1⟩ := hM i u i0 i1 ci
    have a := smI_one (g := fun k => tr (q k) (q (k + 1)) u (F k (2 * u + 1)) (F i (2 * u + 1) + 1)) (h := fun k => 0) (n := n) (o := i) i0 i1 (fun k k0 k1 ki => by
      unfold tr dd
      by_cases c : crx (q k) (q (k + 1)) u
      · have := mi k k0 k1 c
        have ne := h.2.2.2.2.2.2 k i u k0 k1 i0 i1 ki c ci
        rw [if_neg (by omega)]
      · unfold crx at c
        have e : (if u < q (k + 1) then (1 : Int) else 0) - (if u < q k then 1 else 0) = 0 := by omega
        rw [e, ite_self])
    rw [sm_z n (fun _ _ _ => rfl)] at a
    have w := hs i u i0 i1 ci
    rw [wi] at w
    have b : WW n q F u (F i (2 * u + 1) + 1) = s := by
      unfold WW
      rw [a]
      unfold tr dd
      rw [if_pos (by omega)]
      unfold dr at w
      unfold crx at ci
      omega
    have := smI_gt (f := fun t => s * WW n q F u t) (n := M) (o := F i (2 * u + 1) + 1) (fun t _ _ => nn t) (by omega) (by omega) (by
      show 0 < s * WW n q F u (F i (2 * u + 1) + 1)
      rw [b]
      rcases hs1 with rfl | rfl <;> decide)
    omega
theorem sm_tri (c m : Int) (b : Int) (hb : 0 ≤ b) : ∀ U : Nat, sm (fun u => (if u < b then 1 else 0) * (c + m * (2 * u + 1))) U = if b ≤ U then b * c + m * (b * b) else U * c + m * ((U : Int) * U)
  | 0 => by
    show (0 : Int) = _
    by_cases g : b ≤ 0
    · have : b = 0 := by omega
      subst this; simp
    · have : ¬ b ≤ ((0 : Nat) : Int) := by omega
      rw [if_neg this]; simp
  | U + 1 => by
    have e := sm_tri c m b hb U
    show sm (fun u => (if u < b then 1 else 0) * (c + m * (2 * u + 1))) U + (if (U : Int) < b then 1 else 0) * (c + m * (2 * U + 1)) = _
    rw [e]
    by_cases g : b ≤ U
    · rw [if_pos g, if_neg (by omega), if_pos (by omega)]; omega
    · by_cases g2 : b = U + 1
      · rw [if_neg g, if_pos (by omega), if_pos (by omega), g2]; grind
      · rw [if_neg g, if_pos (by omega), if_neg (by omega), show ((U + 1 : Nat) : Int) = (U : Int) + 1 by omega]; grind
theorem PG_A {n : Int} {q Z c m : Int → Int} (h : PG n q Z (fun k s => c k + m k * s)) {U : Int} (hU : ∀ k, 0 ≤ k → k ≤ n → 0 ≤ q k ∧ q k ≤ U) : 2 * smI (fun u => SS1 n q (fun k s => c k + m k * s) u) U = smI (fun k => (q (k + 1) - q k) * (Z k + Z (k + 1))) n := by
  have n0 := h.1
  have U0 := hU 0 (by omega) (by omega)
  have sw : smI (fun u => SS1 n q (fun k s => c k + m k * s) u) U = smI (fun k => smI (fun u => dd (q k) (q (k + 1)) u * (c k + m k * (2 * u + 1))) U) n := smI_swap (fun u k => dd (q k) (q (k + 1)) u * (c k + m k * (2 * u + 1))) U n
  rw [sw, ← smI_mul]
  refine smI_congr (fun k k0 k1 => ?_)
  have q1 := hU k k0 (by omega)
  have q2 := hU (k + 1) (by omega) (by omega)
  obtain ⟨z1, z2⟩ := h.2.2.2.2.1 k k0 k1
  simp only at z1 z2
  have a := sm_tri (c k) (m k) (q k) q1.1 U.toNat
  have b := sm_tri (c k) (m k) (q (k + 1)) q2.1 U.toNat
  rw [if_pos (by omega)] at a b
  have sp : smI (fun u => (if u < q (k + 1) then 1 else 0) * (c k + m k * (2 * u + 1))) U = smI (fun u => dd (q k) (q (k + 1)) u * (c k + m k * (2 * u + 1))) U + smI (fun u => (if u < q k then 1 else 0) * (c k + m k * (2 * u + 1))) U := smI_ad (fun u _ _ => by unfold dd; grind)
  unfold smI at sp ⊢
  rw [a, b] at sp
  rw [← z1, ← z2]
  grind
/-- the area that the corners tell has the sign against s -/
theorem PG_area {n : Int} {q Z c m : Int → Int} (h : PG n q Z (fun k s => c k + m k * s)) {U M s : Int} (hU : ∀ k, 0 ≤ k → k ≤ n → 0 ≤ q k ∧ q k ≤ U) (hM : ∀ k u, 0 ≤ k → k < n → crx (q k) (q (k + 1)) u → 0 ≤ c k + m k * (2 * u + 1) ∧ c k + m k * (2 * u + 1) + 1 < M) (hs1 : s = 1 ∨ s = -1) (hs : ∀ i u, 0 ≤ i → i < n → crx (q i) (q (i + 1)) u → dr (q i) (q (i + 1)) + 2 * WW n q (fun k s => c k + m k * s) u (c i + m i * (2 * u + 1)) = s) : s * smI (fun k => (q (k + 1) - q k) * (Z k + Z (k + 1))) n < 0 := by
  have n0 := h.1
  rw [← PG_A h hU]
  have e : s * (2 * smI (fun u => SS1 n q (fun k s => c k + m k * s) u) U) = - (2 * smI (fun u => - (s * SS1 n q (fun k s => c k + m k * s) u)) U) := by
    have : smI (fun u => - (s * SS1 n q (fun k s => c k + m k * s) u)) U = -s * smI (fun u => SS1 n q (fun k s => c k + m k * s) u) U := by
      rw [← smI_mul]
      exact smI_congr (fun u _ _ => by grind)
    rw [this]
    grind
  rw [e]
  obtain ⟨u, hu⟩ := crx_ex (PG_d h (k := 0) (by omega) (by omega))
  have q1 := hU 0 (by omega) (by omega)
  have q2 := hU (0 + 1) (by omega) (by omega)
  have g := smI_gt (f := fun u => - (s * SS1 n q (fun k s => c k + m k * s) u)) (n := U) (o := u) (fun v _ _ => by have := (PG_S0 h hM hs1 hs v).1; show 0 ≤ - (s * SS1 n q (fun k s => c k + m k * s) v); omega) (by unfold crx at hu; omega) (by unfold crx at hu; omega) (by have := (PG_S0 h hM hs1 hs u).2 ⟨0, by omega, by omega, hu⟩; show 0 < - (s * SS1 n q (fun k s => c k + m k * s) u); omega)
  omega
