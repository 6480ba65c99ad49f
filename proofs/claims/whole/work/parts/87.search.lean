/-! ===== triangles moved peg by peg: the reference ===== -/
def sA (s : Int) : Int := s / 1296
def sB (s : Int) : Int := s / 36 % 36
def sC (s : Int) : Int := s % 36
def st3 (a b c : Int) : Int := 36 * (36 * lo3 a b c + md3 a b c) + hi3 a b c
def stO (s : Int) : Int := st3 (sA s) (sB s) (sC s)
def scl (c : Int) : Int := if c = 0 then 1 else if c = 1 then 36 else if c = 2 then 1296 else 46656
def dX (d : Int) : Int := if d = 1 then 1 else if d = 3 then -1 else 0
def dY (d : Int) : Int := if d = 2 then 1 else if d = 0 then -1 else 0
def vS (w h s : Int) : Prop := (0 ≤ s ∧ s < 46656) ∧ val3 w h (sA s) (sB s) (sC s)
def mvE (w h : Int) (pk : Int → Int) (s c d t : Int) : Prop := (0 ≤ s / scl c % 36 % w + dX d ∧ 0 ≤ s / scl c % 36 / w + dY d ∧ s / scl c % 36 % w + dX d < w ∧ s / scl c % 36 / w + dY d < h) ∧ pk (10 * (s / scl c % 36 / w + dY d) + (s / scl c % 36 % w + dX d)) = 1 ∧ t = s + scl c * (w * (s / scl c % 36 / w + dY d) + (s / scl c % 36 % w + dX d) - s / scl c % 36) ∧ ¬ tn (pgW w (sA t)) (pgW w (sB t)) (pgW w (sC t)) = 0
theorem wdv (w p : Int) : w * (p / w) + p % w = p := Int.mul_ediv_add_emod p w
/-- a neighbour by rows and columns -/
theorem nbr_d {w h : Int} {pk : Int → Int} {p d : Int} (hw : 2 ≤ w ∧ w ≤ 10) (hd : 0 ≤ d ∧ d < 4) (h1 : 0 ≤ p % w + dX d ∧ 0 ≤ p / w + dY d ∧ p % w + dX d < w ∧ p / w + dY d < h) (h2 : pk (10 * (p / w + dY d) + (p % w + dX d)) = 1) :
    nbr w h pk p (w * (p / w + dY d) + (p % w + dX d)) := by
  have e := wdv w p
  have e1 : (w * (p / w + dY d) + (p % w + dX d)) / w = p / w + dY d := by
    rw [Int.add_comm, Int.add_mul_ediv_left _ _ (by omega), Int.ediv_eq_zero_of_lt h1.1 h1.2.2.1, Int.zero_add]
  have e2 : (w * (p / w + dY d) + (p % w + dX d)) % w = p % w + dX d := by
    rw [Int.add_comm, Int.add_mul_emod_self_left, Int.emod_eq_of_lt h1.1 h1.2.2.1]
  have m := Int.mul_le_mul_of_nonneg_left (show p / w + dY d ≤ h - 1 by omega) (show 0 ≤ w by omega)
  have m0 := Int.mul_nonneg (show 0 ≤ w by omega) h1.2.1
  rw [Int.mul_sub, Int.mul_one] at m
  refine ⟨?_, ⟨by omega, by omega⟩, ?_⟩
  · rcases (show d = 0 ∨ d = 1 ∨ d = 2 ∨ d = 3 by omega) with rfl | rfl | rfl | rfl
    · refine Or.inr (Or.inr (Or.inl ?_))
      rw [show dX 0 = 0 by decide, show dY 0 = -1 by decide, Int.mul_add]; omega
    · rw [show dX 1 = 1 by decide] at h1
      refine Or.inr (Or.inl ⟨?_, by omega⟩)
      rw [show dX 1 = 1 by decide, show dY 1 = 0 by decide, Int.add_zero]; omega
    · refine Or.inr (Or.inr (Or.inr ?_))
      rw [show dX 2 = 0 by decide, show dY 2 = 1 by decide, Int.mul_add]; omega
    · rw [show dX 3 = -1 by decide] at h1
      refine Or.inl ⟨?_, by omega⟩
      rw [show dX 3 = -1 by decide, show dY 3 = 0 by decide, Int.add_zero]; omega
  · unfold pgW
    rw [e1, e2, Int.mul_comm]; exact h2
theorem nbr_ex {w h : Int} {pk : Int → Int} {p p' : Int} (hw : 2 ≤ w ∧ w ≤ 10) (hp : 0 ≤ p ∧ p < w * h) (hn : nbr w h pk p p') : ∃ d, (0 ≤ d ∧ d < 4) ∧ (0 ≤ p % w + dX d ∧ 0 ≤ p / w + dY d ∧ p % w + dX d < w ∧ p / w + dY d < h) ∧ pk (10 * (p / w + dY d) + (p % w + dX d)) = 1 ∧ p' = w * (p / w + dY d) + (p % w + dX d) := by
  have e := wdv w p
  have e' := wdv w p'
  have a1 := Int.emod_nonneg p (show w ≠ 0 by omega)
  have a2 := Int.emod_lt_of_pos p (show 0 < w by omega)
  have a3 := Int.ediv_nonneg hp.1 (show 0 ≤ w by omega)
  have a4 := Int.ediv_lt_of_lt_mul (show 0 < w by omega) (show p < h * w by rw [Int.mul_comm]; exact hp.2)
  obtain ⟨c, b, k⟩ := hn
  have b3 := Int.ediv_nonneg b.1 (show 0 ≤ w by omega)
  have b4 := Int.ediv_lt_of_lt_mul (show 0 < w by omega) (show p' < h * w by rw [Int.mul_comm]; exact b.2)
  unfold pgW at k
  rw [Int.mul_comm] at k
  rcases c with ⟨q, z⟩ | ⟨q, z⟩ | q | q
  · have q1 : p' / w = p / w := by rw [q, show p - 1 = (p % w - 1) + w * (p / w) by omega, Int.add_mul_ediv_left _ _ (by omega), Int.ediv_eq_zero_of_lt (by omega) (by omega), Int.zero_add]
    have q2 : p' % w = p % w - 1 := by rw [q1] at e'; omega
    refine ⟨3, by omega, ?_⟩
    rw [show dX 3 = -1 by decide, show dY 3 = 0 by decide, Int.add_zero]
    rw [q1, q2] at k
    exact ⟨by omega, k, by omega⟩
  · have q1 : p' / w = p / w := by rw [q, show p + 1 = (p % w + 1) + w * (p / w) by omega, Int.add_mul_ediv_left _ _ (by omega), Int.ediv_eq_zero_of_lt (by omega) (by omega), Int.zero_add]
    have q2 : p' % w = p % w + 1 := by rw [q1] at e'; omega
    refine ⟨1, by omega, ?_⟩
    rw [show dX 1 = 1 by decide, show dY 1 = 0 by decide, Int.add_zero]
    rw [q1, q2] at k
    exact ⟨by omega, k, by omega⟩
  · have q1 : p' / w = p / w - 1 := by rw [q, show p - w = p + w * (-1) by omega, Int.add_mul_ediv_left _ _ (by omega)]; omega
    have q2 : p' % w = p % w := by rw [q1, Int.mul_sub] at e'; omega
    refine ⟨0, by omega, ?_⟩
    rw [show dX 0 = 0 by decide, show dY 0 = -1 by decide, Int.add_zero]
    rw [q1, q2] at k
    exact ⟨by omega, k, by rw [Int.mul_add]; omega⟩
  · have q1 : p' / w = p / w + 1 := by rw [q, show p + w = p + w * 1 by omega, Int.add_mul_ediv_left _ _ (by omega)]
    have q2 : p' % w = p % w := by rw [q1, Int.mul_add] at e'; omega
    refine ⟨2, by omega, ?_⟩
    rw [show dX 2 = 0 by decide, show dY 2 = 1 by decide, Int.add_zero]
    rw [q1, q2] at k
    exact ⟨by omega, k, by rw [Int.mul_add]; omega⟩
theorem mv_t {w h : Int} {pk : Int → Int} {s c d t : Int} (hw : 2 ≤ w ∧ w ≤ 10) (h36 : w * h ≤ 36) (hv : vS w h s) (hc : 0 ≤ c ∧ c < 3) (hd : 0 ≤ d ∧ d < 4) (h1 : 0 ≤ s / scl c % 36 % w + dX d ∧ 0 ≤ s / scl c % 36 / w + dY d ∧ s / scl c % 36 % w + dX d < w ∧ s / scl c % 36 / w + dY d < h) (h2 : pk (10 * (s / scl c % 36 / w + dY d) + (s / scl c % 36 % w + dX d)) = 1) (h3 : t = s + scl c * (w * (s / scl c % 36 / w + dY d) + (s / scl c % 36 % w + dX d) - s / scl c % 36)) :
    (0 ≤ t ∧ t < 46656) ∧ ((nbr w h pk (sA s) (sA t) ∧ sB t = sB s ∧ sC t = sC s) ∨ (sA t = sA s ∧ nbr w h pk (sB s) (sB t) ∧ sC t = sC s) ∨ (sA t = sA s ∧ sB t = sB s ∧ nbr w h pk (sC s) (sC t))) ∧ (0 ≤ sA t ∧ sA t < w * h) ∧ (0 ≤ sB t ∧ sB t < w * h) ∧ (0 ≤ sC t ∧ sC t < w * h) := by
  have n := nbr_d hw hd h1 h2
  have n2 := n.2.1
  generalize w * (s / scl c % 36 / w + dY d) + (s / scl c % 36 % w + dX d) = p' at *
  obtain ⟨⟨s0, s1⟩, v1, v2, v3, v4⟩ := hv
  rcases (show c = 0 ∨ c = 1 ∨ c = 2 by omega) with rfl | rfl | rfl
  · rw [show scl 0 = 1 by decide] at *
    have e1 : s / 1 % 36 = sC s := by unfold sC; omega
    rw [e1] at h3 n
    have x : sA t = sA s ∧ sB t = sB s ∧ sC t = p' ∧ 0 ≤ t ∧ t < 46656 := by unfold sA sB sC at *; omega
    exact ⟨x.2.2.2, Or.inr (Or.inr ⟨x.1, x.2.1, by rw [x.2.2.1]; exact n⟩), by rw [x.1]; exact v1, by rw [x.2.1]; exact v2, by rw [x.2.2.1]; exact n2⟩
  · rw [show scl 1 = 36 by decide] at *
    have e1 : s / 36 % 36 = sB s := rfl
    rw [e1] at h3 n
    have x : sA t = sA s ∧ sB t = p' ∧ sC t = sC s ∧ 0 ≤ t ∧ t < 46656 := by unfold sA sB sC at *; omega
    exact ⟨x.2.2.2, Or.inr (Or.inl ⟨x.1, by rw [x.2.1]; exact n, x.2.2.1⟩), by rw [x.1]; exact v1, by rw [x.2.1]; exact n2, by rw [x.2.2.1]; exact v3⟩
  · rw [show scl 2 = 1296 by decide] at *
    have e1 : s / 1296 % 36 = sA s := by unfold sA; omega
    rw [e1] at h3 n
    have x : sA t = p' ∧ sB t = sB s ∧ sC t = sC s ∧ 0 ≤ t ∧ t < 46656 := by unfold sA sB sC at *; omega
    exact ⟨x.2.2.2, Or.inl ⟨by rw [x.1]; exact n, x.2.1, x.2.2.1⟩, by rw [x.1]; exact n2, by rw [x.2.1]; exact v2, by rw [x.2.2.1]; exact v3⟩
theorem mvE_st {w h : Int} {pk : Int → Int} {s c d t : Int} (hw : 2 ≤ w ∧ w ≤ 10) (h36 : w * h ≤ 36) (hv : vS w h s) (hc : 0 ≤ c ∧ c < 3) (hd : 0 ≤ d ∧ d < 4) (hm : mvE w h pk s c d t) : vS w h t ∧ stp3 w h pk (sA s) (sB s) (sC s) (sA t) (sB t) (sC t) := by
  obtain ⟨h1, h2, h3, h4⟩ := hm
  have k := mv_t hw h36 hv hc hd h1 h2 h3
  exact ⟨⟨k.1, stp_val hv.2 ⟨k.2.1, h4⟩⟩, k.2.1, h4⟩
theorem st_mvE {w h : Int} {pk : Int → Int} {s t : Int} (hw : 2 ≤ w ∧ w ≤ 10) (hv : vS w h s) (ht : 0 ≤ t ∧ t < 46656) (hs : stp3 w h pk (sA s) (sB s) (sC s) (sA t) (sB t) (sC t)) : ∃ c d, (0 ≤ c ∧ c < 3) ∧ (0 ≤ d ∧ d < 4) ∧ mvE w h pk s c d t := by
  obtain ⟨⟨s0, s1⟩, v1, v2, v3, v4⟩ := hv
  obtain ⟨a, b⟩ := hs
  rcases a with ⟨n, q1, q2⟩ | ⟨q1, n, q2⟩ | ⟨q1, q2, n⟩
  · obtain ⟨d, hd, x1, x2, x3⟩ := nbr_ex hw v1 n
    refine ⟨2, d, by omega, hd, ?_⟩
    unfold mvE
    rw [show scl 2 = 1296 by decide, show s / 1296 % 36 = sA s by unfold sA; omega, ← x3]
    exact ⟨x1, x2, by unfold sA sB sC at *; omega, b⟩
  · obtain ⟨d, hd, x1, x2, x3⟩ := nbr_ex hw v2 n
    refine ⟨1, d, by omega, hd, ?_⟩
    unfold mvE
    rw [show scl 1 = 36 by decide, show s / 36 % 36 = sB s from rfl, ← x3]
    exact ⟨x1, x2, by unfold sA sB sC at *; omega, b⟩
  · obtain ⟨d, hd, x1, x2, x3⟩ := nbr_ex hw v3 n
    refine ⟨0, d, by omega, hd, ?_⟩
    unfold mvE
    rw [show scl 0 = 1 by decide, show s / 1 % 36 = sC s by unfold sC; omega, ← x3]
    exact ⟨x1, x2, by unfold sA sB sC at *; omega, b⟩
noncomputable def cF (F : Int → Int) (N : Nat) : Int := sm (fun t => bI (¬ F t = -1)) N
theorem cF_e {F F' : Int → Int} (N : Nat) (h : ∀ x : Int, 0 ≤ x → x < N → F' x = F x) : cF F' N = cF F N := sm_congr N (fun i i0 i1 => by rw [h i i0 i1])
theorem cF_s (F : Int → Int) (n : Nat) : cF F (n + 1) = cF F n + bI (¬ F n = -1) := rfl
theorem cF_up {F F' : Int → Int} {t v : Int} (ht : 0 ≤ t) (h : F t = -1) (hv : ¬ v = -1) (e : ∀ x, F' x = if x = t then v else F x) : ∀ n : Nat, t < n → cF F' n = cF F n + 1
  | 0, hn => by omega
  | n + 1, hn => by
    rw [cF_s, cF_s]
    by_cases c : t = n
    · rw [cF_e n (fun x _ x1 => by rw [e, if_neg (by omega)]), ← c, e, if_pos rfl, bI_t hv, bI_f (fun z => z h)]
      omega
    · rw [cF_up ht h hv e n (by omega), e n, if_neg (fun z => c z.symm)]
      omega
theorem cF_b (F : Int → Int) : ∀ n : Nat, 0 ≤ cF F n ∧ cF F n ≤ n
  | 0 => ⟨Int.le_refl _, Int.le_refl _⟩
  | n + 1 => by
    have a := cF_b F n
    have b := bI_b (¬ F n = -1)
    rw [cF_s]
    omega
theorem cF_z {F : Int → Int} (h : ∀ x, F x = -1) : ∀ n : Nat, cF F n = 0
  | 0 => rfl
  | n + 1 => by rw [cF_s, cF_z h n, bI_f (fun u => u (h _))]; rfl
/-- how far the search has come -/
def BFI (w h : Int) (pk : Int → Int) (s0 gk : Int) (N : Nat) (F Q : Int → Int) (m i : Int) : Prop :=
  ((1 ≤ m ∧ 0 ≤ i ∧ i ≤ m) ∧ F s0 = 0 ∧ m = cF F N) ∧
  (∀ j, 0 ≤ j → j < m → vS w h (Q j) ∧ (0 ≤ F (Q j) ∧ F (Q j) ≤ j) ∧ R3 w h pk (sA s0) (sB s0) (sC s0) (F (Q j)).toNat (sA (Q j)) (sB (Q j)) (sC (Q j))) ∧
  (∀ t, 0 ≤ t → t < 46656 → ¬ F t = -1 → ∃ j, (0 ≤ j ∧ j < m) ∧ Q j = t) ∧
  (∀ j l, 0 ≤ j → j ≤ l → l < m → F (Q j) ≤ F (Q l)) ∧
  (i < m → ∀ l, 0 ≤ l → l < m → F (Q l) ≤ F (Q i) + 1) ∧
  (∀ j, 0 ≤ j → j < i → ¬ stO (Q j) = gk) ∧
  ∀ j t, 0 ≤ j → j < i → 0 ≤ t → t < 46656 → stp3 w h pk (sA (Q j)) (sB (Q j)) (sC (Q j)) (sA t) (sB t) (sC t) → ¬ F t = -1 ∧ F t ≤ F (Q j) + 1
def hitR (w h : Int) (pk : Int → Int) (s0 gk : Int) (k : Nat) : Prop := ∃ t, (0 ≤ t ∧ t < 46656) ∧ R3 w h pk (sA s0) (sB s0) (sC s0) k (sA t) (sB t) (sC t) ∧ stO t = gk
theorem s_enc {w h a b c : Int} (h36 : w * h ≤ 36) (v : val3 w h a b c) : ∃ t, (0 ≤ t ∧ t < 46656) ∧ sA t = a ∧ sB t = b ∧ sC t = c := by
  have d := val_d h36 v
  refine ⟨1296 * a + 36 * b + c, by omega, ?_⟩
  unfold sA sB sC
  omega
theorem BF_c {w h : Int} {pk : Int → Int} {s0 gk m i : Int} {F Q : Int → Int} {N : Nat} (h36 : w * h ≤ 36) (hv : vS w h s0) (hB : BFI w h pk s0 gk N F Q m i) : ∀ (k : Nat) (t : Int), 0 ≤ t → t < 46656 → R3 w h pk (sA s0) (sB s0) (sC s0) k (sA t) (sB t) (sC t) → (¬ F t = -1 ∧ F t ≤ k) ∨ ∃ j, (i ≤ j ∧ j < m) ∧ F (Q j) < k
  | 0, t, t0, t1, r => by
    obtain ⟨r1, r2, r3⟩ := r
    have e : t = s0 := by have := hv.1; unfold sA sB sC at *; omega
    have := hB.1.2.1
    rw [e]
    exact Or.inl ⟨by omega, by omega⟩
  | k + 1, t, t0, t1, ⟨x, y, z, r, s⟩ => by
    obtain ⟨u, hu, u1, u2, u3⟩ := s_enc h36 (R3_val hv.2 k r)
    subst u1 u2 u3
    rcases BF_c h36 hv hB k u hu.1 hu.2 r with ⟨a, b⟩ | ⟨j, a, b⟩
    · obtain ⟨j, hj, e⟩ := hB.2.2.1 u hu.1 hu.2 a
      by_cases c : j < i
      · have := hB.2.2.2.2.2.2 j t hj.1 c t0 t1 (by rw [e]; exact s)
        rw [e] at this
        exact Or.inl ⟨this.1, by omega⟩
      · exact Or.inr ⟨j, by omega, by rw [e]; omega⟩
    · exact Or.inr ⟨j, a, by omega⟩
theorem BF_hit {w h : Int} {pk : Int → Int} {s0 gk m i : Int} {F Q : Int → Int} {N : Nat} (h36 : w * h ≤ 36) (hv : vS w h s0) (hB : BFI w h pk s0 gk N F Q m i) (hi : i < m) (hg : stO (Q i) = gk) : ans (hitR w h pk s0 gk) (F (Q i)) := by
  have i0 := hB.1.1.2.1
  have b := hB.2.1 i i0 hi
  refine Or.inl ⟨(F (Q i)).toNat, by omega, ⟨Q i, b.1.1, b.2.2, hg⟩, fun k hk hit => ?_⟩
  obtain ⟨t, ht, r, e⟩ := hit
  rcases BF_c h36 hv hB k t ht.1 ht.2 r with ⟨x, y⟩ | ⟨j, hj, y⟩
  · obtain ⟨j, hj, q⟩ := hB.2.2.1 t ht.1 ht.2 x
    by_cases c : j < i
    · exact hB.2.2.2.2.2.1 j hj.1 c (by rw [q]; exact e)
    · have := hB.2.2.2.1 i j i0 (by omega) hj.2
      rw [q] at this
      omega
  · have := hB.2.2.2.1 i j i0 hj.1 hj.2
    omega
theorem BF_end {w h : Int} {pk : Int → Int} {s0 gk m i : Int} {F Q : Int → Int} {N : Nat} (h36 : w * h ≤ 36) (hv : vS w h s0) (hB : BFI w h pk s0 gk N F Q m i) (hi : m ≤ i) : ans (hitR w h pk s0 gk) (-1) := by
  refine Or.inr ⟨rfl, fun k hit => ?_⟩
  obtain ⟨t, ht, r, e⟩ := hit
  rcases BF_c h36 hv hB k t ht.1 ht.2 r with ⟨x, y⟩ | ⟨j, hj, y⟩
  · obtain ⟨j, hj, q⟩ := hB.2.2.1 t ht.1 ht.2 x
    exact hB.2.2.2.2.2.1 j hj.1 (by omega) (by rw [q]; exact e)
  · omega
theorem BF_next {w h : Int} {pk : Int → Int} {s0 gk m i : Int} {F Q : Int → Int} {N : Nat} (hB : BFI w h pk s0 gk N F Q m i) (hi : i < m) (hg : ¬ stO (Q i) = gk) (hc : ∀ t, 0 ≤ t → t < 46656 → stp3 w h pk (sA (Q i)) (sB (Q i)) (sC (Q i)) (sA t) (sB t) (sC t) → ¬ F t = -1 ∧ F t ≤ F (Q i) + 1) : BFI w h pk s0 gk N F Q m (i + 1) := by
  obtain ⟨b1, b2, b3, b4, b5, b6, b7⟩ := hB
  refine ⟨⟨by omega, b1.2⟩, b2, b3, b4, fun hi2 l l0 l1 => ?_, fun j j0 j1 => ?_, fun j t j0 j1 t0 t1 s => ?_⟩
  · have x := b5 hi l l0 l1
    have y := b4 i (i + 1) b1.1.2.1 (by omega) hi2
    omega
  · rcases (show j < i ∨ j = i by omega) with c | c
    · exact b6 j j0 c
    · rw [c]; exact hg
  · rcases (show j < i ∨ j = i by omega) with c | c
    · exact b7 j t j0 c t0 t1 s
    · rw [c] at s ⊢; exact hc t t0 t1 s
theorem BF_lt {w h : Int} {pk : Int → Int} {s0 gk m i t : Int} {F Q : Int → Int} {N : Nat} (hB : BFI w h pk s0 gk N F Q m i) (ht : 0 ≤ t ∧ t < N) (hf : F t = -1) : m < N := by
  have a := cF_up (F' := fun x => if x = t then (0 : Int) else F x) ht.1 hf (show ¬ (0 : Int) = -1 by decide) (fun _ => rfl) N ht.2
  have b := cF_b (fun x => if x = t then (0 : Int) else F x) N
  have c := hB.1.2.2
  omega
theorem BF_add {w h : Int} {pk : Int → Int} {s0 gk m i t : Int} {F Q F' Q' : Int → Int} {N : Nat} (hN : (N : Int) = 46656) (hB : BFI w h pk s0 gk N F Q m i) (hi : i < m) (ht : vS w h t) (hs : stp3 w h pk (sA (Q i)) (sB (Q i)) (sC (Q i)) (sA t) (sB t) (sC t)) (hf : F t = -1)
    (eF : ∀ x, F' x = if x = t then F (Q i) + 1 else F x) (eQ : ∀ x, Q' x = if x = m then t else Q x) : BFI w h pk s0 gk N F' Q' (m + 1) i ∧ (∀ x, ¬ F x = -1 → F' x = F x) ∧ F' t = F (Q i) + 1 ∧ Q' i = Q i := by
  obtain ⟨b1, b2, b3, b4, b5, b6, b7⟩ := hB
  have bi := b2 i b1.1.2.1 hi
  have kF : ∀ x, ¬ F x = -1 → F' x = F x := fun x hx => by rw [eF, if_neg (fun z => hx (by rw [z]; exact hf))]
  have kQ : ∀ j, j < m → Q' j = Q j := fun j hj => by rw [eQ, if_neg (by omega)]
  have nF : ∀ j, 0 ≤ j → j < m → ¬ F (Q j) = -1 := fun j j0 j1 => by have := (b2 j j0 j1).2.1; omega
  have kFQ : ∀ j, 0 ≤ j → j < m → F' (Q' j) = F (Q j) := fun j j0 j1 => by rw [kQ j j1, kF _ (nF j j0 j1)]
  have et : F' t = F (Q i) + 1 := by rw [eF, if_pos rfl]
  have em : Q' m = t := by rw [eQ, if_pos rfl]
  refine ⟨⟨⟨by omega, ?_, ?_⟩, fun j j0 j1 => ?_, fun x x0 x1 hx => ?_, fun j l j0 jl l1 => ?_, fun _ l l0 l1 => ?_, fun j j0 j1 => ?_, fun j x j0 j1 x0 x1 s => ?_⟩, kF, et, kQ i hi⟩
  · rw [kF s0 (by have := b1.2.1; omega)]; exact b1.2.1
  · have a := cF_up (v := F (Q i) + 1) ht.1.1 hf (by omega) eF N (by have := ht.1; omega)
    have c := b1.2.2
    omega
  · by_cases c : j = m
    · rw [c, em, et]
      refine ⟨ht, by omega, ?_⟩
      rw [show (F (Q i) + 1).toNat = (F (Q i)).toNat + 1 by omega]
      exact ⟨_, _, _, bi.2.2, hs⟩
    · have := b2 j j0 (by omega)
      rw [kFQ j j0 (by omega), kQ j (by omega)]
      exact this
  · by_cases c : x = t
    · exact ⟨m, by omega, by rw [em, c]⟩
    · rw [eF, if_neg c] at hx
      obtain ⟨j, hj, e⟩ := b3 x x0 x1 hx
      exact ⟨j, by omega, by rw [kQ j hj.2]; exact e⟩
  · by_cases c : l = m
    · rw [c, em, et]
      by_cases c2 : j = m
      · rw [c2, em, et]; exact Int.le_refl _
      · rw [kFQ j j0 (by omega)]
        exact b5 hi j j0 (by omega)
    · rw [kFQ j j0 (by omega), kFQ l (by omega) (by omega)]
      exact b4 j l j0 jl (by omega)
  · rw [kFQ i b1.1.2.1 hi]
    by_cases c : l = m
    · rw [c, em, et]; exact Int.le_refl _
    · rw [kFQ l l0 (by omega)]; exact b5 hi l l0 (by omega)
  · rw [kQ j (by omega)]; exact b6 j j0 j1
  · rw [kQ j (by omega)] at s ⊢
    have := b7 j x j0 j1 x0 x1 s
    rw [kF x this.1, kF (Q j) (nF j j0 (by omega))]
    exact this
theorem BF_0 {w h : Int} {pk : Int → Int} {s0 gk : Int} {F Q : Int → Int} {N : Nat} (hN : (N : Int) = 46656) (hv : vS w h s0) (e0 : F s0 = 0) (eF : ∀ x, 0 ≤ x → x < 46656 → ¬ x = s0 → F x = -1) (eQ : Q 0 = s0) : BFI w h pk s0 gk N F Q 1 0 := by
  refine ⟨⟨by omega, e0, ?_⟩, fun j j0 j1 => ?_, fun t t0 t1 ht => ⟨0, by omega, ?_⟩, fun j l j0 jl l1 => ?_, fun _ l l0 l1 => ?_, fun j j0 j1 => by omega, fun j t j0 j1 => by omega⟩
  · have a := cF_up (F := fun _ => -1) (F' := fun x => if x = s0 then (0 : Int) else -1) (t := s0) (v := 0) hv.1.1 rfl (by decide) (fun _ => rfl) N (by have := hv.1; omega)
    rw [cF_z (fun _ => rfl) N] at a
    rw [cF_e (F := fun x => if x = s0 then (0 : Int) else -1) N (fun x x0 x1 => by
      by_cases c : x = s0
      · rw [c, e0, if_pos rfl]
      · rw [eF x x0 (by omega) c, if_neg c]), a]
    rfl
  · rw [show j = 0 by omega, eQ, e0]
    exact ⟨hv, by omega, rfl, rfl, rfl⟩
  · rw [eQ]
    exact Classical.byContradiction (fun c => ht (eF t t0 t1 (fun z => c z.symm)))
  · rw [show j = 0 by omega, show l = 0 by omega]; exact Int.le_refl _
  · rw [show l = 0 by omega, eQ, e0]; decide
def PCl (w h : Int) (pk : Int → Int) (F : Int → Int) (s c d : Int) : Prop := ∀ c' d' t, (0 ≤ c' ∧ c' < 3) → (0 ≤ d' ∧ d' < 4) → (c' < c ∨ (c' = c ∧ d' < d)) → mvE w h pk s c' d' t → ¬ F t = -1 ∧ F t ≤ F s + 1
theorem PC_s {w h : Int} {pk : Int → Int} {F : Int → Int} {s c d : Int} (hp : PCl w h pk F s c d) (hd : ∀ t, mvE w h pk s c d t → ¬ F t = -1 ∧ F t ≤ F s + 1) : PCl w h pk F s c (d + 1) := by
  intro c' d' t h1 h2 h3 h4
  by_cases e : c' = c ∧ d' = d
  · rw [e.1, e.2] at h4; exact hd t h4
  · exact hp c' d' t h1 h2 (by omega) h4
theorem PC_up {w h : Int} {pk : Int → Int} {F F' : Int → Int} {s c d : Int} (hp : PCl w h pk F s c d) (hu : ∀ x, ¬ F x = -1 → F' x = F x) (hs : ¬ F s = -1) : PCl w h pk F' s c d := by
  intro c' d' t h1 h2 h3 h4
  have := hp c' d' t h1 h2 h3 h4
  rw [hu t this.1, hu s hs]; exact this
theorem PC_c {w h : Int} {pk : Int → Int} {F : Int → Int} {s c : Int} (hp : PCl w h pk F s c 4) : PCl w h pk F s (c + 1) 0 := fun c' d' t h1 h2 h3 h4 => hp c' d' t h1 h2 (by omega) h4
theorem PC_end {w h : Int} {pk : Int → Int} {F : Int → Int} {s : Int} (hw : 2 ≤ w ∧ w ≤ 10) (hv : vS w h s) (hp : PCl w h pk F s 3 0) : ∀ t, 0 ≤ t → t < 46656 → stp3 w h pk (sA s) (sB s) (sC s) (sA t) (sB t) (sC t) → ¬ F t = -1 ∧ F t ≤ F s + 1 := by
  intro t t0 t1 hs
  obtain ⟨c, d, hc, hd, hm⟩ := st_mvE hw hv ⟨t0, t1⟩ hs
  exact hp c d t hc hd (by omega) hm
theorem BF_fb {w h : Int} {pk : Int → Int} {s0 gk m i : Int} {F Q : Int → Int} {N : Nat} (hN : (N : Int) = 46656) (hB : BFI w h pk s0 gk N F Q m i) {t : Int} (ht : 0 ≤ t ∧ t < 46656) : -1 ≤ F t ∧ F t ≤ 46656 ∧ m ≤ 46656 ∧ (i < m → ¬ F t = -1 → F t ≤ F (Q i) + 1) := by
  have c := cF_b F N
  have e := hB.1.2.2
  by_cases q : F t = -1
  · exact ⟨by omega, by omega, by omega, fun _ z => absurd q z⟩
  · obtain ⟨j, hj, hq⟩ := hB.2.2.1 t ht.1 ht.2 q
    have x := (hB.2.1 j hj.1 hj.2).2.1
    rw [hq] at x
    refine ⟨by omega, by omega, by omega, fun hi _ => ?_⟩
    have := hB.2.2.2.2.1 hi j hj.1 hj.2
    rw [hq] at this; exact this
theorem pkR_xy {σ τ : jS} (e : τ 113 = σ 113) (w0 : cB 10 (σ 113 0)) {x y : Int} : bI ((0 ≤ x ∧ 0 ≤ y ∧ x < τ 113 0 ∧ y < τ 113 1) ∧ τ 113 (5 + 10 * y + x) = 0) = bI ((0 ≤ x ∧ 0 ≤ y ∧ x < σ 113 0 ∧ y < σ 113 1) ∧ pkR σ 113 (10 * y + x) = 1) := by
  refine bI_iff ?_
  rw [e]
  constructor
  · intro h
    refine ⟨h.1, ?_⟩
    unfold pkR
    rw [if_pos (by omega), if_pos (by rw [show 5 + (10 * y + x) = 5 + 10 * y + x by omega]; exact h.2)]
  · intro h
    refine ⟨h.1, ?_⟩
    have h2 := h.2
    unfold pkR at h2
    rw [if_pos (by omega)] at h2
    split at h2
    · rw [show 5 + 10 * y + x = 5 + (10 * y + x) by omega]; assumption
    · omega
