/-! ===== a board's text: rows D (as the reference has them) and names N ===== -/
noncomputable def gte {α : Type} (P : Prop) (a b : α) : α := @ite α P (Classical.propDecidable P) a b
theorem gte_t {α : Type} {P : Prop} {a b : α} (h : P) : gte P a b = a := if_pos h
theorem gte_f {α : Type} {P : Prop} {a b : α} (h : ¬ P) : gte P a b = b := if_neg h
def up (D : Int → Int) (i v : Int) : Int → Int := fun j => if j = i then v else D j
theorem up_at (D : Int → Int) (i v : Int) : up D i v i = v := if_pos rfl
theorem up_ne {D : Int → Int} {i v j : Int} (h : ¬ j = i) : up D i v j = D j := if_neg h
theorem ju_up (σ : jS) (c : Nat) (i v : Int) : ju σ c i v c = up (σ c) i v := by
  funext j
  unfold ju up
  by_cases h : j = i
  · rw [if_pos ⟨rfl, h⟩, if_pos h]
  · rw [if_neg (fun z => h z.2), if_neg h]
def dS (D : Int → Int) : jS := fun _ => D
noncomputable def wrD (D : Int → Int) (b m : Int) : Int := wrF (cn (dS D) 0 b) (cP (dS D) 0 b) (pkR (dS D) 0) (D 2) m b (cn (dS D) 0) (rP (dS D) 0)
section
variable (t : Int → Int) (L m : Int)
noncomputable def hdR (R : Int × Int) : Int × Int := xpR t L m 59 (nmR t L m 2 10 (nmR t L m 2 10 (xpR t L m 100 R)))
noncomputable def hdD (R : Int × Int) (D : Int → Int) : Int → Int := up (up D 0 (nQ t L m (xpR t L m 100 R).2)) 1 (nQ t L m (nmR t L m 2 10 (xpR t L m 100 R)).2)
noncomputable def blR (R : Int × Int) (D : Int → Int) : Int × Int := stR t L m (gte (D 2 = 0) R (flR t L m 3 R))
def blD (D : Int → Int) : Int → Int := up D 2 1
noncomputable def ot0 (R : Int × Int) (D : Int → Int) : Int × Int := stR t L m (gte (0 < D 4) (flR t L m 3 R) (gte (12 ≤ D 3) (flR t L m 4 R) R))
noncomputable def ot1 (R : Int × Int) (D : Int → Int) : Int × Int := nmR t L m 0 (D 0 - 1) (ot0 t L m R D)
noncomputable def ot2 (R : Int × Int) (D : Int → Int) : Int × Int := ckR t L m 0 (D 1 - 1) (ot1 t L m R D)
noncomputable def otP (R : Int × Int) (D : Int → Int) : Int := 10 * nQ t L m (ot1 t L m R D).2 + nQ t L m (ot0 t L m R D).2
noncomputable def otR (R : Int × Int) (D : Int → Int) : Int × Int := stR t L m (gte (D (5 + otP t L m R D) = 0) (ot2 t L m R D) (flR t L m 3 (ot2 t L m R D)))
noncomputable def otD (R : Int × Int) (D : Int → Int) : Int → Int := up (up D (5 + otP t L m R D) 1) 3 (D 3 + 1)
noncomputable def co1 (n : Int) (R : Int × Int) (D : Int → Int) : Int × Int := stR t L m (gte (8 ≤ n) (flR t L m 4 (ckR t L m 0 (D 0 - 1) R)) (ckR t L m 0 (D 0 - 1) R))
noncomputable def co2 (n : Int) (R : Int × Int) (D : Int → Int) : Int × Int := nmR t L m 0 (D 1 - 1) (co1 t L m n R D)
noncomputable def coD (a n : Int) (R : Int × Int) (D : Int → Int) : Int → Int := up (up (up D (a + 1 + 2 * n) (nQ t L m R.2)) (a + 2 + 2 * n) (nQ t L m (co1 t L m n R D).2)) a (n + 1)
/-- the corners: a where the band's row begins, n how many there are -/
noncomputable def coF (a : Int) : Nat → Int → (Int × Int) → (Int → Int) → (Int × Int) × (Int → Int) × Int
  | 0, n, R, D => (R, D, n)
  | k + 1, n, R, D => gte (¬ R.1 = 0 ∨ (3 ≤ n ∧ ¬ tK t L m R.2 = 2)) (R, D, n) (gte ((co2 t L m n R D).1 = 0) (coF a k (n + 1) (co2 t L m n R D) (coD t L m a n R D)) (co2 t L m n R D, D, n))
noncomputable def nm1 (R : Int × Int) (M : Int) (N : Int → Int) : Int × Int := stR t L m (gte (snR t L m 3 R) (gte (∃ b, 0 ≤ b ∧ b < M ∧ N b = wQ t L m R.2) (flR t L m 3 R) R) (flR t L m 1 R))
noncomputable def bn0 (R : Int × Int) (D : Int → Int) : Int × Int := stR t L m (gte (8 ≤ D 4) (flR t L m 4 R) R)
noncomputable def bnC (R : Int × Int) (D N : Int → Int) : (Int × Int) × (Int → Int) × Int := coF t L m (105 + 17 * D 4) 9 0 (nm1 t L m (bn0 t L m R D) (D 4) N) (up D (105 + 17 * D 4) 0)
noncomputable def bn1 (R : Int × Int) (D N : Int → Int) : Int × Int := gte (snR t L m 59 (bnC t L m R D N).1) (bnC t L m R D N).1 (flR t L m 1 (bnC t L m R D N).1)
noncomputable def bnW (R : Int × Int) (D N : Int → Int) : Int := wrD (bnC t L m R D N).2.1 (D 4) (D 4)
noncomputable def bnR (R : Int × Int) (D N : Int → Int) : Int × Int := gte (bnW t L m R D N = 0) (bn1 t L m R D N) (flR t L m 5 (bn1 t L m R D N))
noncomputable def bnD (R : Int × Int) (D N : Int → Int) : Int → Int := up (bnC t L m R D N).2.1 4 (D 4 + 1)
noncomputable def bnN (R : Int × Int) (D N : Int → Int) : Int → Int := up N (D 4) (wQ t L m (bn0 t L m R D).2)
noncomputable def ln0 (R : Int × Int) (D N : Int → Int) : Int × Int := gte (tK t L m R.2 = 101) (blR t L m R D) (gte (tK t L m R.2 = 102) (otR t L m R D) (gte (tK t L m R.2 = 103) (bnR t L m R D N) (flR t L m 1 R)))
noncomputable def lnR (R : Int × Int) (D N : Int → Int) : Int × Int := xpR t L m 59 (ln0 t L m R D N)
noncomputable def lnD (R : Int × Int) (D N : Int → Int) : Int → Int := gte (tK t L m R.2 = 101) (blD D) (gte (tK t L m R.2 = 102) (otD t L m R D) (bnD t L m R D N))
noncomputable def lnN (R : Int × Int) (D N : Int → Int) : Int → Int := gte (tK t L m R.2 = 103) (bnN t L m R D N) N
/-- all lines: where the reader is, the rows, the names, how many lines, why -/
noncomputable def lnF : Nat → (Int × Int) → (Int → Int) → (Int → Int) → Int → (Int × Int) × (Int → Int) × (Int → Int) × Int × Int
  | 0, R, D, N, n => (R, D, N, n, 0)
  | k + 1, R, D, N, n => gte (¬ R.1 = 0 ∨ tK t L m R.2 = 0) (R, D, N, n, 0) (gte ((lnR t L m R D N).1 = 0) (lnF k (lnR t L m R D N) (lnD t L m R D N) (lnN t L m R D N) (n + 1)) (lnR t L m R D N, D, N, n + 1, bnW t L m R D N))
end
theorem ckR_e {t : Int → Int} {L m a b : Int} {R : Int × Int} (h : ¬ R.1 = 0) : ckR t L m a b R = R := by rw [ckR_n (fun z => h z.1), flR_n h]
theorem nmR_e {t : Int → Int} {L m a b : Int} {R : Int × Int} (h : ¬ R.1 = 0) : nmR t L m a b R = R := by rw [nmR, ckR_e h, stR_n h]
theorem xpR_e {t : Int → Int} {L m k : Int} {R : Int × Int} (h : ¬ R.1 = 0) : xpR t L m k R = R := by rw [xpR_n (fun z => h z.1), flR_n h]
theorem nm1_e {t : Int → Int} {L m M : Int} {N : Int → Int} {R : Int × Int} (h : ¬ R.1 = 0) : nm1 t L m R M N = R := by rw [nm1, gte_f (fun z => h z.1), flR_n h, stR_n h]
theorem coF_e {t : Int → Int} {L m a n : Int} {R : Int × Int} {D : Int → Int} (h : ¬ R.1 = 0) : ∀ k, coF t L m a k n R D = (R, D, n)
  | 0 => rfl
  | k + 1 => by rw [coF, gte_t (Or.inl h)]
theorem gte_flR {t : Int → Int} {L m f : Int} {R : Int × Int} {P : Prop} (h : ¬ R.1 = 0) : gte P R (flR t L m f R) = R := by
  by_cases hp : P
  · rw [gte_t hp]
  · rw [gte_f hp, flR_n h]
/-! ===== what a board's rows hold ===== -/
def gB (D : Int → Int) (b : Int) : Prop := (3 ≤ D (105 + 17 * b) ∧ D (105 + 17 * b) ≤ 8) ∧ (∀ i, 0 ≤ i → i < D (105 + 17 * b) → (0 ≤ D (105 + 17 * b + 1 + 2 * i) ∧ D (105 + 17 * b + 1 + 2 * i) < D 0) ∧ (0 ≤ D (105 + 17 * b + 2 + 2 * i) ∧ D (105 + 17 * b + 2 + 2 * i) < D 1)) ∧ wrA (cn (dS D) 0 b) (rP (dS D) 0 b) (pkR (dS D) 0) = 0
/-- a board -/
def okV (D : Int → Int) : Prop := ((D 0 = 0 ∧ D 1 = 0) ∨ (2 ≤ D 0 ∧ D 0 ≤ 10 ∧ 2 ≤ D 1 ∧ D 1 ≤ 10)) ∧ cB 1 (D 2) ∧ cB 12 (D 3) ∧ cB 8 (D 4) ∧ (∀ p, 0 ≤ p → p < 100 → cB 1 (D (5 + p)) ∧ (¬ D (5 + p) = 0 → p % 10 < D 0 ∧ p / 10 < D 1)) ∧ D 3 = smI (fun p => D (5 + p)) 100 ∧ ∀ b, 0 ≤ b → b < D 4 → gB D b
/-- names in a text that is read -/
def okU (D N : Int → Int) : Prop := ∀ b, 0 ≤ b → b < D 4 → (0 < N b ∧ N b < 10460353203) ∧ ∀ c, 0 ≤ c → c < b → ¬ N c = N b
/-- a class' board (cell k), whatever was read into it -/
def okA (σ : jS) (k : Nat) : Prop := okB σ (k + 2) ∧ (∀ j, 0 ≤ j → j < 8 → 0 ≤ σ (k + 1) j ∧ σ (k + 1) j < 10460353203) ∧ cB 8 (σ k 6) ∧ cB 5 (σ k 7)
/-- a class' board is as the rows tell -/
def RC (σ : jS) (k : Nat) (D : Int → Int) : Prop := σ k 0 = D 0 ∧ σ k 1 = D 1 ∧ σ k 2 = D 2 ∧ σ k 3 = D 3 ∧ σ (k + 2) 0 = D 4 ∧ (∀ p, 0 ≤ p → p < 100 → (outB σ k p ↔ ¬ D (5 + p) = 0)) ∧ ∀ b, 0 ≤ b → b < D 4 → σ (k + 4) b = D (105 + 17 * b) ∧ ∀ i, 0 ≤ i → i < D (105 + 17 * b) → σ (k + 5) (b * 8 + i) = 10 * D (105 + 17 * b + 2 + 2 * i) + D (105 + 17 * b + 1 + 2 * i)
/-- names of a board that is read -/
def nmD (σ : jS) (k : Nat) (D N : Int → Int) : Prop := σ k 6 = D 4 ∧ ∀ b, 0 ≤ b → b < D 4 → σ (k + 3) b = b ∧ σ (k + 1) b = N b
theorem okV_H {σ : jS} {a : Nat} (h : okV (σ a)) : okH σ a := ⟨by have := h.1; omega, by have := h.1; omega, h.2.1, h.2.2.1, h.2.2.2.1, fun j j0 j1 => (h.2.2.2.2.1 j j0 j1).1⟩
theorem okV_B {σ : jS} {a : Nat} (h : okV (σ a)) {b : Int} (b0 : 0 ≤ b) (b1 : b < σ a 4) : vB σ a b := by
  have hb := h.2.2.2.2.2.2 b b0 b1
  have h1 := h.1
  refine ⟨hb.1, fun i i0 i1 => ?_⟩
  have := hb.2.1 i i0 i1
  show cB 9 (σ a _) ∧ cB 9 (σ a _)
  omega
theorem RC_D {σ : jS} {k : Nat} {D : Int → Int} (h : RC σ k D) (hV : okV D) (hA : okA σ k) : okD σ k := by
  obtain ⟨c0, c1, c2, c3, c4, c5, c6⟩ := h
  obtain ⟨v0, v2, v3, v4, v5, v6, v7⟩ := hV
  refine ⟨by omega, by omega, by omega, by omega, hA.2.2.1, by have := hA.2.2.2; omega, fun j j0 j1 => ?_⟩
  have := hA.2.1 j j0 j1
  exact ⟨by omega, by omega⟩
/-- the class' bands are the rows' -/
theorem RC_P {σ : jS} {k : Nat} {D : Int → Int} (h : RC σ k D) {b : Int} (b0 : 0 ≤ b) (b1 : b < D 4) (hn : 0 < D (105 + 17 * b)) (i : Int) : bAt σ (k + 2) b i = rP (dS D) 0 b i := by
  have hc := h.2.2.2.2.2.2 b b0 b1
  have e1 := Int.emod_nonneg i (show D (105 + 17 * b) ≠ 0 by omega)
  have e2 := Int.emod_lt_of_pos i hn
  unfold bAt rP
  show σ (k + 5) (b * 8 + i % σ (k + 4) b) = 10 * D (105 + 17 * b + 2 + 2 * (i % D (105 + 17 * b))) + D (105 + 17 * b + 1 + 2 * (i % D (105 + 17 * b)))
  rw [hc.1, hc.2 _ e1 e2]
theorem RC_pk {σ : jS} {k : Nat} {D : Int → Int} (h : RC σ k D) (hV : okV D) (p : Int) : pkC σ k p = pkR (dS D) 0 p := by
  rw [pkR_G]
  unfold pkC pkG
  rw [h.1, h.2.1]
  show (if 0 ≤ p ∧ p % 10 < D 0 ∧ p / 10 < D 1 then _ else _) = if 0 ≤ p ∧ p % 10 < D 0 ∧ p / 10 < D 1 then _ else _
  split
  · rename_i hp
    have := hV.1
    have e := h.2.2.2.2.2.1 p (by omega) (by omega)
    show bite (outB σ k p) 0 1 = bite (¬ D (5 + p) = 0) 0 1
    rw [propext e]
  · rfl

