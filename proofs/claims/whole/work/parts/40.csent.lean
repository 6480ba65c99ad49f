/-! ===== sentences ===== -/
abbrev Fm : Type := (Int → Prop) → Prop
abbrev X3 : Type := (Int × Int) × Int × Fm
section
variable (t : Int → Int) (L m : Int) (ex : Int → Prop) (idn : Int → Int)
noncomputable def lpF (P : Int × Int → Int → X3) (k : Int) (J : Prop → Prop → Prop) : Nat → X3 → X3
  | 0, x => x
  | j + 1, x => gte (snR t L m k x.1) (lpF P k J j ((P (stR t L m x.1) x.2.1).1, (P (stR t L m x.1) x.2.1).2.1, fun v => J (x.2.2 v) ((P (stR t L m x.1) x.2.1).2.2 v))) x
noncomputable def pAl (P : Int × Int → Int → X3) (R : Int × Int) (n : Int) : X3 := lpF t L m P 107 And 20 (P R n)
noncomputable def pAn (P : Int × Int → Int → X3) (R : Int × Int) (n : Int) : X3 := lpF t L m (pAl t L m P) 106 Or 20 (pAl t L m P R n)
noncomputable def on0 (d : Int) (R : Int × Int) (n : Int) : Int × Int := gte (tK t L m R.2 = 40 ∨ (108 ≤ tK t L m R.2 ∧ tK t L m R.2 ≤ 116)) (gte (20 ≤ n ∨ 8 < d) (flR t L m 4 R) R) (flR t L m 1 R)
noncomputable def nmB (R : Int × Int) : Int × Int := gte (snR t L m 3 R) (gte (ex (wQ t L m R.2)) (stR t L m R) (flR t L m 3 R)) (flR t L m 1 R)
noncomputable def ms1 (R : Int × Int) : Int × Int := stR t L m (gte (60 ≤ tK t L m R.2 ∧ tK t L m R.2 ≤ 62) R (flR t L m 1 R))
noncomputable def ms2 (R : Int × Int) : Int × Int := gte (snR t L m 2 (ms1 t L m R)) (stR t L m (ms1 t L m R)) (flR t L m 1 (ms1 t L m R))
noncomputable def pB (P Q : Int × Int → Int → X3) (k : Int) (R : Int × Int) (n : Int) : X3 :=
  gte (k = 108) ((P R n).1, (P R n).2.1, fun v => ¬ (P R n).2.2 v) (gte (k = 40) (xpR t L m 41 (Q R n).1, (Q R n).2.1, (Q R n).2.2) (gte (k = 109 ∨ k = 110) (nmB t L m ex R, n, fun v => v ((k - 100) * 3000 + idn (wQ t L m R.2))) (gte (k = 111) (R, n, fun v => v 33000) (ms2 t L m R, n, fun v => v ((k - 100) * 3000 + (tK t L m R.2 - 60) * 1000 + nQ t L m (ms1 t L m R).2)))))
noncomputable def pO : Nat → Int → Int × Int → Int → X3
  | 0, _, R, n => (R, n, fun _ => False)
  | f + 1, d, R, n => gte ((on0 t L m d R n).1 = 0) (pB t L m ex idn (pO f (d + 1)) (pAn t L m (pO f (d + 1))) (tK t L m R.2) (stR t L m R) (n + 1)) (on0 t L m d R n, n, fun _ => False)
end
def hdP : List Prop → Prop
  | [] => False
  | a :: _ => a
/-- what a step does to the truths found -/
def stp (v : Int → Prop) (c : Int) (st : List Prop) : List Prop :=
  if c / 3000 = 8 then (¬ hdP st) :: st.tail else if c / 3000 = 7 then (hdP st.tail ∧ hdP st) :: st.tail.tail else if c / 3000 = 6 then (hdP st.tail ∨ hdP st) :: st.tail.tail else v c :: st
def rnL (v : Int → Prop) (f : Int → Int) : Nat → Int → List Prop → List Prop
  | 0, _, st => st
  | n + 1, i, st => rnL v f n (i + 1) (stp v (f i) st)
def isO (c : Int) : Prop := c / 3000 = 8 ∨ c / 3000 = 7 ∨ c / 3000 = 6
/-- steps that join nothing -/
noncomputable def acn (f : Int → Int) : Nat → Int → Int
  | 0, _ => 0
  | n + 1, i => bite (isO (f i)) 0 1 + acn f n (i + 1)
theorem acn_add (f : Int → Int) : ∀ (p q : Nat) (i : Int), acn f (p + q) i = acn f p i + acn f q (i + p)
  | 0, q, i => by rw [Nat.zero_add, acn]; simp
  | p + 1, q, i => by
    rw [show p + 1 + q = (p + q) + 1 by omega, acn, acn, acn_add f p q (i + 1), show i + 1 + (p : Int) = i + ((p + 1 : Nat) : Int) by omega]
    omega
theorem acn_c {f g : Int → Int} : ∀ (n : Nat) (i : Int), (∀ j, i ≤ j → j < i + n → g j = f j) → acn g n i = acn f n i
  | 0, _, _ => rfl
  | n + 1, i, h => by
    rw [acn, acn, h i (by omega) (by omega), acn_c n (i + 1) (fun j h1 h2 => h j (by omega) (by omega))]
theorem rnL_add (v : Int → Prop) (f : Int → Int) : ∀ (p q : Nat) (i : Int) (st : List Prop), rnL v f (p + q) i st = rnL v f q (i + p) (rnL v f p i st)
  | 0, q, i, st => by rw [Nat.zero_add, rnL]; simp
  | p + 1, q, i, st => by
    rw [show p + 1 + q = (p + q) + 1 by omega, rnL, rnL, rnL_add v f p q (i + 1)]
    congr 1
    omega
theorem rnL_c (v : Int → Prop) {f g : Int → Int} : ∀ (n : Nat) (i : Int) (st : List Prop), (∀ j, i ≤ j → j < i + n → g j = f j) → rnL v g n i st = rnL v f n i st
  | 0, _, _, _ => rfl
  | n + 1, i, st, h => by
    rw [rnL, rnL, h i (by omega) (by omega)]
    exact rnL_c v n (i + 1) _ (fun j h1 h2 => h j (by omega) (by omega))
/-- the steps from a on, ahead of b, tell e, with k ones at most -/
def rpC (f : Int → Int) (a b : Int) (e : Fm) (k : Int) : Prop := a < b ∧ (∀ v st, rnL v f (b - a).toNat a st = e v :: st) ∧ acn f (b - a).toNat a ≤ k ∧ ∀ j, a ≤ j → j < b → 0 ≤ f j ∧ f j < 51000
theorem rpC_c {f g : Int → Int} {a b k : Int} {e : Fm} (h : rpC f a b e k) (hg : ∀ j, a ≤ j → j < b → g j = f j) : rpC g a b e k := ⟨h.1, fun v st => by
  rw [rnL_c v _ _ _ (fun j h1 h2 => hg j h1 (by have := h.1; omega))]
  exact h.2.1 v st, by
  rw [acn_c _ _ (fun j h1 h2 => hg j h1 (by have := h.1; omega))]
  exact h.2.2.1, fun j j0 j1 => by rw [hg j j0 j1]; exact h.2.2.2 j j0 j1⟩
theorem rpC_m {f : Int → Int} {a b k k2 : Int} {e : Fm} (h : rpC f a b e k) (hk : k ≤ k2) : rpC f a b e k2 := ⟨h.1, h.2.1, by have := h.2.2.1; omega, h.2.2.2⟩
theorem rpC_at {f : Int → Int} {a : Int} (h : ¬ f a / 3000 = 8 ∧ ¬ f a / 3000 = 7 ∧ ¬ f a / 3000 = 6) (hb : 0 ≤ f a ∧ f a < 51000) : rpC f a (a + 1) (fun v => v (f a)) 1 := ⟨by omega, fun v st => by
  rw [show (a + 1 - a).toNat = 1 by omega, rnL, rnL]
  exact (if_neg h.1).trans ((if_neg h.2.1).trans (if_neg h.2.2)), by
  rw [show (a + 1 - a).toNat = 1 by omega, acn, acn, bite_f (fun z => by unfold isO at z; omega)]
  decide, fun j j0 j1 => by rw [show j = a by omega]; exact hb⟩
theorem rpC_not {f : Int → Int} {a b k : Int} {e : Fm} (h : rpC f a b e k) (g : f b / 3000 = 8) : rpC f a (b + 1) (fun v => ¬ e v) k := ⟨by have := h.1; omega, fun v st => by
  have := h.1
  rw [show (b + 1 - a).toNat = (b - a).toNat + 1 by omega, rnL_add, h.2.1 v st, show a + ((b - a).toNat : Int) = b by omega, rnL, rnL]
  exact if_pos g, by
  have := h.1
  have q := h.2.2.1
  rw [show (b + 1 - a).toNat = (b - a).toNat + 1 by omega, acn_add, show a + ((b - a).toNat : Int) = b by omega, acn, acn, bite_t (show isO (f b) from Or.inl g)]
  omega, fun j j0 j1 => by rcases (show j < b ∨ j = b by omega) with c | c; exact h.2.2.2 j j0 c; rw [c]; omega⟩
theorem rpC_and {f : Int → Int} {a b c k k2 : Int} {e e2 : Fm} (h : rpC f a b e k) (h2 : rpC f b c e2 k2) (g : f c / 3000 = 7) : rpC f a (c + 1) (fun v => e v ∧ e2 v) (k + k2) := ⟨by have := h.1; have := h2.1; omega, fun v st => by
  have := h.1
  have := h2.1
  rw [show (c + 1 - a).toNat = (b - a).toNat + ((c - b).toNat + 1) by omega, rnL_add, h.2.1 v st, show a + ((b - a).toNat : Int) = b by omega, rnL_add, h2.2.1 v _, show b + ((c - b).toNat : Int) = c by omega, rnL, rnL]
  exact (if_neg (by omega)).trans (if_pos g), by
  have := h.1
  have := h2.1
  have q := h.2.2.1
  have q2 := h2.2.2.1
  rw [show (c + 1 - a).toNat = (b - a).toNat + ((c - b).toNat + 1) by omega, acn_add, show a + ((b - a).toNat : Int) = b by omega, acn_add, show b + ((c - b).toNat : Int) = c by omega, acn, acn, bite_t (show isO (f c) from Or.inr (Or.inl g))]
  omega, fun j j0 j1 => by rcases (show j < b ∨ (b ≤ j ∧ j < c) ∨ j = c by omega) with u | u | u; exact h.2.2.2 j j0 u; exact h2.2.2.2 j u.1 u.2; rw [u]; omega⟩
theorem rpC_or {f : Int → Int} {a b c k k2 : Int} {e e2 : Fm} (h : rpC f a b e k) (h2 : rpC f b c e2 k2) (g : f c / 3000 = 6) : rpC f a (c + 1) (fun v => e v ∨ e2 v) (k + k2) := ⟨by have := h.1; have := h2.1; omega, fun v st => by
  have := h.1
  have := h2.1
  rw [show (c + 1 - a).toNat = (b - a).toNat + ((c - b).toNat + 1) by omega, rnL_add, h.2.1 v st, show a + ((b - a).toNat : Int) = b by omega, rnL_add, h2.2.1 v _, show b + ((c - b).toNat : Int) = c by omega, rnL, rnL]
  exact (if_neg (by omega)).trans ((if_neg (by omega)).trans (if_pos g)), by
  have := h.1
  have := h2.1
  have q := h.2.2.1
  have q2 := h2.2.2.1
  rw [show (c + 1 - a).toNat = (b - a).toNat + ((c - b).toNat + 1) by omega, acn_add, show a + ((b - a).toNat : Int) = b by omega, acn_add, show b + ((c - b).toNat : Int) = c by omega, acn, acn, bite_t (show isO (f c) from Or.inr (Or.inr g))]
  omega, fun j j0 j1 => by rcases (show j < b ∨ (b ≤ j ∧ j < c) ∨ j = c by omega) with u | u | u; exact h.2.2.2 j j0 u; exact h2.2.2.2 j u.1 u.2; rw [u]; omega⟩
section
variable {t : Int → Int} {L m : Int} {ex : Int → Prop} {idn : Int → Int}
theorem on0_0 {d : Int} {R : Int × Int} {n : Int} (h : (on0 t L m d R n).1 = 0) : (tK t L m R.2 = 40 ∨ (108 ≤ tK t L m R.2 ∧ tK t L m R.2 ≤ 116)) ∧ n < 20 ∧ d ≤ 8 ∧ R.1 = 0 ∧ on0 t L m d R n = R := by
  unfold on0 at h ⊢
  by_cases g : tK t L m R.2 = 40 ∨ (108 ≤ tK t L m R.2 ∧ tK t L m R.2 ≤ 116)
  · rw [gte_t g] at h ⊢
    by_cases g2 : 20 ≤ n ∨ 8 < d
    · rw [gte_t g2] at h; exact absurd h (flR_f (by decide))
    · rw [gte_f g2] at h ⊢; exact ⟨g, by omega, by omega, h, rfl⟩
  · rw [gte_f g] at h; exact absurd h (flR_f (by decide))
theorem lpF_n {P : Int × Int → Int → X3} {k : Int} {J : Prop → Prop → Prop} {j : Nat} {x : X3} (h : ¬ snR t L m k x.1) : lpF t L m P k J j x = x := by
  cases j with
  | zero => rfl
  | succ j => rw [lpF, gte_f h]
theorem lpF_y {P : Int × Int → Int → X3} {k : Int} {J : Prop → Prop → Prop} {j : Nat} {x : X3} (h : snR t L m k x.1) : lpF t L m P k J (j + 1) x = lpF t L m P k J j ((P (stR t L m x.1) x.2.1).1, (P (stR t L m x.1) x.2.1).2.1, fun v => J (x.2.2 v) ((P (stR t L m x.1) x.2.1).2.2 v)) := by rw [lpF, gte_t h]
end
/-- the class' board as a sentence asks it -/
def SPn (σ : jS) (ex : Int → Prop) (idn : Int → Int) : Prop := okD σ 28 ∧ okB σ 30 ∧ (∀ w, idn w = fi (fun i => σ 29 i = w) (σ 28 6)) ∧ ∀ w, ex w ↔ ¬ fi (fun b => σ 31 b = idn w ∧ ¬ idn w = -1) (σ 30 0) = -1
theorem SPn_s {σ τ : jS} {ex : Int → Prop} {idn : Int → Int} {X : List Nat} (h : SPn σ ex idn) (hs : same X σ τ) (h28 : 28 ∉ X) (h29 : 29 ∉ X) (h30 : 30 ∉ X) (h31 : 31 ∉ X) (h32 : 32 ∉ X) (h33 : 33 ∉ X) : SPn τ ex idn := by
  obtain ⟨a, b, c, d⟩ := h
  refine ⟨?_, okB_t b (hs 30 h30) (hs 31 h31) (hs 32 h32) (hs 33 h33), fun w => by rw [hs 29 h29, hs 28 h28]; exact c w, fun w => by rw [hs 31 h31, hs 30 h30]; exact d w⟩
  unfold okD at a ⊢
  show cB 10 (τ 28 0) ∧ cB 10 (τ 28 1) ∧ cB 1 (τ 28 2) ∧ cB 12 (τ 28 3) ∧ cB 8 (τ 28 6) ∧ iR (τ 28 7) ∧ ∀ j, 0 ≤ j → j < 8 → lR (τ 29 j)
  rw [hs 28 h28, hs 29 h29]
  exact a
def SPp (σ : jS) (t : Int → Int) (L m : Int) (ex : Int → Prop) (idn : Int → Int) (R : Int × Int) (n : Int) : Prop := rd t L m R σ ∧ R.1 = 0 ∧ σ 51 1 = n ∧ cB 20 n ∧ cB 40 (σ 51 0) ∧ σ 51 0 ≤ 2 * n ∧ SPn σ ex idn
def SPo (σ : jS) (t : Int → Int) (L m : Int) (Y : X3) (τ : jS) : Prop := same [1, 51, 52] σ τ ∧ rd t L m Y.1 τ ∧ cB 40 (τ 51 0) ∧ cB 20 (τ 51 1) ∧ (Y.1.1 = 0 → τ 51 1 = Y.2.1 ∧ σ 51 1 < Y.2.1 ∧ σ 51 0 ≤ τ 51 0 ∧ τ 51 0 ≤ σ 51 0 + 2 * (Y.2.1 - σ 51 1) - 1 ∧ (∀ j, j < σ 51 0 → τ 52 j = σ 52 j) ∧ rpC (τ 52) (σ 51 0) (τ 51 0) Y.2.2 (Y.2.1 - σ 51 1))
set_option maxRecDepth 100000 in
set_option maxHeartbeats 4000000 in
theorem c_X9_put {σ : jS} {w s z : Int} (hcb : cB 40 (σ 51 0)) : Jm 1 miX9_put [.ref 51, vI w, vI s, vI z] σ (fun r τ => r = none ∧ same [51, 52] σ τ ∧ τ 51 1 = σ 51 1 ∧ cB 40 (τ 51 0) ∧ (σ 51 0 < 40 → τ 51 0 = σ 51 0 + 1 ∧ τ 52 (σ 51 0) = ((w - 100) * 3 + s) * 1000 + z ∧ ∀ j, ¬ j = σ 51 0 → τ 52 j = σ 52 j)) := by
  refine jm_ofF (Po := (fun r τ => r = none ∧ same [51, 52] σ τ ∧ τ 51 1 = σ 51 1 ∧ cB 40 (τ 51 0) ∧ (σ 51 0 < 40 → τ 51 0 = σ 51 0 + 1 ∧ τ 52 (σ 51 0) = ((w - 100) * 3 + s) * 1000 + z ∧ ∀ j, ¬ j = σ 51 0 → τ 52 j = σ 52 j))) (plainFor_of_name (by decide)) (Nat.le_of_ble_eq_true rfl) (lv := [(0, _), (1, _), (2, _), (3, _)]) rfl ?_
  refine r_aload_n (dc dkX9_put 0 rfl) rfl (np 1 rfl ?_)
  refine r_gI 0 (dc dkX9_put 1 rfl) flX9_9 fd_51_0 rfl (np 4 rfl ?_)
  refine r_if_lt (tgt := 49) (dc dkX9_put 2 rfl) rfl (by first | assumption | decide | omega) (fun h4 => ?_) (fun h4 => (np 7 rfl ?_))
  · skip
    exact absurd hcb (by omega)
  refine r_aload_n (dc dkX9_put 3 rfl) rfl (np 8 rfl ?_)
  refine r_gI 0 (dc dkX9_put 4 rfl) flX9_9 fd_51_0 rfl (np 11 rfl ?_)
  refine r_bipush (dc dkX9_put 5 rfl) bp_40 (np 13 rfl ?_)
  refine r_icmp_ge (tgt := 49) (dc dkX9_put 6 rfl) rfl (by first | assumption | decide | omega) (by first | assumption | decide | omega) (fun h13 => ?_) (fun h13 => (np 16 rfl ?_))
  · skip
    exact r_vret (dc dkX9_put 29 rfl) rfl (by
        first
        | exact ⟨rfl, same.refl _ _, rfl, hcb, fun q => by omega⟩
        | exact ⟨rfl, ((same.refl _ _).put (by decide)).put (by decide), by rw [ju_ne (by decide), ju_ne (by omega)], by rw [ju_at, ju_ne (by omega)]; omega, fun _ => ⟨by rw [ju_at, ju_ne (by omega)], by rw [ju_ne (by omega), ju_at], fun j hj => by rw [ju_ne (by omega), ju_ne (by omega)]⟩⟩)
  refine r_aload_n (dc dkX9_put 7 rfl) rfl (np 17 rfl ?_)
  refine r_getR (dc dkX9_put 8 rfl) flX9_18 fd_51_2 (np 20 rfl ?_)
  refine r_aload_n (dc dkX9_put 9 rfl) rfl (np 21 rfl ?_)
  refine r_gI 0 (dc dkX9_put 10 rfl) flX9_9 fd_51_0 rfl (np 24 rfl ?_)
  refine r_iload_n (dc dkX9_put 11 rfl) rfl (np 25 rfl ?_)
  refine r_bipush (dc dkX9_put 12 rfl) bp_100 (np 27 rfl ?_)
  refine r_isub (dc dkX9_put 13 rfl) (np 28 rfl ?_)
  refine r_iconst (dc dkX9_put 14 rfl) (np 29 rfl ?_)
  refine r_imul (dc dkX9_put 15 rfl) (np 30 rfl ?_)
  refine r_iload_n (dc dkX9_put 16 rfl) rfl (np 31 rfl ?_)
  refine r_iadd (dc dkX9_put 17 rfl) (np 32 rfl ?_)
  refine r_sipush (dc dkX9_put 18 rfl) sp_1000 (np 35 rfl ?_)
  refine r_imul (dc dkX9_put 19 rfl) (np 36 rfl ?_)
  refine r_iload_n (dc dkX9_put 20 rfl) rfl (np 37 rfl ?_)
  refine r_iadd (dc dkX9_put 21 rfl) (np 38 rfl ?_)
  refine r_iast (dc dkX9_put 22 rfl) ar_52 (by omega) (np 39 rfl ?_)
  refine r_aload_n (dc dkX9_put 23 rfl) rfl (np 40 rfl ?_)
  refine r_dup (dc dkX9_put 24 rfl) rfl (np 41 rfl ?_)
  refine r_gI 0 (dc dkX9_put 25 rfl) flX9_9 fd_51_0 rfl (np 44 rfl ?_)
  refine r_iconst (dc dkX9_put 26 rfl) (np 45 rfl ?_)
  refine r_iadd (dc dkX9_put 27 rfl) (np 46 rfl ?_)
  refine r_pI 0 (dc dkX9_put 28 rfl) fpX9_9 fd_51_0 rfl (np 49 rfl ?_)
  exact r_vret (dc dkX9_put 29 rfl) rfl (by
      first
      | exact ⟨rfl, same.refl _ _, rfl, hcb, fun q => by omega⟩
      | exact ⟨rfl, ((same.refl _ _).put (by decide)).put (by decide), by rw [ju_ne (by decide), ju_ne (by omega)], by rw [ju_at, ju_ne (by omega)]; omega, fun _ => ⟨by rw [ju_at, ju_ne (by omega)], by rw [ju_ne (by omega), ju_at], fun j hj => by rw [ju_ne (by omega), ju_ne (by omega)]⟩⟩)
set_option maxRecDepth 100000 in
set_option maxHeartbeats 4000000 in
theorem c_X9_readBandName {σ : jS} {t : Int → Int} {L m : Int} {ex : Int → Prop} {idn : Int → Int} {R : Int × Int} {n : Int} (hR : rd t L m R σ) (h0 : R.1 = 0) (hS : SPn σ ex idn) {k : Int} (hk : k = 109 ∨ k = 110) (h4 : cB 40 (σ 51 0)) (h39 : σ 51 0 < 40) : Jm 10 miX9_readBandName [.ref 51, .ref 1, .ref 28, vI k] σ (fun r τ => r = none ∧ same [1, 51, 52] σ τ ∧ rd t L m (nmB t L m ex R) τ ∧ cB 40 (τ 51 0) ∧ τ 51 1 = σ 51 1 ∧ ((nmB t L m ex R).1 = 0 → τ 51 0 = σ 51 0 + 1 ∧ τ 52 (σ 51 0) = (k - 100) * 3000 + idn (wQ t L m R.2) ∧ cB 7 (idn (wQ t L m R.2)) ∧ ∀ j, ¬ j = σ 51 0 → τ 52 j = σ 52 j)) := by
  refine jm_ofF (Po := (fun r τ => r = none ∧ same [1, 51, 52] σ τ ∧ rd t L m (nmB t L m ex R) τ ∧ cB 40 (τ 51 0) ∧ τ 51 1 = σ 51 1 ∧ ((nmB t L m ex R).1 = 0 → τ 51 0 = σ 51 0 + 1 ∧ τ 52 (σ 51 0) = (k - 100) * 3000 + idn (wQ t L m R.2) ∧ cB 7 (idn (wQ t L m R.2)) ∧ ∀ j, ¬ j = σ 51 0 → τ 52 j = σ 52 j))) (plainFor_of_name (by decide)) (Nat.le_of_ble_eq_true rfl) (lv := [(0, _), (1, _), (2, _), (3, _)]) rfl ?_
  refine r_aload_n (dc dkX9_readBandName 0 rfl) rfl (np 1 rfl ?_)
  refine r_iconst (dc dkX9_readBandName 1 rfl) (np 2 rfl ?_)
  refine r_pV1 (y' := miX8_sees) (dc dkX9_readBandName 2 rfl) mlX9_32 ceX8_sees ob_1 (Nat.le_of_ble_eq_true rfl) (Nat.le_of_ble_eq_true rfl) (c_X8_sees hR (by decide)) (np 5 rfl ?_)
  refine r_bn (tgt := 14) (dc dkX9_readBandName 3 rfl) rfl (fun h5 => ?_) (fun h5 => (np 8 rfl ?_))
  · skip
    have w1 := rd_w hR h5
    have hid := hS.2.2.1 (wQ t L m R.2)
    have hx := hS.2.2.2 (wQ t L m R.2)
    have ns := hS.1.2.2.2.2.1
    have fs := fi_spec (fun i => σ 29 i = wQ t L m R.2) (n := σ 28 6) ns.1
    rw [← hid] at fs
    have idb : -1 ≤ idn (wQ t L m R.2) ∧ idn (wQ t L m R.2) ≤ 7 := by omega
    refine r_aload_n (dc dkX9_readBandName 8 rfl) rfl (np 15 rfl ?_)
    refine r_aload_n (dc dkX9_readBandName 9 rfl) rfl (np 16 rfl ?_)
    refine r_gL 6 (dc dkX9_readBandName 10 rfl) flX9_72 fd_1_6 rfl (np 19 rfl ?_)
    refine r_pV1 (y' := miX1_idOf) (dc dkX9_readBandName 11 rfl) mlX9_76 ceX1_idOf ob_28 (Nat.le_of_ble_eq_true rfl) (Nat.le_of_ble_eq_true rfl) (c_X1_idOf isBoard_at28 hS.1 (by rw [w1.1]; omega)) (np 22 rfl ?_)
    refine r_eqI (idn (wQ t L m R.2)) (by rw [hid, w1.1]) ?_
    refine r_istore (lv' := [(4, _), (0, _), (1, _), (2, _), (3, _)]) (dc dkX9_readBandName 12 rfl) (Nat.le_of_ble_eq_true rfl) rfl (np 24 rfl ?_)
    refine r_aload_n (dc dkX9_readBandName 13 rfl) rfl (np 25 rfl ?_)
    refine r_getR (dc dkX9_readBandName 14 rfl) flX9_82 fd_28_9 (np 28 rfl ?_)
    refine r_iload (dc dkX9_readBandName 15 rfl) rfl (np 30 rfl ?_)
    refine r_pV1 (y' := miX0_withId) (dc dkX9_readBandName 16 rfl) mlX9_86 ceX0_withId ob_30 (Nat.le_of_ble_eq_true rfl) (Nat.le_of_ble_eq_true rfl) (c_X0_withId isBands_at30 hS.2.1 (by omega)) (np 33 rfl ?_)
    have fs2 := fi_spec (fun b => σ 31 b = idn (wQ t L m R.2) ∧ ¬ idn (wQ t L m R.2) = -1) (n := σ 30 0) hS.2.1.1.1
    have b30 := hS.2.1.1
    have fb : iR (fi (fun b => σ (30 + 1) b = idn (wQ t L m R.2) ∧ ¬ idn (wQ t L m R.2) = -1) (σ 30 0)) := by
      show iR (fi (fun b => σ 31 b = idn (wQ t L m R.2) ∧ ¬ idn (wQ t L m R.2) = -1) (σ 30 0))
      omega
    refine r_iconst (dc dkX9_readBandName 17 rfl) (np 34 rfl ?_)
    refine r_icmp_ne (tgt := 43) (dc dkX9_readBandName 18 rfl) rfl fb (by first | assumption | decide | omega) (fun h34 => ?_) (fun h34 => (np 37 rfl ?_))
    · skip
      refine r_aload_n (dc dkX9_readBandName 23 rfl) rfl (np 44 rfl ?_)
      refine r_iload_n (dc dkX9_readBandName 24 rfl) rfl (np 45 rfl ?_)
      refine r_iconst (dc dkX9_readBandName 25 rfl) (np 46 rfl ?_)
      refine r_iload (dc dkX9_readBandName 26 rfl) rfl (np 48 rfl ?_)
      refine r_cV3 (y' := miX9_put) (dc dkX9_readBandName 27 rfl) mlX9_41 ceX9_put ob_51 (Nat.le_of_ble_eq_true rfl) (Nat.le_of_ble_eq_true rfl) (c_X9_put h4) (fun r τ3 hp3 => (np 51 rfl ?_))
      obtain ⟨rfl, hs3, o3, b3, p3⟩ := hp3
      refine r_aload_n (dc dkX9_readBandName 28 rfl) rfl (np 52 rfl ?_)
      refine r_cV0 (y' := miX8_step) (dc dkX9_readBandName 29 rfl) mlX9_38 ceX8_step ob_1 (Nat.le_of_ble_eq_true rfl) (Nat.le_of_ble_eq_true rfl) (c_X8_step (rd_s hR hs3 (by decide) (by decide) (by decide))) (fun r τ4 hp4 => (np 55 rfl ?_))
      obtain ⟨rfl, hs4, hR4⟩ := hp4
      exact r_vret (dc dkX9_readBandName 30 rfl) rfl (by
          have hx2 : ex (wQ t L m R.2) := hx.mpr h34
          obtain ⟨q1, q2, q3⟩ := p3 h39
          have hi : ¬ idn (wQ t L m R.2) = -1 := by
            rcases fs2 with g | g
            · exact absurd g.1 h34
            · exact g.2.2.1.2
          refine ⟨rfl, (hs3.wide (by decide)).tr (hs4.wide (by decide)), by rw [nmB, gte_t h5, gte_t hx2]; exact hR4, by rw [hs4 51 (by decide)]; exact b3, by rw [hs4 51 (by decide)]; exact o3, fun _ => ⟨by rw [hs4 51 (by decide)]; exact q1, by rw [hs4 52 (by decide), q2]; omega, by omega, fun j hj => by rw [hs4 52 (by decide)]; exact q3 j hj⟩⟩)
    refine r_aload_n (dc dkX9_readBandName 19 rfl) rfl (np 38 rfl ?_)
    refine r_iconst (dc dkX9_readBandName 20 rfl) (np 39 rfl ?_)
    refine r_cV1 (y' := miX8_fail) (dc dkX9_readBandName 21 rfl) mlX9_51 ceX8_fail ob_1 (Nat.le_of_ble_eq_true rfl) (Nat.le_of_ble_eq_true rfl) (c_X8_fail hR (by decide)) (fun r τ2 hp2 => (np 42 rfl ?_))
    obtain ⟨rfl, hs2, hR2⟩ := hp2
    exact r_vret (dc dkX9_readBandName 22 rfl) rfl (by
        have hx2 : ¬ ex (wQ t L m R.2) := fun z => hx.mp z h34
        exact ⟨rfl, hs2.wide (by decide), by rw [nmB, gte_t h5, gte_f hx2]; exact hR2, by rw [hs2 51 (by decide)]; exact h4, by rw [hs2 51 (by decide)], fun z => by exfalso; rw [nmB, gte_t h5, gte_f hx2] at z; exact flR_f (by decide) z⟩)
  refine r_aload_n (dc dkX9_readBandName 4 rfl) rfl (np 9 rfl ?_)
  refine r_iconst (dc dkX9_readBandName 5 rfl) (np 10 rfl ?_)
  refine r_cV1 (y' := miX8_fail) (dc dkX9_readBandName 6 rfl) mlX9_51 ceX8_fail ob_1 (Nat.le_of_ble_eq_true rfl) (Nat.le_of_ble_eq_true rfl) (c_X8_fail hR (by decide)) (fun r τ2 hp2 => (np 13 rfl ?_))
  obtain ⟨rfl, hs2, hR2⟩ := hp2
  exact r_vret (dc dkX9_readBandName 7 rfl) rfl ⟨rfl, hs2.wide (by decide), by rw [nmB, gte_f h5]; exact hR2, by rw [hs2 51 (by decide)]; exact h4, by rw [hs2 51 (by decide)], fun z => by exfalso; rw [nmB, gte_f h5] at z; exact flR_f (by decide) z⟩
set_option maxRecDepth 100000 in
set_option maxHeartbeats 4000000 in
theorem c_X9_readMeasure {σ : jS} {t : Int → Int} {L m : Int} {R : Int × Int} (hR : rd t L m R σ) (h0 : R.1 = 0) {k : Int} (hk : 112 ≤ k ∧ k ≤ 116) (h4 : cB 40 (σ 51 0)) (h39 : σ 51 0 < 40) : Jm 10 miX9_readMeasure [.ref 51, .ref 1, vI k] σ (fun r τ => r = none ∧ same [1, 51, 52] σ τ ∧ rd t L m (ms2 t L m R) τ ∧ cB 40 (τ 51 0) ∧ τ 51 1 = σ 51 1 ∧ ((ms2 t L m R).1 = 0 → τ 51 0 = σ 51 0 + 1 ∧ τ 52 (σ 51 0) = (k - 100) * 3000 + (tK t L m R.2 - 60) * 1000 + nQ t L m (ms1 t L m R).2 ∧ (60 ≤ tK t L m R.2 ∧ tK t L m R.2 ≤ 62) ∧ cB 999 (nQ t L m (ms1 t L m R).2) ∧ ∀ j, ¬ j = σ 51 0 → τ 52 j = σ 52 j)) := by
  have e4 := rd_k hR h0
  have kb := tK_b (t := t) (L := L) (m := m) (p := R.2)
  refine jm_ofF (Po := (fun r τ => r = none ∧ same [1, 51, 52] σ τ ∧ rd t L m (ms2 t L m R) τ ∧ cB 40 (τ 51 0) ∧ τ 51 1 = σ 51 1 ∧ ((ms2 t L m R).1 = 0 → τ 51 0 = σ 51 0 + 1 ∧ τ 52 (σ 51 0) = (k - 100) * 3000 + (tK t L m R.2 - 60) * 1000 + nQ t L m (ms1 t L m R).2 ∧ (60 ≤ tK t L m R.2 ∧ tK t L m R.2 ≤ 62) ∧ cB 999 (nQ t L m (ms1 t L m R).2) ∧ ∀ j, ¬ j = σ 51 0 → τ 52 j = σ 52 j))) (plainFor_of_name (by decide)) (Nat.le_of_ble_eq_true rfl) (lv := [(0, _), (1, _), (2, _)]) rfl ?_
  refine r_aload_n (dc dkX9_readMeasure 0 rfl) rfl (np 1 rfl ?_)
  refine r_gI 4 (dc dkX9_readMeasure 1 rfl) flX9_48 fd_1_4 rfl (np 4 rfl ?_)
  refine r_bipush (dc dkX9_readMeasure 2 rfl) bp_60 (np 6 rfl ?_)
  refine r_isub (dc dkX9_readMeasure 3 rfl) (np 7 rfl ?_)
  refine r_istore_n (lv' := [(3, _), (0, _), (1, _), (2, _)]) (dc dkX9_readMeasure 4 rfl) (Nat.le_of_ble_eq_true rfl) rfl (np 8 rfl ?_)
  have jj22 : ∀ τ2 : jS, same [1] σ τ2 ∧ rd t L m (gte (60 ≤ tK t L m R.2 ∧ tK t L m R.2 ≤ 62) R (flR t L m 1 R)) τ2 → jR 10 miX9_readMeasure (fun r τ => r = none ∧ same [1, 51, 52] σ τ ∧ rd t L m (ms2 t L m R) τ ∧ cB 40 (τ 51 0) ∧ τ 51 1 = σ 51 1 ∧ ((ms2 t L m R).1 = 0 → τ 51 0 = σ 51 0 + 1 ∧ τ 52 (σ 51 0) = (k - 100) * 3000 + (tK t L m R.2 - 60) * 1000 + nQ t L m (ms1 t L m R).2 ∧ (60 ≤ tK t L m R.2 ∧ tK t L m R.2 ≤ 62) ∧ cB 999 (nQ t L m (ms1 t L m R).2) ∧ ∀ j, ¬ j = σ 51 0 → τ 52 j = σ 52 j)) 22 [(0, .ref 51), (1, .ref 1), (2, vI k), (3, vI (σ 1 4 - 60))] [] τ2 := by
    intro τ2 hq
    obtain ⟨hs2, hR2⟩ := hq
    refine r_aload_n (dc dkX9_readMeasure 13 rfl) rfl (np 23 rfl ?_)
    refine r_cV0 (y' := miX8_step) (dc dkX9_readMeasure 14 rfl) mlX9_38 ceX8_step ob_1 (Nat.le_of_ble_eq_true rfl) (Nat.le_of_ble_eq_true rfl) (c_X8_step hR2) (fun r τ3 hp3 => (np 26 rfl ?_))
    obtain ⟨rfl, hs3, hR3⟩ := hp3
    change rd t L m (ms1 t L m R) τ3 at hR3
    have S3 : same [1] σ τ3 := hs2.tr hs3
    refine r_aload_n (dc dkX9_readMeasure 15 rfl) rfl (np 27 rfl ?_)
    refine r_iconst (dc dkX9_readMeasure 16 rfl) (np 28 rfl ?_)
    refine r_pV1 (y' := miX8_sees) (dc dkX9_readMeasure 17 rfl) mlX9_32 ceX8_sees ob_1 (Nat.le_of_ble_eq_true rfl) (Nat.le_of_ble_eq_true rfl) (c_X8_sees hR3 (by decide)) (np 31 rfl ?_)
    refine r_bz (tgt := 51) (dc dkX9_readMeasure 18 rfl) rfl (fun h31 => ?_) (fun h31 => (np 34 rfl ?_))
    · skip
      refine r_aload_n (dc dkX9_readMeasure 28 rfl) rfl (np 52 rfl ?_)
      refine r_iconst (dc dkX9_readMeasure 29 rfl) (np 53 rfl ?_)
      refine r_cV1 (y' := miX8_fail) (dc dkX9_readMeasure 30 rfl) mlX9_51 ceX8_fail ob_1 (Nat.le_of_ble_eq_true rfl) (Nat.le_of_ble_eq_true rfl) (c_X8_fail hR3 (by decide)) (fun r τ4 hp4 => (np 56 rfl ?_))
      obtain ⟨rfl, hs4, hR4⟩ := hp4
      exact r_vret (dc dkX9_readMeasure 31 rfl) rfl (by
          first
          | exact ⟨rfl, (S3.tr hs4).wide (by decide), by rw [ms2, gte_f h31]; exact hR4, by rw [hs4 51 (by decide), S3 51 (by decide)]; exact h4, by rw [hs4 51 (by decide), S3 51 (by decide)], fun z => by exfalso; rw [ms2, gte_f h31] at z; exact flR_f (by decide) z⟩
          | (have v3 := rd_v hR3 h31
             have e51 : τ3 51 = σ 51 := S3 51 (by decide)
             have e52 : τ3 52 = σ 52 := S3 52 (by decide)
             rw [e51] at o4 p4
             rw [e52] at p4
             obtain ⟨q1, q2, q3⟩ := p4 h39
             have hs : 60 ≤ tK t L m R.2 ∧ tK t L m R.2 ≤ 62 := Classical.byContradiction (fun z => by
               have y := h31.1
               unfold ms1 at y
               rw [gte_f z, stR_f] at y
               exact flR_f (by decide) y)
             refine ⟨rfl, ((S3.wide (by decide)).tr (hs4.wide (by decide))).tr (hs5.wide (by decide)), by rw [ms2, gte_t h31]; exact hR5, by rw [hs5 51 (by decide)]; exact b4, by rw [hs5 51 (by decide)]; exact o4, fun _ => ⟨by rw [hs5 51 (by decide)]; exact q1, by rw [hs5 52 (by decide), q2, v3.1, e4]; omega, hs, v3.2, fun j hj => by rw [hs5 52 (by decide)]; exact q3 j hj⟩⟩))
    refine r_aload_n (dc dkX9_readMeasure 19 rfl) rfl (np 35 rfl ?_)
    refine r_iload_n (dc dkX9_readMeasure 20 rfl) rfl (np 36 rfl ?_)
    refine r_iload_n (dc dkX9_readMeasure 21 rfl) rfl (np 37 rfl ?_)
    refine r_aload_n (dc dkX9_readMeasure 22 rfl) rfl (np 38 rfl ?_)
    refine r_gI 5 (dc dkX9_readMeasure 23 rfl) flX9_92 fd_1_5 rfl (np 41 rfl ?_)
    refine r_cV3 (y' := miX9_put) (dc dkX9_readMeasure 24 rfl) mlX9_41 ceX9_put ob_51 (Nat.le_of_ble_eq_true rfl) (Nat.le_of_ble_eq_true rfl) (c_X9_put (by rw [S3 51 (by decide)]; exact h4)) (fun r τ4 hp4 => (np 44 rfl ?_))
    obtain ⟨rfl, hs4, o4, b4, p4⟩ := hp4
    refine r_aload_n (dc dkX9_readMeasure 25 rfl) rfl (np 45 rfl ?_)
    refine r_cV0 (y' := miX8_step) (dc dkX9_readMeasure 26 rfl) mlX9_38 ceX8_step ob_1 (Nat.le_of_ble_eq_true rfl) (Nat.le_of_ble_eq_true rfl) (c_X8_step (rd_s hR3 hs4 (by decide) (by decide) (by decide))) (fun r τ5 hp5 => (np 48 rfl ?_))
    obtain ⟨rfl, hs5, hR5⟩ := hp5
    refine r_goto (tgt := 56) (dc dkX9_readMeasure 27 rfl) rfl ?_
    exact r_vret (dc dkX9_readMeasure 31 rfl) rfl (by
        first
        | exact ⟨rfl, (S3.tr hs4).wide (by decide), by rw [ms2, gte_f h31]; exact hR4, by rw [hs4 51 (by decide), S3 51 (by decide)]; exact h4, by rw [hs4 51 (by decide), S3 51 (by decide)], fun z => by exfalso; rw [ms2, gte_f h31] at z; exact flR_f (by decide) z⟩
        | (have v3 := rd_v hR3 h31
           have e51 : τ3 51 = σ 51 := S3 51 (by decide)
           have e52 : τ3 52 = σ 52 := S3 52 (by decide)
           rw [e51] at o4 p4
           rw [e52] at p4
           obtain ⟨q1, q2, q3⟩ := p4 h39
           have hs : 60 ≤ tK t L m R.2 ∧ tK t L m R.2 ≤ 62 := Classical.byContradiction (fun z => by
             have y := h31.1
             unfold ms1 at y
             rw [gte_f z, stR_f] at y
             exact flR_f (by decide) y)
           refine ⟨rfl, ((S3.wide (by decide)).tr (hs4.wide (by decide))).tr (hs5.wide (by decide)), by rw [ms2, gte_t h31]; exact hR5, by rw [hs5 51 (by decide)]; exact b4, by rw [hs5 51 (by decide)]; exact o4, fun _ => ⟨by rw [hs5 51 (by decide)]; exact q1, by rw [hs5 52 (by decide), q2, v3.1, e4]; omega, hs, v3.2, fun j hj => by rw [hs5 52 (by decide)]; exact q3 j hj⟩⟩))
  refine r_iload_n (dc dkX9_readMeasure 5 rfl) rfl (np 9 rfl ?_)
  refine r_if_lt (tgt := 17) (dc dkX9_readMeasure 6 rfl) rfl (by first | assumption | decide | omega) (fun h9 => ?_) (fun h9 => (np 12 rfl ?_))
  · skip
    refine r_aload_n (dc dkX9_readMeasure 10 rfl) rfl (np 18 rfl ?_)
    refine r_iconst (dc dkX9_readMeasure 11 rfl) (np 19 rfl ?_)
    refine r_cV1 (y' := miX8_fail) (dc dkX9_readMeasure 12 rfl) mlX9_51 ceX8_fail ob_1 (Nat.le_of_ble_eq_true rfl) (Nat.le_of_ble_eq_true rfl) (c_X8_fail hR (by decide)) (fun r τ2 hp2 => (np 22 rfl ?_))
    obtain ⟨rfl, hs2, hR2⟩ := hp2
    refine r_pick [1, 2, 3, 0] rfl ?_
    exact jj22 _ (by first | exact ⟨hs2, by rw [gte_f (by omega)]; exact hR2⟩ | exact ⟨same.refl _ _, by rw [gte_t (by omega)]; exact hR⟩)
  refine r_iload_n (dc dkX9_readMeasure 7 rfl) rfl (np 13 rfl ?_)
  refine r_iconst (dc dkX9_readMeasure 8 rfl) (np 14 rfl ?_)
  refine r_icmp_le (tgt := 22) (dc dkX9_readMeasure 9 rfl) rfl (by first | assumption | decide | omega) (by first | assumption | decide | omega) (fun h14 => ?_) (fun h14 => (np 17 rfl ?_))
  · skip
    refine r_pick [1, 2, 3, 0] rfl ?_
    exact jj22 _ (by first | exact ⟨hs2, by rw [gte_f (by omega)]; exact hR2⟩ | exact ⟨same.refl _ _, by rw [gte_t (by omega)]; exact hR⟩)
  refine r_aload_n (dc dkX9_readMeasure 10 rfl) rfl (np 18 rfl ?_)
  refine r_iconst (dc dkX9_readMeasure 11 rfl) (np 19 rfl ?_)
  refine r_cV1 (y' := miX8_fail) (dc dkX9_readMeasure 12 rfl) mlX9_51 ceX8_fail ob_1 (Nat.le_of_ble_eq_true rfl) (Nat.le_of_ble_eq_true rfl) (c_X8_fail hR (by decide)) (fun r τ2 hp2 => (np 22 rfl ?_))
  obtain ⟨rfl, hs2, hR2⟩ := hp2
  refine r_pick [1, 2, 3, 0] rfl ?_
  exact jj22 _ (by first | exact ⟨hs2, by rw [gte_f (by omega)]; exact hR2⟩ | exact ⟨same.refl _ _, by rw [gte_t (by omega)]; exact hR⟩)
