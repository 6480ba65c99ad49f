/-! ===== the reader as a state: (0, q) at the token behind q; (f, p) failed ===== -/
theorem rnF_an (t : Int → Int) : ∀ (n : Nat) (p j : Int), p ≤ j → j < rnF t n p → isAn (t j)
  | 0, p, j => by rw [rnF]; intro h1 h2; omega
  | n + 1, p, j => by
    rw [rnF]
    intro h1 h2
    by_cases h : isAn (t p)
    · rw [if_pos h] at h2
      by_cases hj : j = p
      · subst hj; exact h
      · exact rnF_an t n (p + 1) j (by omega) h2
    · rw [if_neg h] at h2; omega
theorem an_cnt {t : Int → Int} {s : Int} (n : Nat) (h : ∀ j, s ≤ j → j < s + n → isAn (t j)) : cL t s n + cD t s n = n ∧ 0 ≤ cL t s n ∧ 0 ≤ cD t s n ∧ 0 ≤ vNN t s n ∧ vNN t s n < 10 ^ n ∧ (cD t s n = 0 → 0 < n → 0 < vWN t s n) := by
  induction n with
  | zero => exact ⟨rfl, Int.le_refl 0, Int.le_refl 0, Int.le_refl 0, by rw [vNN]; decide, fun _ h => absurd h (by decide)⟩
  | succ n ih =>
    have i1 := ih (fun j h1 h2 => h j h1 (by omega))
    have hj := h (s + n) (by omega) (by omega)
    have hp : (10 : Int) ^ (n + 1) = 10 ^ n * 10 := Int.pow_succ 10 n
    have hw := vW_b (t := t) (s := s) n
    have e1 : cL t s ((n + 1 : Nat) : Int) = cL t s n + bI (isLt (t (s + n))) := by
      unfold cL; rw [show ((n + 1 : Nat) : Int) = (n : Int) + 1 by omega, smI_s _ (by omega)]
    have e2 : cD t s ((n + 1 : Nat) : Int) = cD t s n + bI (isDg (t (s + n))) := by
      unfold cD; rw [show ((n + 1 : Nat) : Int) = (n : Int) + 1 by omega, smI_s _ (by omega)]
    rw [e1, e2, vNN, vWN, hp]
    by_cases hl : isLt (t (s + n))
    · rw [bI_t hl, bI_f (by omega), if_pos hl, if_pos hl]
      refine ⟨by omega, by omega, by omega, by omega, by omega, fun _ _ => by omega⟩
    · rw [bI_f hl, bI_t (by omega), if_neg hl, if_neg hl]
      refine ⟨by omega, by omega, by omega, by omega, by omega, fun _ _ => by omega⟩
section
variable (t : Int → Int) (L m : Int)
noncomputable def nQ (q : Int) : Int := vN t (tS t L m q) (tN t L m q - tS t L m q)
noncomputable def wQ (q : Int) : Int := vW t (tS t L m q) (tN t L m q - tS t L m q)
noncomputable def stR (R : Int × Int) : Int × Int := @ite _ (R.1 = 0) (Classical.propDecidable _) (0, tN t L m R.2) R
noncomputable def flR (f : Int) (R : Int × Int) : Int × Int := @ite _ (R.1 = 0) (Classical.propDecidable _) (f, tS t L m R.2) R
def snR (k : Int) (R : Int × Int) : Prop := R.1 = 0 ∧ tK t L m R.2 = k
noncomputable def xpR (k : Int) (R : Int × Int) : Int × Int := @ite _ (snR t L m k R) (Classical.propDecidable _) (stR t L m R) (flR t L m 1 R)
noncomputable def ckR (a b : Int) (R : Int × Int) : Int × Int := @ite _ (snR t L m 2 R) (Classical.propDecidable _) (@ite _ (nQ t L m R.2 < a ∨ b < nQ t L m R.2) (Classical.propDecidable _) (flR t L m 2 R) R) (flR t L m 1 R)
noncomputable def nmR (a b : Int) (R : Int × Int) : Int × Int := stR t L m (ckR t L m a b R)
end
theorem tS_g {t : Int → Int} {L m p : Int} (h : tLg t L m p) : tS t L m p = m := by unfold tS; exact bite_t h
theorem tK_g {t : Int → Int} {L m p : Int} (h : tLg t L m p) : tK t L m p = 1 := by unfold tK; exact bite_t h
theorem tN_g {t : Int → Int} {L m p : Int} (h : tLg t L m p) : tN t L m p = skp t L p := by unfold tN; exact bite_t h
theorem tS_n {t : Int → Int} {L m p : Int} (h : ¬ tLg t L m p) : tS t L m p = skp t L p := by unfold tS; exact bite_f h
theorem tK_n {t : Int → Int} {L m p : Int} (h : ¬ tLg t L m p) : tK t L m p = if L ≤ skp t L p then 0 else if isAn (t (skp t L p)) then kdR t (skp t L p) (rne t L (skp t L p)) else if isSg (t (skp t L p)) then t (skp t L p) else 1 := by unfold tK; exact bite_f h
theorem tN_n {t : Int → Int} {L m p : Int} (h : ¬ tLg t L m p) : tN t L m p = if L ≤ skp t L p then skp t L p else if isAn (t (skp t L p)) then rne t L (skp t L p) else skp t L p + 1 := by unfold tN; exact bite_f h
theorem skp_b {t : Int → Int} {L p : Int} (h : p ≤ L) : p ≤ skp t L p ∧ skp t L p ≤ L := by
  have := skF_b t (L - p).toNat p
  unfold skp; omega
theorem rne_b {t : Int → Int} {L p : Int} (h : p ≤ L) : p ≤ rne t L p ∧ rne t L p ≤ L := by
  have := rnF_b t (L - p).toNat p
  unfold rne; omega
theorem rne_s {t : Int → Int} {L p : Int} (h : p < L) (ha : isAn (t p)) : p < rne t L p := by
  have := rnF_b t (L - (p + 1)).toNat (p + 1)
  unfold rne; rw [rnF_y h ha]; omega
theorem tN_b {t : Int → Int} {L m p : Int} (h : p ≤ L) : p ≤ tN t L m p ∧ tN t L m p ≤ L := by
  have h1 := skp_b (t := t) h
  have h2 := rne_b (t := t) h1.2
  by_cases hg : tLg t L m p
  · rw [tN_g hg]; exact h1
  · rw [tN_n hg]
    split
    · exact h1
    · split <;> omega
theorem tS_b {t : Int → Int} {L m p : Int} (h0 : 0 ≤ p) (h : p ≤ L) (hL : L ≤ 640) (hm : cB 640 m) : cB 640 (tS t L m p) := by
  have h1 := skp_b (t := t) h
  by_cases hg : tLg t L m p
  · rw [tS_g hg]; exact hm
  · rw [tS_n hg]; omega
theorem tN_s {t : Int → Int} {L m p : Int} (h : p ≤ L) (hk : ¬ tK t L m p = 0) (hk1 : ¬ tK t L m p = 1) : p < tN t L m p := by
  have h1 := skp_b (t := t) h
  by_cases hg : tLg t L m p
  · exact absurd (tK_g hg) hk1
  · rw [tK_n hg] at hk hk1
    rw [tN_n hg]
    by_cases hl : L ≤ skp t L p
    · rw [if_pos hl] at hk; exact absurd rfl hk
    · rw [if_neg hl]
      by_cases ha : isAn (t (skp t L p))
      · rw [if_pos ha]; have := rne_s (L := L) (by omega) ha; omega
      · rw [if_neg ha]; omega
theorem kdW_b (w : Int) : kdW w = 3 ∨ (100 ≤ kdW w ∧ kdW w ≤ 116) := by
  have key : ∀ (P : Int → Prop) (n : Nat) (s : Int), 0 ≤ s → fiF P n s = -1 ∨ (s ≤ fiF P n s ∧ fiF P n s < s + n) := by
    intro P n
    induction n with
    | zero => intro s _; exact Or.inl rfl
    | succ n ih =>
      intro s hs
      rw [fiF]
      split
      · right; omega
      · have := ih (s + 1) (by omega); omega
  have h := key (fun k => wc k = w) 17 0 (by decide)
  unfold kdW fi
  split
  · exact Or.inl rfl
  · rename_i q
    change _ = -1 ∨ _ at h
    have e : (17 : Int).toNat = 17 := rfl
    rw [e] at q ⊢
    omega
theorem kdR_b (t : Int → Int) (s e : Int) : 1 ≤ kdR t s e ∧ kdR t s e ≤ 3 ∨ 100 ≤ kdR t s e ∧ kdR t s e ≤ 116 := by
  unfold kdR
  have := kdW_b (vW t s (e - s))
  split
  · omega
  · split <;> omega
/-- kinds: 0 the end, 1 bad, 2 a number, 3 a name, signs, 100 .. 116 words -/
theorem tK_b {t : Int → Int} {L m p : Int} : 0 ≤ tK t L m p ∧ tK t L m p ≤ 3 ∨ 40 ≤ tK t L m p ∧ tK t L m p ≤ 62 ∨ 100 ≤ tK t L m p ∧ tK t L m p ≤ 116 := by
  by_cases hg : tLg t L m p
  · rw [tK_g hg]; omega
  · rw [tK_n hg]
    have := kdR_b t (skp t L p) (rne t L (skp t L p))
    split
    · omega
    · split
      · omega
      · split
        · omega
        · omega
theorem tK_R {t : Int → Int} {L m p : Int} (h : tK t L m p = 2 ∨ tK t L m p = 3 ∨ 100 ≤ tK t L m p) : tR t L m p ∧ tS t L m p = skp t L p ∧ tN t L m p = rne t L (skp t L p) ∧ tK t L m p = kdR t (skp t L p) (rne t L (skp t L p)) := by
  by_cases hg : tLg t L m p
  · rw [tK_g hg] at h; omega
  · have e := tK_n hg
    by_cases hl : L ≤ skp t L p
    · rw [if_pos hl] at e; omega
    · rw [if_neg hl] at e
      by_cases ha : isAn (t (skp t L p))
      · rw [if_pos ha] at e
        exact ⟨⟨hg, by omega, ha⟩, tS_n hg, by rw [tN_n hg, if_neg hl, if_pos ha], e⟩
      · rw [if_neg ha] at e
        split at e <;> omega
theorem run_c {t : Int → Int} {L p : Int} (h : p ≤ L) : cL t p (rne t L p - p) + cD t p (rne t L p - p) = rne t L p - p ∧ 0 ≤ cL t p (rne t L p - p) ∧ 0 ≤ cD t p (rne t L p - p) ∧ 0 ≤ vN t p (rne t L p - p) ∧ vN t p (rne t L p - p) < 10 ^ (rne t L p - p).toNat ∧ (cD t p (rne t L p - p) = 0 → p < rne t L p → 0 < vW t p (rne t L p - p)) := by
  have hb := rne_b (t := t) h
  have := an_cnt (t := t) (s := p) (rne t L p - p).toNat (fun j h1 h2 => rnF_an t (L - p).toNat p j h1 (by show j < rne t L p; omega))
  rw [Int.toNat_of_nonneg (show 0 ≤ rne t L p - p by omega)] at this
  exact ⟨this.1, this.2.1, this.2.2.1, this.2.2.2.1, this.2.2.2.2.1, fun h1 h2 => this.2.2.2.2.2 h1 (by omega)⟩
theorem pow10 {n : Nat} (h : n < 4) : (10 : Int) ^ n ≤ 1000 := by
  revert n
  decide
theorem nQ_b {t : Int → Int} {L m p : Int} (h : p ≤ L) (hk : tK t L m p = 2) : 0 ≤ nQ t L m p ∧ nQ t L m p ≤ 999 := by
  obtain ⟨hr, e1, e2, e3⟩ := tK_R (Or.inl hk)
  have hs := skp_b (t := t) h
  have hc := run_c (t := t) (p := skp t L p) hs.2
  have hb := rne_b (t := t) hs.2
  rw [hk] at e3
  unfold nQ
  rw [e1, e2]
  unfold kdR at e3
  split at e3
  · have := kdW_b (vW t (skp t L p) (rne t L (skp t L p) - skp t L p)); omega
  · split at e3
    · have := pow10 (n := (rne t L (skp t L p) - skp t L p).toNat) (by omega)
      omega
    · omega
theorem wQ_b {t : Int → Int} {L m p : Int} (h : p ≤ L) (hk : tK t L m p = 3 ∨ 100 ≤ tK t L m p) : 0 < wQ t L m p ∧ wQ t L m p < 10460353203 ∧ tK t L m p = kdW (wQ t L m p) := by
  obtain ⟨hr, e1, e2, e3⟩ := tK_R (Or.inr hk)
  have hs := skp_b (t := t) h
  have hc := run_c (t := t) (p := skp t L p) hs.2
  have hb := rne_b (t := t) hs.2
  unfold wQ
  rw [e3] at hk ⊢
  rw [e1, e2]
  unfold kdR at hk ⊢
  split at hk
  · rename_i q
    have h1 := pow27 (n := (rne t L (skp t L p) - skp t L p).toNat) (by omega)
    have h2 := vW_b (t := t) (s := skp t L p) (rne t L (skp t L p) - skp t L p).toNat
    rw [if_pos q]
    refine ⟨hc.2.2.2.2.2 q.1 (rne_s hr.2.1 hr.2.2), ?_, rfl⟩
    show vWN t _ _ < _
    omega
  · split at hk <;> omega
def rd (t : Int → Int) (L m : Int) (R : Int × Int) (σ : jS) : Prop := tpe σ = t ∧ σ 2 1 = L ∧ σ 1 1 = m ∧ cB 640 L ∧ cB 640 m ∧ cB 5 R.1 ∧ cB 640 R.2 ∧ σ 1 7 = R.1 ∧ (R.1 = 0 → R.2 ≤ L ∧ σ 1 2 = tN t L m R.2 ∧ σ 1 3 = tS t L m R.2 ∧ σ 1 4 = tK t L m R.2 ∧ (tR t L m R.2 → σ 1 5 = nQ t L m R.2 ∧ σ 1 6 = wQ t L m R.2)) ∧ (¬ R.1 = 0 → σ 1 8 = R.2)
theorem rd_mk {t : Int → Int} {L m q : Int} {σ : jS} (h1 : tpe σ = t) (h2 : σ 2 1 = L) (h3 : σ 1 1 = m) (hL : cB 640 L) (hm : cB 640 m) (hq : 0 ≤ q ∧ q ≤ L) (h7 : σ 1 7 = 0) (hn : σ 1 2 = tN t L m q) (hs : σ 1 3 = tS t L m q) (hk : σ 1 4 = tK t L m q) (hv : tR t L m q → σ 1 5 = nQ t L m q ∧ σ 1 6 = wQ t L m q) : rd t L m (0, q) σ :=
  ⟨h1, h2, h3, hL, hm, ⟨Int.le_refl 0, (by decide : (0 : Int) ≤ 5)⟩, ⟨hq.1, by show q ≤ 640; omega⟩, h7, fun _ => ⟨hq.2, hn, hs, hk, hv⟩, fun h => absurd rfl h⟩
theorem stR_0 {t : Int → Int} {L m q : Int} : stR t L m (0, q) = (0, tN t L m q) := if_pos rfl
theorem stR_n {t : Int → Int} {L m : Int} {R : Int × Int} (h : ¬ R.1 = 0) : stR t L m R = R := if_neg h
theorem stR_y {t : Int → Int} {L m : Int} {R : Int × Int} (h : R.1 = 0) : stR t L m R = (0, tN t L m R.2) := if_pos h
theorem flR_n {t : Int → Int} {L m f : Int} {R : Int × Int} (h : ¬ R.1 = 0) : flR t L m f R = R := if_neg h
theorem flR_y {t : Int → Int} {L m f : Int} {R : Int × Int} (h : R.1 = 0) : flR t L m f R = (f, tS t L m R.2) := if_pos h
theorem xpR_y {t : Int → Int} {L m k : Int} {R : Int × Int} (h : snR t L m k R) : xpR t L m k R = stR t L m R := if_pos h
theorem xpR_n {t : Int → Int} {L m k : Int} {R : Int × Int} (h : ¬ snR t L m k R) : xpR t L m k R = flR t L m 1 R := if_neg h
/-- other cells than the reader don't matter -/
theorem rd_t {t : Int → Int} {L m : Int} {R : Int × Int} {σ τ : jS} (h : rd t L m R σ) (h1 : τ 1 = σ 1) (h2 : τ 2 = σ 2) (h3 : τ 3 = σ 3) : rd t L m R τ := by
  unfold rd at h ⊢
  rw [h1, h2, show tpe τ = tpe σ by funext i; unfold tpe; rw [h3]]
  exact h
theorem same.put {X : List Nat} {σ τ : jS} (h : same X σ τ) {c : Nat} {j z : Int} (hc : c ∈ X) : same X σ (ju τ c j z) := fun c' hc' => by
  rw [ju_off _ _ _ _ _ (fun q => hc' (by rw [q]; exact hc))]; exact h c' hc'
theorem same.wide {X Y : List Nat} {σ τ : jS} (h : same X σ τ) (hX : ∀ c ∈ X, c ∈ Y) : same Y σ τ := fun c hc => h c (fun q => hc (hX c q))
theorem same.tr {X : List Nat} {σ τ ρ : jS} (h : same X σ τ) (g : same X τ ρ) : same X σ ρ := fun c hc => (g c hc).trans (h c hc)
theorem tpe_ju {σ : jS} {c : Nat} {j z : Int} (h : ¬ c = 3) : tpe (ju σ c j z) = tpe σ := by funext i; unfold tpe; rw [ju_ne (by omega)]
theorem rdS_same {X : List Int} {σ τ : jS} (h : rdS X σ τ) : same [1] σ τ := fun c hc => h.1 c (by simpa using hc)
theorem rd_fl {t : Int → Int} {L m f : Int} {R : Int × Int} {σ : jS} (h : rd t L m R σ) (hR : R.1 = 0) (hf : 1 ≤ f ∧ f ≤ 5) : rd t L m (flR t L m f R) (ju (ju σ 1 7 f) 1 8 (ju σ 1 7 f 1 3)) := by
  obtain ⟨q1, q2, q3, q4, q5, q6, q7, q8, q9, q10⟩ := h
  obtain ⟨p1, p2, p3, p4, p5⟩ := q9 hR
  rw [flR_y hR]
  refine ⟨by rw [tpe_ju (by decide), tpe_ju (by decide)]; exact q1, by rw [ju_ne (by decide), ju_ne (by decide)]; exact q2, by rw [ju_ne (by decide), ju_ne (by decide)]; exact q3, q4, q5, ⟨by show 0 ≤ f; omega, hf.2⟩, tS_b q7.1 p1 q4.2 q5, by rw [ju_ne (by decide), ju_at], fun z => ?_, fun _ => by rw [ju_at, ju_ne (by decide)]; exact p3⟩
  have : f = 0 := z
  omega
theorem ckR_n {t : Int → Int} {L m a b : Int} {R : Int × Int} (h : ¬ snR t L m 2 R) : ckR t L m a b R = flR t L m 1 R := if_neg h
theorem ckR_o {t : Int → Int} {L m a b : Int} {R : Int × Int} (h : snR t L m 2 R) (g : nQ t L m R.2 < a ∨ b < nQ t L m R.2) : ckR t L m a b R = flR t L m 2 R := by unfold ckR; rw [if_pos h, if_pos g]
theorem ckR_y {t : Int → Int} {L m a b : Int} {R : Int × Int} (h : snR t L m 2 R) (g : ¬ (nQ t L m R.2 < a ∨ b < nQ t L m R.2)) : ckR t L m a b R = R := by unfold ckR; rw [if_pos h, if_neg g]
theorem stR_f {t : Int → Int} {L m : Int} {R : Int × Int} : (stR t L m R).1 = R.1 := by
  by_cases h : R.1 = 0
  · rw [stR_y h]; exact h.symm
  · rw [stR_n h]
theorem flR_f {t : Int → Int} {L m f : Int} {R : Int × Int} (hf : ¬ f = 0) : ¬ (flR t L m f R).1 = 0 := by
  by_cases h : R.1 = 0
  · rw [flR_y h]; exact hf
  · rw [flR_n h]; exact h
/-- a number was read -/
theorem ckR_f {t : Int → Int} {L m a b : Int} {R : Int × Int} (h : (ckR t L m a b R).1 = 0) : snR t L m 2 R ∧ a ≤ nQ t L m R.2 ∧ nQ t L m R.2 ≤ b ∧ ckR t L m a b R = R := by
  by_cases h1 : snR t L m 2 R
  · by_cases h2 : nQ t L m R.2 < a ∨ b < nQ t L m R.2
    · rw [ckR_o h1 h2] at h; exact absurd h (flR_f (by decide))
    · exact ⟨h1, by omega, by omega, ckR_y h1 h2⟩
  · rw [ckR_n h1] at h; exact absurd h (flR_f (by decide))
theorem nmR_f {t : Int → Int} {L m a b : Int} {R : Int × Int} (h : (nmR t L m a b R).1 = 0) : snR t L m 2 R ∧ a ≤ nQ t L m R.2 ∧ nQ t L m R.2 ≤ b ∧ nmR t L m a b R = stR t L m R := by
  unfold nmR at h ⊢
  rw [stR_f] at h
  obtain ⟨h1, h2, h3, h4⟩ := ckR_f h
  exact ⟨h1, h2, h3, by rw [h4]⟩
theorem xpR_f {t : Int → Int} {L m k : Int} {R : Int × Int} (h : (xpR t L m k R).1 = 0) : snR t L m k R ∧ xpR t L m k R = stR t L m R := by
  by_cases h1 : snR t L m k R
  · exact ⟨h1, xpR_y h1⟩
  · rw [xpR_n h1] at h; exact absurd h (flR_f (by decide))
theorem rd_v {t : Int → Int} {L m : Int} {R : Int × Int} {σ : jS} (h : rd t L m R σ) (h2 : snR t L m 2 R) : σ 1 5 = nQ t L m R.2 ∧ cB 999 (nQ t L m R.2) := by
  have p := h.2.2.2.2.2.2.2.2.1 h2.1
  exact ⟨(p.2.2.2.2 (tK_R (Or.inl h2.2)).1).1, nQ_b p.1 h2.2⟩
theorem rd_w {t : Int → Int} {L m : Int} {R : Int × Int} {σ : jS} (h : rd t L m R σ) (h2 : snR t L m 3 R) : σ 1 6 = wQ t L m R.2 ∧ 0 < wQ t L m R.2 ∧ wQ t L m R.2 < 10460353203 := by
  have p := h.2.2.2.2.2.2.2.2.1 h2.1
  have w := wQ_b p.1 (Or.inl h2.2)
  exact ⟨(p.2.2.2.2 (tK_R (Or.inr (Or.inl h2.2))).1).2, w.1, w.2.1⟩
theorem rd_k {t : Int → Int} {L m : Int} {R : Int × Int} {σ : jS} (h : rd t L m R σ) (h0 : R.1 = 0) : σ 1 4 = tK t L m R.2 := (h.2.2.2.2.2.2.2.2.1 h0).2.2.2.1
theorem rd_e {t : Int → Int} {L m : Int} {R : Int × Int} {σ : jS} (h : rd t L m R σ) : σ 1 7 = R.1 ∧ cB 5 R.1 := ⟨h.2.2.2.2.2.2.2.1, h.2.2.2.2.2.1⟩
set_option maxRecDepth 100000 in
set_option maxHeartbeats 4000000 in
theorem c_X8_step0 {σ : jS} {t : Int → Int} {L m p : Int} (q1 : tpe σ = t) (q2 : σ 2 1 = L) (q3 : σ 1 1 = m) (q4 : cB 640 L) (q5 : cB 640 m) (q6 : 0 ≤ p ∧ p ≤ L) (q7 : σ 1 7 = 0) (p2 : σ 1 2 = p) : Jm 8 miX8_step [.ref 1] σ (fun r τ => r = none ∧ same [1] σ τ ∧ rd t L m ((0, p)) τ) := by
  have hi7 : iR (σ 1 7) := by rw [q7]; decide
  refine jm_ofF (Po := (fun r τ => r = none ∧ same [1] σ τ ∧ rd t L m ((0, p)) τ)) (plainFor_of_name (by decide)) (Nat.le_of_ble_eq_true rfl) (lv := [(0, _)]) rfl ?_
  refine r_aload_n (dc dkX8_step 0 rfl) rfl (np 1 rfl ?_)
  refine r_gI 7 (dc dkX8_step 1 rfl) flX8_40 fd_1_7 rfl (np 4 rfl ?_)
  refine r_if_eq (tgt := 8) (dc dkX8_step 2 rfl) rfl (by first | assumption | decide | omega) (fun h4 => ?_) (fun h4 => (np 7 rfl ?_))
  · skip
    have hT : okT σ := ⟨by omega, by omega, trivial⟩
    have hsk := skp_b (t := t) (p := p) q6.2
    refine r_aload_n (dc dkX8_step 4 rfl) rfl (np 9 rfl ?_)
    refine r_cV0 (y' := miX8_skipBlanks) (dc dkX8_step 5 rfl) mlX8_49 ceX8_skipBlanks ob_1 (Nat.le_of_ble_eq_true rfl) (Nat.le_of_ble_eq_true rfl) (c_X8_skipBlanks hT) (fun r τ hp => (np 12 rfl ?_))
    refine r_aload_n (dc dkX8_step 6 rfl) rfl (np 13 rfl ?_)
    refine r_aload_n (dc dkX8_step 7 rfl) rfl (np 14 rfl ?_)
    refine r_gI 2 (dc dkX8_step 8 rfl) flX8_24 fd_1_2 rfl (np 17 rfl ?_)
    refine r_pI 3 (dc dkX8_step 9 rfl) fpX8_27 fd_1_3 rfl (np 20 rfl ?_)
    generalize hρ : ju τ 1 3 (τ 1 2) = ρ
    obtain ⟨rfl, hs, h12⟩ := hp
    rw [q1, q2, p2] at h12
    have s2 : ρ 2 1 = L := by rw [← hρ, ju_ne (by decide), hs.1 2 (by decide)]; exact q2
    have s11 : ρ 1 1 = m := by rw [← hρ, ju_ne (by decide), hs.2 1 (by decide)]; exact q3
    have s12 : ρ 1 2 = skp t L p := by rw [← hρ, ju_ne (by decide)]; exact h12
    have s13 : ρ 1 3 = skp t L p := by rw [← hρ, ju_at]; exact h12
    have s17 : ρ 1 7 = 0 := by rw [← hρ, ju_ne (by decide), hs.2 7 (by decide)]; omega
    have st : tpe ρ = t := by rw [← q1, ← hρ, tpe_ju (by decide), rdS_tpe hs]
    have sF : same [1] σ ρ := by rw [← hρ]; exact (rdS_same hs).put (by decide)
    have hY : okY ρ 2 := by unfold okY; rw [s2]; exact ⟨by omega, by show L ≤ ((640 : Nat) : Int); omega⟩
    have tb := tpe_b ρ (ρ 1 2)
    rw [st] at tb
    clear hρ
    refine r_aload_n (dc dkX8_step 10 rfl) rfl (np 21 rfl ?_)
    refine r_getR (dc dkX8_step 11 rfl) flX8_14 fd_1_0 (np 24 rfl ?_)
    refine r_gI 1 (dc dkX8_step 12 rfl) flX8_52 fd_2_1 rfl (np 27 rfl ?_)
    refine r_aload_n (dc dkX8_step 13 rfl) rfl (np 28 rfl ?_)
    refine r_gI 1 (dc dkX8_step 14 rfl) flX8_20 fd_1_1 rfl (np 31 rfl ?_)
    refine r_icmp_le (tgt := 61) (dc dkX8_step 15 rfl) rfl (by first | assumption | decide | omega) (by first | assumption | decide | omega) (fun h31 => ?_) (fun h31 => (np 34 rfl ?_))
    · skip
      have hg : ¬ tLg t L m p := fun z => by have z1 := z.1; have z2 := z.2; omega
      refine r_aload_n (dc dkX8_step 29 rfl) rfl (np 62 rfl ?_)
      refine r_gI 2 (dc dkX8_step 30 rfl) flX8_24 fd_1_2 rfl (np 65 rfl ?_)
      refine r_aload_n (dc dkX8_step 31 rfl) rfl (np 66 rfl ?_)
      refine r_getR (dc dkX8_step 32 rfl) flX8_14 fd_1_0 (np 69 rfl ?_)
      refine r_gI 1 (dc dkX8_step 33 rfl) flX8_52 fd_2_1 rfl (np 72 rfl ?_)
      refine r_icmp_lt (tgt := 83) (dc dkX8_step 34 rfl) rfl (by first | assumption | decide | omega) (by first | assumption | decide | omega) (fun h72 => ?_) (fun h72 => (np 75 rfl ?_))
      · skip
        refine r_aload_n (dc dkX8_step 39 rfl) rfl (np 84 rfl ?_)
        refine r_getR (dc dkX8_step 40 rfl) flX8_14 fd_1_0 (np 87 rfl ?_)
        refine r_aload_n (dc dkX8_step 41 rfl) rfl (np 88 rfl ?_)
        refine r_gI 2 (dc dkX8_step 42 rfl) flX8_24 fd_1_2 rfl (np 91 rfl ?_)
        refine r_pV1 (y' := miX2_at) (dc dkX8_step 43 rfl) mlX8_55 ceX2_at ob_2 (Nat.le_of_ble_eq_true rfl) (Nat.le_of_ble_eq_true rfl) (c_tape_at hY (by omega)) (np 94 rfl ?_)
        refine r_eqI (t (ρ 1 2)) (by rw [if_pos (by omega), st]) ?_
        refine r_pS1 (y' := miX8_isLetter) (dc dkX8_step 44 rfl) mlX8_59 seX8_isLetter (Nat.le_of_ble_eq_true rfl) (Nat.le_of_ble_eq_true rfl) (c_X8_isLetter (by omega)) (np 97 rfl ?_)
        refine r_bn (tgt := 117) (dc dkX8_step 45 rfl) rfl (fun h97 => ?_) (fun h97 => (np 100 rfl ?_))
        · skip
          have hA : isAn (t (skp t L p)) := by rw [← s12]; omega
          refine r_aload_n (dc dkX8_step 53 rfl) rfl (np 118 rfl ?_)
          refine r_cV0 (y' := miX8_readRun) (dc dkX8_step 54 rfl) mlX8_66 ceX8_readRun ob_1 (Nat.le_of_ble_eq_true rfl) (Nat.le_of_ble_eq_true rfl) (c_X8_readRun (⟨by omega, by omega, trivial⟩) (by omega)) (fun r τ2 hp2 => (np 121 rfl ?_))
          obtain ⟨rfl, hs2, g1, g2, g3, g4⟩ := hp2
          rw [st, s2, s12] at g1 g2 g3 g4
          refine r_goto (tgt := 170) (dc dkX8_step 55 rfl) rfl ?_
          exact r_vret (dc dkX8_step 78 rfl) rfl (by first | exact ⟨rfl, (sF.put (by decide)).put (by decide), rd_mk (by rw [tpe_ju (by decide), tpe_ju (by decide)]; exact st) (by rw [ju_ne (by decide), ju_ne (by decide)]; exact s2) (by rw [ju_ne (by decide), ju_ne (by decide)]; exact s11) q4 q5 q6 (by rw [ju_ne (by decide), ju_ne (by decide)]; exact s17) (by rw [ju_ne (by decide), ju_ne (by decide), tN_g hg]; exact s12) (by rw [ju_ne (by decide), ju_at, tS_g hg]; exact s11) (by rw [ju_at, tK_g hg]) (fun z => absurd hg z.1)⟩ | exact ⟨rfl, sF.put (by decide), rd_mk (by rw [tpe_ju (by decide)]; exact st) (by rw [ju_ne (by decide)]; exact s2) (by rw [ju_ne (by decide)]; exact s11) q4 q5 q6 (by rw [ju_ne (by decide)]; exact s17) (by rw [ju_ne (by decide), tN_n hg, if_pos (by omega)]; exact s12) (by rw [ju_ne (by decide), tS_n hg]; exact s13) (by rw [ju_at, tK_n hg, if_pos (by omega)]) (fun z => by have := z.2.1; omega)⟩ | exact ⟨rfl, sF.tr (rdS_same hs2), rd_mk (by rw [rdS_tpe hs2]; exact st) (by rw [hs2.1 2 (by decide)]; exact s2) (by rw [hs2.2 1 (by decide)]; exact s11) q4 q5 q6 (by rw [hs2.2 7 (by decide)]; exact s17) (by rw [g1, tN_n hg, if_neg (by omega), if_pos hA]) (by rw [hs2.2 3 (by decide), tS_n hg]; exact s13) (by rw [g2, tK_n hg, if_neg (by omega), if_pos hA]) (fun z => by rw [nQ, wQ, g3, g4, tN_n hg, tS_n hg, if_neg (by omega), if_pos hA]; exact ⟨rfl, rfl⟩)⟩ | exact ⟨rfl, (sF.put (by decide)).put (by decide), rd_mk (by rw [tpe_ju (by decide), tpe_ju (by decide)]; exact st) (by rw [ju_ne (by decide), ju_ne (by decide)]; exact s2) (by rw [ju_ne (by decide), ju_ne (by decide)]; exact s11) q4 q5 q6 (by rw [ju_ne (by decide), ju_ne (by decide)]; exact s17) (by rw [ju_at, ju_ne (by decide), tN_n hg, if_neg (by omega), if_neg (by rw [← s12]; omega), s12]) (by rw [ju_ne (by decide), ju_ne (by decide), tS_n hg]; exact s13) (by rw [ju_ne (by decide), ju_at, tK_n hg, if_neg (by omega), if_neg (by rw [← s12]; omega), ← s12]; first | rw [if_pos (by omega)] | rw [if_neg (by omega)]) (fun z => by have := z.2.2; rw [← s12] at this; omega)⟩)
        refine r_aload_n (dc dkX8_step 46 rfl) rfl (np 101 rfl ?_)
        refine r_getR (dc dkX8_step 47 rfl) flX8_14 fd_1_0 (np 104 rfl ?_)
        refine r_aload_n (dc dkX8_step 48 rfl) rfl (np 105 rfl ?_)
        refine r_gI 2 (dc dkX8_step 49 rfl) flX8_24 fd_1_2 rfl (np 108 rfl ?_)
        refine r_pV1 (y' := miX2_at) (dc dkX8_step 50 rfl) mlX8_55 ceX2_at ob_2 (Nat.le_of_ble_eq_true rfl) (Nat.le_of_ble_eq_true rfl) (c_tape_at hY (by omega)) (np 111 rfl ?_)
        refine r_eqI (t (ρ 1 2)) (by rw [if_pos (by omega), st]) ?_
        refine r_pS1 (y' := miX8_isDigit) (dc dkX8_step 51 rfl) mlX8_63 seX8_isDigit (Nat.le_of_ble_eq_true rfl) (Nat.le_of_ble_eq_true rfl) (c_X8_isDigit (by omega)) (np 114 rfl ?_)
        refine r_bz (tgt := 124) (dc dkX8_step 52 rfl) rfl (fun h114 => ?_) (fun h114 => (np 117 rfl ?_))
        · skip
          refine r_aload_n (dc dkX8_step 56 rfl) rfl (np 125 rfl ?_)
          refine r_aload_n (dc dkX8_step 57 rfl) rfl (np 126 rfl ?_)
          refine r_getR (dc dkX8_step 58 rfl) flX8_14 fd_1_0 (np 129 rfl ?_)
          refine r_aload_n (dc dkX8_step 59 rfl) rfl (np 130 rfl ?_)
          refine r_gI 2 (dc dkX8_step 60 rfl) flX8_24 fd_1_2 rfl (np 133 rfl ?_)
          refine r_pV1 (y' := miX2_at) (dc dkX8_step 61 rfl) mlX8_55 ceX2_at ob_2 (Nat.le_of_ble_eq_true rfl) (Nat.le_of_ble_eq_true rfl) (c_tape_at hY (by omega)) (np 136 rfl ?_)
          refine r_eqI (t (ρ 1 2)) (by rw [if_pos (by omega), st]) ?_
          refine r_pS1 (y' := miX8_isSign) (dc dkX8_step 62 rfl) mlX8_69 seX8_isSign (Nat.le_of_ble_eq_true rfl) (Nat.le_of_ble_eq_true rfl) (c_X8_isSign (by omega)) (np 139 rfl ?_)
          refine r_bz (tgt := 156) (dc dkX8_step 63 rfl) rfl (fun h139 => ?_) (fun h139 => (np 142 rfl ?_))
          · skip
            refine r_iconst (dc dkX8_step 70 rfl) (np 157 rfl ?_)
            refine r_pI 4 (dc dkX8_step 71 rfl) fpX8_30 fd_1_4 rfl (np 160 rfl ?_)
            refine r_aload_n (dc dkX8_step 72 rfl) rfl (np 161 rfl ?_)
            refine r_dup (dc dkX8_step 73 rfl) rfl (np 162 rfl ?_)
            refine r_gI 2 (dc dkX8_step 74 rfl) flX8_24 fd_1_2 rfl (np 165 rfl ?_)
            refine r_iconst (dc dkX8_step 75 rfl) (np 166 rfl ?_)
            refine r_iadd (dc dkX8_step 76 rfl) (np 167 rfl ?_)
            refine r_pI 2 (dc dkX8_step 77 rfl) fpX8_24 fd_1_2 rfl (np 170 rfl ?_)
            exact r_vret (dc dkX8_step 78 rfl) rfl (by first | exact ⟨rfl, (sF.put (by decide)).put (by decide), rd_mk (by rw [tpe_ju (by decide), tpe_ju (by decide)]; exact st) (by rw [ju_ne (by decide), ju_ne (by decide)]; exact s2) (by rw [ju_ne (by decide), ju_ne (by decide)]; exact s11) q4 q5 q6 (by rw [ju_ne (by decide), ju_ne (by decide)]; exact s17) (by rw [ju_ne (by decide), ju_ne (by decide), tN_g hg]; exact s12) (by rw [ju_ne (by decide), ju_at, tS_g hg]; exact s11) (by rw [ju_at, tK_g hg]) (fun z => absurd hg z.1)⟩ | exact ⟨rfl, sF.put (by decide), rd_mk (by rw [tpe_ju (by decide)]; exact st) (by rw [ju_ne (by decide)]; exact s2) (by rw [ju_ne (by decide)]; exact s11) q4 q5 q6 (by rw [ju_ne (by decide)]; exact s17) (by rw [ju_ne (by decide), tN_n hg, if_pos (by omega)]; exact s12) (by rw [ju_ne (by decide), tS_n hg]; exact s13) (by rw [ju_at, tK_n hg, if_pos (by omega)]) (fun z => by have := z.2.1; omega)⟩ | exact ⟨rfl, sF.tr (rdS_same hs2), rd_mk (by rw [rdS_tpe hs2]; exact st) (by rw [hs2.1 2 (by decide)]; exact s2) (by rw [hs2.2 1 (by decide)]; exact s11) q4 q5 q6 (by rw [hs2.2 7 (by decide)]; exact s17) (by rw [g1, tN_n hg, if_neg (by omega), if_pos hA]) (by rw [hs2.2 3 (by decide), tS_n hg]; exact s13) (by rw [g2, tK_n hg, if_neg (by omega), if_pos hA]) (fun z => by rw [nQ, wQ, g3, g4, tN_n hg, tS_n hg, if_neg (by omega), if_pos hA]; exact ⟨rfl, rfl⟩)⟩ | exact ⟨rfl, (sF.put (by decide)).put (by decide), rd_mk (by rw [tpe_ju (by decide), tpe_ju (by decide)]; exact st) (by rw [ju_ne (by decide), ju_ne (by decide)]; exact s2) (by rw [ju_ne (by decide), ju_ne (by decide)]; exact s11) q4 q5 q6 (by rw [ju_ne (by decide), ju_ne (by decide)]; exact s17) (by rw [ju_at, ju_ne (by decide), tN_n hg, if_neg (by omega), if_neg (by rw [← s12]; omega), s12]) (by rw [ju_ne (by decide), ju_ne (by decide), tS_n hg]; exact s13) (by rw [ju_ne (by decide), ju_at, tK_n hg, if_neg (by omega), if_neg (by rw [← s12]; omega), ← s12]; first | rw [if_pos (by omega)] | rw [if_neg (by omega)]) (fun z => by have := z.2.2; rw [← s12] at this; omega)⟩)
          refine r_aload_n (dc dkX8_step 64 rfl) rfl (np 143 rfl ?_)
          refine r_getR (dc dkX8_step 65 rfl) flX8_14 fd_1_0 (np 146 rfl ?_)
          refine r_aload_n (dc dkX8_step 66 rfl) rfl (np 147 rfl ?_)
          refine r_gI 2 (dc dkX8_step 67 rfl) flX8_24 fd_1_2 rfl (np 150 rfl ?_)
          refine r_pV1 (y' := miX2_at) (dc dkX8_step 68 rfl) mlX8_55 ceX2_at ob_2 (Nat.le_of_ble_eq_true rfl) (Nat.le_of_ble_eq_true rfl) (c_tape_at hY (by omega)) (np 153 rfl ?_)
          refine r_eqI (t (ρ 1 2)) (by rw [if_pos (by omega), st]) ?_
          refine r_goto (tgt := 157) (dc dkX8_step 69 rfl) rfl ?_
          refine r_pI 4 (dc dkX8_step 71 rfl) fpX8_30 fd_1_4 rfl (np 160 rfl ?_)
          refine r_aload_n (dc dkX8_step 72 rfl) rfl (np 161 rfl ?_)
          refine r_dup (dc dkX8_step 73 rfl) rfl (np 162 rfl ?_)
          refine r_gI 2 (dc dkX8_step 74 rfl) flX8_24 fd_1_2 rfl (np 165 rfl ?_)
          refine r_iconst (dc dkX8_step 75 rfl) (np 166 rfl ?_)
          refine r_iadd (dc dkX8_step 76 rfl) (np 167 rfl ?_)
          refine r_pI 2 (dc dkX8_step 77 rfl) fpX8_24 fd_1_2 rfl (np 170 rfl ?_)
          exact r_vret (dc dkX8_step 78 rfl) rfl (by first | exact ⟨rfl, (sF.put (by decide)).put (by decide), rd_mk (by rw [tpe_ju (by decide), tpe_ju (by decide)]; exact st) (by rw [ju_ne (by decide), ju_ne (by decide)]; exact s2) (by rw [ju_ne (by decide), ju_ne (by decide)]; exact s11) q4 q5 q6 (by rw [ju_ne (by decide), ju_ne (by decide)]; exact s17) (by rw [ju_ne (by decide), ju_ne (by decide), tN_g hg]; exact s12) (by rw [ju_ne (by decide), ju_at, tS_g hg]; exact s11) (by rw [ju_at, tK_g hg]) (fun z => absurd hg z.1)⟩ | exact ⟨rfl, sF.put (by decide), rd_mk (by rw [tpe_ju (by decide)]; exact st) (by rw [ju_ne (by decide)]; exact s2) (by rw [ju_ne (by decide)]; exact s11) q4 q5 q6 (by rw [ju_ne (by decide)]; exact s17) (by rw [ju_ne (by decide), tN_n hg, if_pos (by omega)]; exact s12) (by rw [ju_ne (by decide), tS_n hg]; exact s13) (by rw [ju_at, tK_n hg, if_pos (by omega)]) (fun z => by have := z.2.1; omega)⟩ | exact ⟨rfl, sF.tr (rdS_same hs2), rd_mk (by rw [rdS_tpe hs2]; exact st) (by rw [hs2.1 2 (by decide)]; exact s2) (by rw [hs2.2 1 (by decide)]; exact s11) q4 q5 q6 (by rw [hs2.2 7 (by decide)]; exact s17) (by rw [g1, tN_n hg, if_neg (by omega), if_pos hA]) (by rw [hs2.2 3 (by decide), tS_n hg]; exact s13) (by rw [g2, tK_n hg, if_neg (by omega), if_pos hA]) (fun z => by rw [nQ, wQ, g3, g4, tN_n hg, tS_n hg, if_neg (by omega), if_pos hA]; exact ⟨rfl, rfl⟩)⟩ | exact ⟨rfl, (sF.put (by decide)).put (by decide), rd_mk (by rw [tpe_ju (by decide), tpe_ju (by decide)]; exact st) (by rw [ju_ne (by decide), ju_ne (by decide)]; exact s2) (by rw [ju_ne (by decide), ju_ne (by decide)]; exact s11) q4 q5 q6 (by rw [ju_ne (by decide), ju_ne (by decide)]; exact s17) (by rw [ju_at, ju_ne (by decide), tN_n hg, if_neg (by omega), if_neg (by rw [← s12]; omega), s12]) (by rw [ju_ne (by decide), ju_ne (by decide), tS_n hg]; exact s13) (by rw [ju_ne (by decide), ju_at, tK_n hg, if_neg (by omega), if_neg (by rw [← s12]; omega), ← s12]; first | rw [if_pos (by omega)] | rw [if_neg (by omega)]) (fun z => by have := z.2.2; rw [← s12] at this; omega)⟩)
        have hA : isAn (t (skp t L p)) := by rw [← s12]; omega
        refine r_aload_n (dc dkX8_step 53 rfl) rfl (np 118 rfl ?_)
        refine r_cV0 (y' := miX8_readRun) (dc dkX8_step 54 rfl) mlX8_66 ceX8_readRun ob_1 (Nat.le_of_ble_eq_true rfl) (Nat.le_of_ble_eq_true rfl) (c_X8_readRun (⟨by omega, by omega, trivial⟩) (by omega)) (fun r τ2 hp2 => (np 121 rfl ?_))
        obtain ⟨rfl, hs2, g1, g2, g3, g4⟩ := hp2
        rw [st, s2, s12] at g1 g2 g3 g4
        refine r_goto (tgt := 170) (dc dkX8_step 55 rfl) rfl ?_
        exact r_vret (dc dkX8_step 78 rfl) rfl (by first | exact ⟨rfl, (sF.put (by decide)).put (by decide), rd_mk (by rw [tpe_ju (by decide), tpe_ju (by decide)]; exact st) (by rw [ju_ne (by decide), ju_ne (by decide)]; exact s2) (by rw [ju_ne (by decide), ju_ne (by decide)]; exact s11) q4 q5 q6 (by rw [ju_ne (by decide), ju_ne (by decide)]; exact s17) (by rw [ju_ne (by decide), ju_ne (by decide), tN_g hg]; exact s12) (by rw [ju_ne (by decide), ju_at, tS_g hg]; exact s11) (by rw [ju_at, tK_g hg]) (fun z => absurd hg z.1)⟩ | exact ⟨rfl, sF.put (by decide), rd_mk (by rw [tpe_ju (by decide)]; exact st) (by rw [ju_ne (by decide)]; exact s2) (by rw [ju_ne (by decide)]; exact s11) q4 q5 q6 (by rw [ju_ne (by decide)]; exact s17) (by rw [ju_ne (by decide), tN_n hg, if_pos (by omega)]; exact s12) (by rw [ju_ne (by decide), tS_n hg]; exact s13) (by rw [ju_at, tK_n hg, if_pos (by omega)]) (fun z => by have := z.2.1; omega)⟩ | exact ⟨rfl, sF.tr (rdS_same hs2), rd_mk (by rw [rdS_tpe hs2]; exact st) (by rw [hs2.1 2 (by decide)]; exact s2) (by rw [hs2.2 1 (by decide)]; exact s11) q4 q5 q6 (by rw [hs2.2 7 (by decide)]; exact s17) (by rw [g1, tN_n hg, if_neg (by omega), if_pos hA]) (by rw [hs2.2 3 (by decide), tS_n hg]; exact s13) (by rw [g2, tK_n hg, if_neg (by omega), if_pos hA]) (fun z => by rw [nQ, wQ, g3, g4, tN_n hg, tS_n hg, if_neg (by omega), if_pos hA]; exact ⟨rfl, rfl⟩)⟩ | exact ⟨rfl, (sF.put (by decide)).put (by decide), rd_mk (by rw [tpe_ju (by decide), tpe_ju (by decide)]; exact st) (by rw [ju_ne (by decide), ju_ne (by decide)]; exact s2) (by rw [ju_ne (by decide), ju_ne (by decide)]; exact s11) q4 q5 q6 (by rw [ju_ne (by decide), ju_ne (by decide)]; exact s17) (by rw [ju_at, ju_ne (by decide), tN_n hg, if_neg (by omega), if_neg (by rw [← s12]; omega), s12]) (by rw [ju_ne (by decide), ju_ne (by decide), tS_n hg]; exact s13) (by rw [ju_ne (by decide), ju_at, tK_n hg, if_neg (by omega), if_neg (by rw [← s12]; omega), ← s12]; first | rw [if_pos (by omega)] | rw [if_neg (by omega)]) (fun z => by have := z.2.2; rw [← s12] at this; omega)⟩)
      refine r_aload_n (dc dkX8_step 35 rfl) rfl (np 76 rfl ?_)
      refine r_iconst (dc dkX8_step 36 rfl) (np 77 rfl ?_)
      refine r_pI 4 (dc dkX8_step 37 rfl) fpX8_30 fd_1_4 rfl (np 80 rfl ?_)
      refine r_goto (tgt := 170) (dc dkX8_step 38 rfl) rfl ?_
      exact r_vret (dc dkX8_step 78 rfl) rfl (by first | exact ⟨rfl, (sF.put (by decide)).put (by decide), rd_mk (by rw [tpe_ju (by decide), tpe_ju (by decide)]; exact st) (by rw [ju_ne (by decide), ju_ne (by decide)]; exact s2) (by rw [ju_ne (by decide), ju_ne (by decide)]; exact s11) q4 q5 q6 (by rw [ju_ne (by decide), ju_ne (by decide)]; exact s17) (by rw [ju_ne (by decide), ju_ne (by decide), tN_g hg]; exact s12) (by rw [ju_ne (by decide), ju_at, tS_g hg]; exact s11) (by rw [ju_at, tK_g hg]) (fun z => absurd hg z.1)⟩ | exact ⟨rfl, sF.put (by decide), rd_mk (by rw [tpe_ju (by decide)]; exact st) (by rw [ju_ne (by decide)]; exact s2) (by rw [ju_ne (by decide)]; exact s11) q4 q5 q6 (by rw [ju_ne (by decide)]; exact s17) (by rw [ju_ne (by decide), tN_n hg, if_pos (by omega)]; exact s12) (by rw [ju_ne (by decide), tS_n hg]; exact s13) (by rw [ju_at, tK_n hg, if_pos (by omega)]) (fun z => by have := z.2.1; omega)⟩ | exact ⟨rfl, sF.tr (rdS_same hs2), rd_mk (by rw [rdS_tpe hs2]; exact st) (by rw [hs2.1 2 (by decide)]; exact s2) (by rw [hs2.2 1 (by decide)]; exact s11) q4 q5 q6 (by rw [hs2.2 7 (by decide)]; exact s17) (by rw [g1, tN_n hg, if_neg (by omega), if_pos hA]) (by rw [hs2.2 3 (by decide), tS_n hg]; exact s13) (by rw [g2, tK_n hg, if_neg (by omega), if_pos hA]) (fun z => by rw [nQ, wQ, g3, g4, tN_n hg, tS_n hg, if_neg (by omega), if_pos hA]; exact ⟨rfl, rfl⟩)⟩ | exact ⟨rfl, (sF.put (by decide)).put (by decide), rd_mk (by rw [tpe_ju (by decide), tpe_ju (by decide)]; exact st) (by rw [ju_ne (by decide), ju_ne (by decide)]; exact s2) (by rw [ju_ne (by decide), ju_ne (by decide)]; exact s11) q4 q5 q6 (by rw [ju_ne (by decide), ju_ne (by decide)]; exact s17) (by rw [ju_at, ju_ne (by decide), tN_n hg, if_neg (by omega), if_neg (by rw [← s12]; omega), s12]) (by rw [ju_ne (by decide), ju_ne (by decide), tS_n hg]; exact s13) (by rw [ju_ne (by decide), ju_at, tK_n hg, if_neg (by omega), if_neg (by rw [← s12]; omega), ← s12]; first | rw [if_pos (by omega)] | rw [if_neg (by omega)]) (fun z => by have := z.2.2; rw [← s12] at this; omega)⟩)
    refine r_aload_n (dc dkX8_step 16 rfl) rfl (np 35 rfl ?_)
    refine r_gI 2 (dc dkX8_step 17 rfl) flX8_24 fd_1_2 rfl (np 38 rfl ?_)
    refine r_aload_n (dc dkX8_step 18 rfl) rfl (np 39 rfl ?_)
    refine r_gI 1 (dc dkX8_step 19 rfl) flX8_20 fd_1_1 rfl (np 42 rfl ?_)
    refine r_icmp_lt (tgt := 61) (dc dkX8_step 20 rfl) rfl (by first | assumption | decide | omega) (by first | assumption | decide | omega) (fun h42 => ?_) (fun h42 => (np 45 rfl ?_))
    · skip
      have hg : ¬ tLg t L m p := fun z => by have z1 := z.1; have z2 := z.2; omega
      refine r_aload_n (dc dkX8_step 29 rfl) rfl (np 62 rfl ?_)
      refine r_gI 2 (dc dkX8_step 30 rfl) flX8_24 fd_1_2 rfl (np 65 rfl ?_)
      refine r_aload_n (dc dkX8_step 31 rfl) rfl (np 66 rfl ?_)
      refine r_getR (dc dkX8_step 32 rfl) flX8_14 fd_1_0 (np 69 rfl ?_)
      refine r_gI 1 (dc dkX8_step 33 rfl) flX8_52 fd_2_1 rfl (np 72 rfl ?_)
      refine r_icmp_lt (tgt := 83) (dc dkX8_step 34 rfl) rfl (by first | assumption | decide | omega) (by first | assumption | decide | omega) (fun h72 => ?_) (fun h72 => (np 75 rfl ?_))
      · skip
        refine r_aload_n (dc dkX8_step 39 rfl) rfl (np 84 rfl ?_)
        refine r_getR (dc dkX8_step 40 rfl) flX8_14 fd_1_0 (np 87 rfl ?_)
        refine r_aload_n (dc dkX8_step 41 rfl) rfl (np 88 rfl ?_)
        refine r_gI 2 (dc dkX8_step 42 rfl) flX8_24 fd_1_2 rfl (np 91 rfl ?_)
        refine r_pV1 (y' := miX2_at) (dc dkX8_step 43 rfl) mlX8_55 ceX2_at ob_2 (Nat.le_of_ble_eq_true rfl) (Nat.le_of_ble_eq_true rfl) (c_tape_at hY (by omega)) (np 94 rfl ?_)
        refine r_eqI (t (ρ 1 2)) (by rw [if_pos (by omega), st]) ?_
        refine r_pS1 (y' := miX8_isLetter) (dc dkX8_step 44 rfl) mlX8_59 seX8_isLetter (Nat.le_of_ble_eq_true rfl) (Nat.le_of_ble_eq_true rfl) (c_X8_isLetter (by omega)) (np 97 rfl ?_)
        refine r_bn (tgt := 117) (dc dkX8_step 45 rfl) rfl (fun h97 => ?_) (fun h97 => (np 100 rfl ?_))
        · skip
          have hA : isAn (t (skp t L p)) := by rw [← s12]; omega
          refine r_aload_n (dc dkX8_step 53 rfl) rfl (np 118 rfl ?_)
          refine r_cV0 (y' := miX8_readRun) (dc dkX8_step 54 rfl) mlX8_66 ceX8_readRun ob_1 (Nat.le_of_ble_eq_true rfl) (Nat.le_of_ble_eq_true rfl) (c_X8_readRun (⟨by omega, by omega, trivial⟩) (by omega)) (fun r τ2 hp2 => (np 121 rfl ?_))
          obtain ⟨rfl, hs2, g1, g2, g3, g4⟩ := hp2
          rw [st, s2, s12] at g1 g2 g3 g4
          refine r_goto (tgt := 170) (dc dkX8_step 55 rfl) rfl ?_
          exact r_vret (dc dkX8_step 78 rfl) rfl (by first | exact ⟨rfl, (sF.put (by decide)).put (by decide), rd_mk (by rw [tpe_ju (by decide), tpe_ju (by decide)]; exact st) (by rw [ju_ne (by decide), ju_ne (by decide)]; exact s2) (by rw [ju_ne (by decide), ju_ne (by decide)]; exact s11) q4 q5 q6 (by rw [ju_ne (by decide), ju_ne (by decide)]; exact s17) (by rw [ju_ne (by decide), ju_ne (by decide), tN_g hg]; exact s12) (by rw [ju_ne (by decide), ju_at, tS_g hg]; exact s11) (by rw [ju_at, tK_g hg]) (fun z => absurd hg z.1)⟩ | exact ⟨rfl, sF.put (by decide), rd_mk (by rw [tpe_ju (by decide)]; exact st) (by rw [ju_ne (by decide)]; exact s2) (by rw [ju_ne (by decide)]; exact s11) q4 q5 q6 (by rw [ju_ne (by decide)]; exact s17) (by rw [ju_ne (by decide), tN_n hg, if_pos (by omega)]; exact s12) (by rw [ju_ne (by decide), tS_n hg]; exact s13) (by rw [ju_at, tK_n hg, if_pos (by omega)]) (fun z => by have := z.2.1; omega)⟩ | exact ⟨rfl, sF.tr (rdS_same hs2), rd_mk (by rw [rdS_tpe hs2]; exact st) (by rw [hs2.1 2 (by decide)]; exact s2) (by rw [hs2.2 1 (by decide)]; exact s11) q4 q5 q6 (by rw [hs2.2 7 (by decide)]; exact s17) (by rw [g1, tN_n hg, if_neg (by omega), if_pos hA]) (by rw [hs2.2 3 (by decide), tS_n hg]; exact s13) (by rw [g2, tK_n hg, if_neg (by omega), if_pos hA]) (fun z => by rw [nQ, wQ, g3, g4, tN_n hg, tS_n hg, if_neg (by omega), if_pos hA]; exact ⟨rfl, rfl⟩)⟩ | exact ⟨rfl, (sF.put (by decide)).put (by decide), rd_mk (by rw [tpe_ju (by decide), tpe_ju (by decide)]; exact st) (by rw [ju_ne (by decide), ju_ne (by decide)]; exact s2) (by rw [ju_ne (by decide), ju_ne (by decide)]; exact s11) q4 q5 q6 (by rw [ju_ne (by decide), ju_ne (by decide)]; exact s17) (by rw [ju_at, ju_ne (by decide), tN_n hg, if_neg (by omega), if_neg (by rw [← s12]; omega), s12]) (by rw [ju_ne (by decide), ju_ne (by decide), tS_n hg]; exact s13) (by rw [ju_ne (by decide), ju_at, tK_n hg, if_neg (by omega), if_neg (by rw [← s12]; omega), ← s12]; first | rw [if_pos (by omega)] | rw [if_neg (by omega)]) (fun z => by have := z.2.2; rw [← s12] at this; omega)⟩)
        refine r_aload_n (dc dkX8_step 46 rfl) rfl (np 101 rfl ?_)
        refine r_getR (dc dkX8_step 47 rfl) flX8_14 fd_1_0 (np 104 rfl ?_)
        refine r_aload_n (dc dkX8_step 48 rfl) rfl (np 105 rfl ?_)
        refine r_gI 2 (dc dkX8_step 49 rfl) flX8_24 fd_1_2 rfl (np 108 rfl ?_)
        refine r_pV1 (y' := miX2_at) (dc dkX8_step 50 rfl) mlX8_55 ceX2_at ob_2 (Nat.le_of_ble_eq_true rfl) (Nat.le_of_ble_eq_true rfl) (c_tape_at hY (by omega)) (np 111 rfl ?_)
        refine r_eqI (t (ρ 1 2)) (by rw [if_pos (by omega), st]) ?_
        refine r_pS1 (y' := miX8_isDigit) (dc dkX8_step 51 rfl) mlX8_63 seX8_isDigit (Nat.le_of_ble_eq_true rfl) (Nat.le_of_ble_eq_true rfl) (c_X8_isDigit (by omega)) (np 114 rfl ?_)
        refine r_bz (tgt := 124) (dc dkX8_step 52 rfl) rfl (fun h114 => ?_) (fun h114 => (np 117 rfl ?_))
        · skip
          refine r_aload_n (dc dkX8_step 56 rfl) rfl (np 125 rfl ?_)
          refine r_aload_n (dc dkX8_step 57 rfl) rfl (np 126 rfl ?_)
          refine r_getR (dc dkX8_step 58 rfl) flX8_14 fd_1_0 (np 129 rfl ?_)
          refine r_aload_n (dc dkX8_step 59 rfl) rfl (np 130 rfl ?_)
          refine r_gI 2 (dc dkX8_step 60 rfl) flX8_24 fd_1_2 rfl (np 133 rfl ?_)
          refine r_pV1 (y' := miX2_at) (dc dkX8_step 61 rfl) mlX8_55 ceX2_at ob_2 (Nat.le_of_ble_eq_true rfl) (Nat.le_of_ble_eq_true rfl) (c_tape_at hY (by omega)) (np 136 rfl ?_)
          refine r_eqI (t (ρ 1 2)) (by rw [if_pos (by omega), st]) ?_
          refine r_pS1 (y' := miX8_isSign) (dc dkX8_step 62 rfl) mlX8_69 seX8_isSign (Nat.le_of_ble_eq_true rfl) (Nat.le_of_ble_eq_true rfl) (c_X8_isSign (by omega)) (np 139 rfl ?_)
          refine r_bz (tgt := 156) (dc dkX8_step 63 rfl) rfl (fun h139 => ?_) (fun h139 => (np 142 rfl ?_))
          · skip
            refine r_iconst (dc dkX8_step 70 rfl) (np 157 rfl ?_)
            refine r_pI 4 (dc dkX8_step 71 rfl) fpX8_30 fd_1_4 rfl (np 160 rfl ?_)
            refine r_aload_n (dc dkX8_step 72 rfl) rfl (np 161 rfl ?_)
            refine r_dup (dc dkX8_step 73 rfl) rfl (np 162 rfl ?_)
            refine r_gI 2 (dc dkX8_step 74 rfl) flX8_24 fd_1_2 rfl (np 165 rfl ?_)
            refine r_iconst (dc dkX8_step 75 rfl) (np 166 rfl ?_)
            refine r_iadd (dc dkX8_step 76 rfl) (np 167 rfl ?_)
            refine r_pI 2 (dc dkX8_step 77 rfl) fpX8_24 fd_1_2 rfl (np 170 rfl ?_)
            exact r_vret (dc dkX8_step 78 rfl) rfl (by first | exact ⟨rfl, (sF.put (by decide)).put (by decide), rd_mk (by rw [tpe_ju (by decide), tpe_ju (by decide)]; exact st) (by rw [ju_ne (by decide), ju_ne (by decide)]; exact s2) (by rw [ju_ne (by decide), ju_ne (by decide)]; exact s11) q4 q5 q6 (by rw [ju_ne (by decide), ju_ne (by decide)]; exact s17) (by rw [ju_ne (by decide), ju_ne (by decide), tN_g hg]; exact s12) (by rw [ju_ne (by decide), ju_at, tS_g hg]; exact s11) (by rw [ju_at, tK_g hg]) (fun z => absurd hg z.1)⟩ | exact ⟨rfl, sF.put (by decide), rd_mk (by rw [tpe_ju (by decide)]; exact st) (by rw [ju_ne (by decide)]; exact s2) (by rw [ju_ne (by decide)]; exact s11) q4 q5 q6 (by rw [ju_ne (by decide)]; exact s17) (by rw [ju_ne (by decide), tN_n hg, if_pos (by omega)]; exact s12) (by rw [ju_ne (by decide), tS_n hg]; exact s13) (by rw [ju_at, tK_n hg, if_pos (by omega)]) (fun z => by have := z.2.1; omega)⟩ | exact ⟨rfl, sF.tr (rdS_same hs2), rd_mk (by rw [rdS_tpe hs2]; exact st) (by rw [hs2.1 2 (by decide)]; exact s2) (by rw [hs2.2 1 (by decide)]; exact s11) q4 q5 q6 (by rw [hs2.2 7 (by decide)]; exact s17) (by rw [g1, tN_n hg, if_neg (by omega), if_pos hA]) (by rw [hs2.2 3 (by decide), tS_n hg]; exact s13) (by rw [g2, tK_n hg, if_neg (by omega), if_pos hA]) (fun z => by rw [nQ, wQ, g3, g4, tN_n hg, tS_n hg, if_neg (by omega), if_pos hA]; exact ⟨rfl, rfl⟩)⟩ | exact ⟨rfl, (sF.put (by decide)).put (by decide), rd_mk (by rw [tpe_ju (by decide), tpe_ju (by decide)]; exact st) (by rw [ju_ne (by decide), ju_ne (by decide)]; exact s2) (by rw [ju_ne (by decide), ju_ne (by decide)]; exact s11) q4 q5 q6 (by rw [ju_ne (by decide), ju_ne (by decide)]; exact s17) (by rw [ju_at, ju_ne (by decide), tN_n hg, if_neg (by omega), if_neg (by rw [← s12]; omega), s12]) (by rw [ju_ne (by decide), ju_ne (by decide), tS_n hg]; exact s13) (by rw [ju_ne (by decide), ju_at, tK_n hg, if_neg (by omega), if_neg (by rw [← s12]; omega), ← s12]; first | rw [if_pos (by omega)] | rw [if_neg (by omega)]) (fun z => by have := z.2.2; rw [← s12] at this; omega)⟩)
          refine r_aload_n (dc dkX8_step 64 rfl) rfl (np 143 rfl ?_)
          refine r_getR (dc dkX8_step 65 rfl) flX8_14 fd_1_0 (np 146 rfl ?_)
          refine r_aload_n (dc dkX8_step 66 rfl) rfl (np 147 rfl ?_)
          refine r_gI 2 (dc dkX8_step 67 rfl) flX8_24 fd_1_2 rfl (np 150 rfl ?_)
          refine r_pV1 (y' := miX2_at) (dc dkX8_step 68 rfl) mlX8_55 ceX2_at ob_2 (Nat.le_of_ble_eq_true rfl) (Nat.le_of_ble_eq_true rfl) (c_tape_at hY (by omega)) (np 153 rfl ?_)
          refine r_eqI (t (ρ 1 2)) (by rw [if_pos (by omega), st]) ?_
          refine r_goto (tgt := 157) (dc dkX8_step 69 rfl) rfl ?_
          refine r_pI 4 (dc dkX8_step 71 rfl) fpX8_30 fd_1_4 rfl (np 160 rfl ?_)
          refine r_aload_n (dc dkX8_step 72 rfl) rfl (np 161 rfl ?_)
          refine r_dup (dc dkX8_step 73 rfl) rfl (np 162 rfl ?_)
          refine r_gI 2 (dc dkX8_step 74 rfl) flX8_24 fd_1_2 rfl (np 165 rfl ?_)
          refine r_iconst (dc dkX8_step 75 rfl) (np 166 rfl ?_)
          refine r_iadd (dc dkX8_step 76 rfl) (np 167 rfl ?_)
          refine r_pI 2 (dc dkX8_step 77 rfl) fpX8_24 fd_1_2 rfl (np 170 rfl ?_)
          exact r_vret (dc dkX8_step 78 rfl) rfl (by first | exact ⟨rfl, (sF.put (by decide)).put (by decide), rd_mk (by rw [tpe_ju (by decide), tpe_ju (by decide)]; exact st) (by rw [ju_ne (by decide), ju_ne (by decide)]; exact s2) (by rw [ju_ne (by decide), ju_ne (by decide)]; exact s11) q4 q5 q6 (by rw [ju_ne (by decide), ju_ne (by decide)]; exact s17) (by rw [ju_ne (by decide), ju_ne (by decide), tN_g hg]; exact s12) (by rw [ju_ne (by decide), ju_at, tS_g hg]; exact s11) (by rw [ju_at, tK_g hg]) (fun z => absurd hg z.1)⟩ | exact ⟨rfl, sF.put (by decide), rd_mk (by rw [tpe_ju (by decide)]; exact st) (by rw [ju_ne (by decide)]; exact s2) (by rw [ju_ne (by decide)]; exact s11) q4 q5 q6 (by rw [ju_ne (by decide)]; exact s17) (by rw [ju_ne (by decide), tN_n hg, if_pos (by omega)]; exact s12) (by rw [ju_ne (by decide), tS_n hg]; exact s13) (by rw [ju_at, tK_n hg, if_pos (by omega)]) (fun z => by have := z.2.1; omega)⟩ | exact ⟨rfl, sF.tr (rdS_same hs2), rd_mk (by rw [rdS_tpe hs2]; exact st) (by rw [hs2.1 2 (by decide)]; exact s2) (by rw [hs2.2 1 (by decide)]; exact s11) q4 q5 q6 (by rw [hs2.2 7 (by decide)]; exact s17) (by rw [g1, tN_n hg, if_neg (by omega), if_pos hA]) (by rw [hs2.2 3 (by decide), tS_n hg]; exact s13) (by rw [g2, tK_n hg, if_neg (by omega), if_pos hA]) (fun z => by rw [nQ, wQ, g3, g4, tN_n hg, tS_n hg, if_neg (by omega), if_pos hA]; exact ⟨rfl, rfl⟩)⟩ | exact ⟨rfl, (sF.put (by decide)).put (by decide), rd_mk (by rw [tpe_ju (by decide), tpe_ju (by decide)]; exact st) (by rw [ju_ne (by decide), ju_ne (by decide)]; exact s2) (by rw [ju_ne (by decide), ju_ne (by decide)]; exact s11) q4 q5 q6 (by rw [ju_ne (by decide), ju_ne (by decide)]; exact s17) (by rw [ju_at, ju_ne (by decide), tN_n hg, if_neg (by omega), if_neg (by rw [← s12]; omega), s12]) (by rw [ju_ne (by decide), ju_ne (by decide), tS_n hg]; exact s13) (by rw [ju_ne (by decide), ju_at, tK_n hg, if_neg (by omega), if_neg (by rw [← s12]; omega), ← s12]; first | rw [if_pos (by omega)] | rw [if_neg (by omega)]) (fun z => by have := z.2.2; rw [← s12] at this; omega)⟩)
        have hA : isAn (t (skp t L p)) := by rw [← s12]; omega
        refine r_aload_n (dc dkX8_step 53 rfl) rfl (np 118 rfl ?_)
        refine r_cV0 (y' := miX8_readRun) (dc dkX8_step 54 rfl) mlX8_66 ceX8_readRun ob_1 (Nat.le_of_ble_eq_true rfl) (Nat.le_of_ble_eq_true rfl) (c_X8_readRun (⟨by omega, by omega, trivial⟩) (by omega)) (fun r τ2 hp2 => (np 121 rfl ?_))
        obtain ⟨rfl, hs2, g1, g2, g3, g4⟩ := hp2
        rw [st, s2, s12] at g1 g2 g3 g4
        refine r_goto (tgt := 170) (dc dkX8_step 55 rfl) rfl ?_
        exact r_vret (dc dkX8_step 78 rfl) rfl (by first | exact ⟨rfl, (sF.put (by decide)).put (by decide), rd_mk (by rw [tpe_ju (by decide), tpe_ju (by decide)]; exact st) (by rw [ju_ne (by decide), ju_ne (by decide)]; exact s2) (by rw [ju_ne (by decide), ju_ne (by decide)]; exact s11) q4 q5 q6 (by rw [ju_ne (by decide), ju_ne (by decide)]; exact s17) (by rw [ju_ne (by decide), ju_ne (by decide), tN_g hg]; exact s12) (by rw [ju_ne (by decide), ju_at, tS_g hg]; exact s11) (by rw [ju_at, tK_g hg]) (fun z => absurd hg z.1)⟩ | exact ⟨rfl, sF.put (by decide), rd_mk (by rw [tpe_ju (by decide)]; exact st) (by rw [ju_ne (by decide)]; exact s2) (by rw [ju_ne (by decide)]; exact s11) q4 q5 q6 (by rw [ju_ne (by decide)]; exact s17) (by rw [ju_ne (by decide), tN_n hg, if_pos (by omega)]; exact s12) (by rw [ju_ne (by decide), tS_n hg]; exact s13) (by rw [ju_at, tK_n hg, if_pos (by omega)]) (fun z => by have := z.2.1; omega)⟩ | exact ⟨rfl, sF.tr (rdS_same hs2), rd_mk (by rw [rdS_tpe hs2]; exact st) (by rw [hs2.1 2 (by decide)]; exact s2) (by rw [hs2.2 1 (by decide)]; exact s11) q4 q5 q6 (by rw [hs2.2 7 (by decide)]; exact s17) (by rw [g1, tN_n hg, if_neg (by omega), if_pos hA]) (by rw [hs2.2 3 (by decide), tS_n hg]; exact s13) (by rw [g2, tK_n hg, if_neg (by omega), if_pos hA]) (fun z => by rw [nQ, wQ, g3, g4, tN_n hg, tS_n hg, if_neg (by omega), if_pos hA]; exact ⟨rfl, rfl⟩)⟩ | exact ⟨rfl, (sF.put (by decide)).put (by decide), rd_mk (by rw [tpe_ju (by decide), tpe_ju (by decide)]; exact st) (by rw [ju_ne (by decide), ju_ne (by decide)]; exact s2) (by rw [ju_ne (by decide), ju_ne (by decide)]; exact s11) q4 q5 q6 (by rw [ju_ne (by decide), ju_ne (by decide)]; exact s17) (by rw [ju_at, ju_ne (by decide), tN_n hg, if_neg (by omega), if_neg (by rw [← s12]; omega), s12]) (by rw [ju_ne (by decide), ju_ne (by decide), tS_n hg]; exact s13) (by rw [ju_ne (by decide), ju_at, tK_n hg, if_neg (by omega), if_neg (by rw [← s12]; omega), ← s12]; first | rw [if_pos (by omega)] | rw [if_neg (by omega)]) (fun z => by have := z.2.2; rw [← s12] at this; omega)⟩)
      refine r_aload_n (dc dkX8_step 35 rfl) rfl (np 76 rfl ?_)
      refine r_iconst (dc dkX8_step 36 rfl) (np 77 rfl ?_)
      refine r_pI 4 (dc dkX8_step 37 rfl) fpX8_30 fd_1_4 rfl (np 80 rfl ?_)
      refine r_goto (tgt := 170) (dc dkX8_step 38 rfl) rfl ?_
      exact r_vret (dc dkX8_step 78 rfl) rfl (by first | exact ⟨rfl, (sF.put (by decide)).put (by decide), rd_mk (by rw [tpe_ju (by decide), tpe_ju (by decide)]; exact st) (by rw [ju_ne (by decide), ju_ne (by decide)]; exact s2) (by rw [ju_ne (by decide), ju_ne (by decide)]; exact s11) q4 q5 q6 (by rw [ju_ne (by decide), ju_ne (by decide)]; exact s17) (by rw [ju_ne (by decide), ju_ne (by decide), tN_g hg]; exact s12) (by rw [ju_ne (by decide), ju_at, tS_g hg]; exact s11) (by rw [ju_at, tK_g hg]) (fun z => absurd hg z.1)⟩ | exact ⟨rfl, sF.put (by decide), rd_mk (by rw [tpe_ju (by decide)]; exact st) (by rw [ju_ne (by decide)]; exact s2) (by rw [ju_ne (by decide)]; exact s11) q4 q5 q6 (by rw [ju_ne (by decide)]; exact s17) (by rw [ju_ne (by decide), tN_n hg, if_pos (by omega)]; exact s12) (by rw [ju_ne (by decide), tS_n hg]; exact s13) (by rw [ju_at, tK_n hg, if_pos (by omega)]) (fun z => by have := z.2.1; omega)⟩ | exact ⟨rfl, sF.tr (rdS_same hs2), rd_mk (by rw [rdS_tpe hs2]; exact st) (by rw [hs2.1 2 (by decide)]; exact s2) (by rw [hs2.2 1 (by decide)]; exact s11) q4 q5 q6 (by rw [hs2.2 7 (by decide)]; exact s17) (by rw [g1, tN_n hg, if_neg (by omega), if_pos hA]) (by rw [hs2.2 3 (by decide), tS_n hg]; exact s13) (by rw [g2, tK_n hg, if_neg (by omega), if_pos hA]) (fun z => by rw [nQ, wQ, g3, g4, tN_n hg, tS_n hg, if_neg (by omega), if_pos hA]; exact ⟨rfl, rfl⟩)⟩ | exact ⟨rfl, (sF.put (by decide)).put (by decide), rd_mk (by rw [tpe_ju (by decide), tpe_ju (by decide)]; exact st) (by rw [ju_ne (by decide), ju_ne (by decide)]; exact s2) (by rw [ju_ne (by decide), ju_ne (by decide)]; exact s11) q4 q5 q6 (by rw [ju_ne (by decide), ju_ne (by decide)]; exact s17) (by rw [ju_at, ju_ne (by decide), tN_n hg, if_neg (by omega), if_neg (by rw [← s12]; omega), s12]) (by rw [ju_ne (by decide), ju_ne (by decide), tS_n hg]; exact s13) (by rw [ju_ne (by decide), ju_at, tK_n hg, if_neg (by omega), if_neg (by rw [← s12]; omega), ← s12]; first | rw [if_pos (by omega)] | rw [if_neg (by omega)]) (fun z => by have := z.2.2; rw [← s12] at this; omega)⟩)
    have hg : tLg t L m p := ⟨by omega, by omega⟩
    refine r_aload_n (dc dkX8_step 21 rfl) rfl (np 46 rfl ?_)
    refine r_aload_n (dc dkX8_step 22 rfl) rfl (np 47 rfl ?_)
    refine r_gI 1 (dc dkX8_step 23 rfl) flX8_20 fd_1_1 rfl (np 50 rfl ?_)
    refine r_pI 3 (dc dkX8_step 24 rfl) fpX8_27 fd_1_3 rfl (np 53 rfl ?_)
    refine r_aload_n (dc dkX8_step 25 rfl) rfl (np 54 rfl ?_)
    refine r_iconst (dc dkX8_step 26 rfl) (np 55 rfl ?_)
    refine r_pI 4 (dc dkX8_step 27 rfl) fpX8_30 fd_1_4 rfl (np 58 rfl ?_)
    refine r_goto (tgt := 170) (dc dkX8_step 28 rfl) rfl ?_
    exact r_vret (dc dkX8_step 78 rfl) rfl (by first | exact ⟨rfl, (sF.put (by decide)).put (by decide), rd_mk (by rw [tpe_ju (by decide), tpe_ju (by decide)]; exact st) (by rw [ju_ne (by decide), ju_ne (by decide)]; exact s2) (by rw [ju_ne (by decide), ju_ne (by decide)]; exact s11) q4 q5 q6 (by rw [ju_ne (by decide), ju_ne (by decide)]; exact s17) (by rw [ju_ne (by decide), ju_ne (by decide), tN_g hg]; exact s12) (by rw [ju_ne (by decide), ju_at, tS_g hg]; exact s11) (by rw [ju_at, tK_g hg]) (fun z => absurd hg z.1)⟩ | exact ⟨rfl, sF.put (by decide), rd_mk (by rw [tpe_ju (by decide)]; exact st) (by rw [ju_ne (by decide)]; exact s2) (by rw [ju_ne (by decide)]; exact s11) q4 q5 q6 (by rw [ju_ne (by decide)]; exact s17) (by rw [ju_ne (by decide), tN_n hg, if_pos (by omega)]; exact s12) (by rw [ju_ne (by decide), tS_n hg]; exact s13) (by rw [ju_at, tK_n hg, if_pos (by omega)]) (fun z => by have := z.2.1; omega)⟩ | exact ⟨rfl, sF.tr (rdS_same hs2), rd_mk (by rw [rdS_tpe hs2]; exact st) (by rw [hs2.1 2 (by decide)]; exact s2) (by rw [hs2.2 1 (by decide)]; exact s11) q4 q5 q6 (by rw [hs2.2 7 (by decide)]; exact s17) (by rw [g1, tN_n hg, if_neg (by omega), if_pos hA]) (by rw [hs2.2 3 (by decide), tS_n hg]; exact s13) (by rw [g2, tK_n hg, if_neg (by omega), if_pos hA]) (fun z => by rw [nQ, wQ, g3, g4, tN_n hg, tS_n hg, if_neg (by omega), if_pos hA]; exact ⟨rfl, rfl⟩)⟩ | exact ⟨rfl, (sF.put (by decide)).put (by decide), rd_mk (by rw [tpe_ju (by decide), tpe_ju (by decide)]; exact st) (by rw [ju_ne (by decide), ju_ne (by decide)]; exact s2) (by rw [ju_ne (by decide), ju_ne (by decide)]; exact s11) q4 q5 q6 (by rw [ju_ne (by decide), ju_ne (by decide)]; exact s17) (by rw [ju_at, ju_ne (by decide), tN_n hg, if_neg (by omega), if_neg (by rw [← s12]; omega), s12]) (by rw [ju_ne (by decide), ju_ne (by decide), tS_n hg]; exact s13) (by rw [ju_ne (by decide), ju_at, tK_n hg, if_neg (by omega), if_neg (by rw [← s12]; omega), ← s12]; first | rw [if_pos (by omega)] | rw [if_neg (by omega)]) (fun z => by have := z.2.2; rw [← s12] at this; omega)⟩)
  exact absurd q7 h4
set_option maxRecDepth 100000 in
set_option maxHeartbeats 4000000 in
theorem c_X8_step1 {σ : jS} {t : Int → Int} {L m : Int} {R : Int × Int} (hR : rd t L m R σ) (h0 : ¬ R.1 = 0) : Jm 8 miX8_step [.ref 1] σ (fun r τ => r = none ∧ same [1] σ τ ∧ rd t L m (R) τ) := by
  have e7 := rd_e hR
  refine jm_ofF (Po := (fun r τ => r = none ∧ same [1] σ τ ∧ rd t L m (R) τ)) (plainFor_of_name (by decide)) (Nat.le_of_ble_eq_true rfl) (lv := [(0, _)]) rfl ?_
  refine r_aload_n (dc dkX8_step 0 rfl) rfl (np 1 rfl ?_)
  refine r_gI 7 (dc dkX8_step 1 rfl) flX8_40 fd_1_7 rfl (np 4 rfl ?_)
  refine r_if_eq (tgt := 8) (dc dkX8_step 2 rfl) rfl (by first | assumption | decide | omega) (fun h4 => ?_) (fun h4 => (np 7 rfl ?_))
  · skip
    omega
  exact r_vret (dc dkX8_step 3 rfl) rfl ⟨rfl, same.refl _ _, hR⟩
theorem c_X8_step {σ : jS} {t : Int → Int} {L m : Int} {R : Int × Int} (hR : rd t L m R σ) : Jm 8 miX8_step [.ref 1] σ (fun r τ => r = none ∧ same [1] σ τ ∧ rd t L m (stR t L m R) τ) := by
  by_cases h : R.1 = 0
  · have hR0 := hR
    obtain ⟨q1, q2, q3, q4, q5, q6, q7, q8, q9, q10⟩ := hR
    obtain ⟨p1, p2, p3, p4, p5⟩ := q9 h
    have nb := tN_b (t := t) (m := m) p1
    rw [stR_y h]
    exact c_X8_step0 q1 q2 q3 q4 q5 ⟨by omega, nb.2⟩ (by omega) p2
  · rw [stR_n h]
    exact c_X8_step1 hR h
set_option maxRecDepth 100000 in
set_option maxHeartbeats 4000000 in
theorem c_X8_isFine {σ : jS} {t : Int → Int} {L m : Int} {R : Int × Int} (hR : rd t L m R σ) : Jp 1 miX8_isFine [.ref 1] σ (vI (bI (R.1 = 0))) := by
  have e7 := rd_e hR
  refine jm_ofF (Po := (jP (vI (bI (R.1 = 0))) σ)) (plainFor_of_name (by decide)) (Nat.le_of_ble_eq_true rfl) (lv := [(0, _)]) rfl ?_
  refine r_aload_n (dc dkX8_isFine 0 rfl) rfl (np 1 rfl ?_)
  refine r_gI 7 (dc dkX8_isFine 1 rfl) flX8_40 fd_1_7 rfl (np 4 rfl ?_)
  refine r_if_ne (tgt := 11) (dc dkX8_isFine 2 rfl) rfl (by first | assumption | decide | omega) (fun h4 => ?_) (fun h4 => (np 7 rfl ?_))
  · skip
    refine r_iconst (dc dkX8_isFine 5 rfl) (np 12 rfl ?_)
    exact r_zret (dc dkX8_isFine 6 rfl) rfl (by first | exact Or.inl rfl | exact Or.inr rfl) ⟨congrArg (fun z => some (vI z)) (by first | exact bT (by omega) | exact bF (by omega)), rfl⟩
  refine r_iconst (dc dkX8_isFine 3 rfl) (np 8 rfl ?_)
  refine r_goto (tgt := 12) (dc dkX8_isFine 4 rfl) rfl ?_
  exact r_zret (dc dkX8_isFine 6 rfl) rfl (by first | exact Or.inl rfl | exact Or.inr rfl) ⟨congrArg (fun z => some (vI z)) (by first | exact bT (by omega) | exact bF (by omega)), rfl⟩
set_option maxRecDepth 100000 in
set_option maxHeartbeats 4000000 in
theorem c_X8_sees {σ : jS} {t : Int → Int} {L m : Int} {R : Int × Int} (hR : rd t L m R σ) {k : Int} (hk : 0 ≤ k ∧ k ≤ 200) : Jp 1 miX8_sees [.ref 1, vI k] σ (vI (bI (snR t L m k R))) := by
  have e7 := rd_e hR
  have kb := tK_b (t := t) (L := L) (m := m) (p := R.2)
  refine jm_ofF (Po := (jP (vI (bI (snR t L m k R))) σ)) (plainFor_of_name (by decide)) (Nat.le_of_ble_eq_true rfl) (lv := [(0, _), (1, _)]) rfl ?_
  refine r_aload_n (dc dkX8_sees 0 rfl) rfl (np 1 rfl ?_)
  refine r_gI 7 (dc dkX8_sees 1 rfl) flX8_40 fd_1_7 rfl (np 4 rfl ?_)
  refine r_if_ne (tgt := 19) (dc dkX8_sees 2 rfl) rfl (by first | assumption | decide | omega) (fun h4 => ?_) (fun h4 => (np 7 rfl ?_))
  · skip
    refine r_iconst (dc dkX8_sees 9 rfl) (np 20 rfl ?_)
    exact r_zret (dc dkX8_sees 10 rfl) rfl (by first | exact Or.inl rfl | exact Or.inr rfl) ⟨congrArg (fun z => some (vI z)) (by first | exact bT ⟨by omega, by omega⟩ | exact bF (fun z => by have z1 := z.1; have z2 := z.2; omega)), rfl⟩
  have e4 := rd_k hR (by omega)
  refine r_aload_n (dc dkX8_sees 3 rfl) rfl (np 8 rfl ?_)
  refine r_gI 4 (dc dkX8_sees 4 rfl) flX8_30 fd_1_4 rfl (np 11 rfl ?_)
  refine r_iload_n (dc dkX8_sees 5 rfl) rfl (np 12 rfl ?_)
  refine r_icmp_ne (tgt := 19) (dc dkX8_sees 6 rfl) rfl (by first | assumption | decide | omega) (by first | assumption | decide | omega) (fun h12 => ?_) (fun h12 => (np 15 rfl ?_))
  · skip
    refine r_iconst (dc dkX8_sees 9 rfl) (np 20 rfl ?_)
    exact r_zret (dc dkX8_sees 10 rfl) rfl (by first | exact Or.inl rfl | exact Or.inr rfl) ⟨congrArg (fun z => some (vI z)) (by first | exact bT ⟨by omega, by omega⟩ | exact bF (fun z => by have z1 := z.1; have z2 := z.2; omega)), rfl⟩
  refine r_iconst (dc dkX8_sees 7 rfl) (np 16 rfl ?_)
  refine r_goto (tgt := 20) (dc dkX8_sees 8 rfl) rfl ?_
  exact r_zret (dc dkX8_sees 10 rfl) rfl (by first | exact Or.inl rfl | exact Or.inr rfl) ⟨congrArg (fun z => some (vI z)) (by first | exact bT ⟨by omega, by omega⟩ | exact bF (fun z => by have z1 := z.1; have z2 := z.2; omega)), rfl⟩
set_option maxRecDepth 100000 in
set_option maxHeartbeats 4000000 in
theorem c_X8_fail {σ : jS} {t : Int → Int} {L m : Int} {R : Int × Int} (hR : rd t L m R σ) {f : Int} (hf : 1 ≤ f ∧ f ≤ 5) : Jm 1 miX8_fail [.ref 1, vI f] σ (fun r τ => r = none ∧ same [1] σ τ ∧ rd t L m (flR t L m f R) τ) := by
  have e7 := rd_e hR
  refine jm_ofF (Po := (fun r τ => r = none ∧ same [1] σ τ ∧ rd t L m (flR t L m f R) τ)) (plainFor_of_name (by decide)) (Nat.le_of_ble_eq_true rfl) (lv := [(0, _), (1, _)]) rfl ?_
  refine r_aload_n (dc dkX8_fail 0 rfl) rfl (np 1 rfl ?_)
  refine r_gI 7 (dc dkX8_fail 1 rfl) flX8_40 fd_1_7 rfl (np 4 rfl ?_)
  refine r_if_ne (tgt := 20) (dc dkX8_fail 2 rfl) rfl (by first | assumption | decide | omega) (fun h4 => ?_) (fun h4 => (np 7 rfl ?_))
  · skip
    exact r_vret (dc dkX8_fail 10 rfl) rfl (by first | exact ⟨rfl, same.refl _ _, by rw [flR_n (by omega)]; exact hR⟩ | exact ⟨rfl, ((same.refl _ _).put (by decide)).put (by decide), rd_fl hR (by omega) hf⟩)
  refine r_aload_n (dc dkX8_fail 3 rfl) rfl (np 8 rfl ?_)
  refine r_iload_n (dc dkX8_fail 4 rfl) rfl (np 9 rfl ?_)
  refine r_pI 7 (dc dkX8_fail 5 rfl) fpX8_40 fd_1_7 rfl (np 12 rfl ?_)
  refine r_aload_n (dc dkX8_fail 6 rfl) rfl (np 13 rfl ?_)
  refine r_aload_n (dc dkX8_fail 7 rfl) rfl (np 14 rfl ?_)
  refine r_gI 3 (dc dkX8_fail 8 rfl) flX8_27 fd_1_3 rfl (np 17 rfl ?_)
  refine r_pI 8 (dc dkX8_fail 9 rfl) fpX8_43 fd_1_8 rfl (np 20 rfl ?_)
  exact r_vret (dc dkX8_fail 10 rfl) rfl (by first | exact ⟨rfl, same.refl _ _, by rw [flR_n (by omega)]; exact hR⟩ | exact ⟨rfl, ((same.refl _ _).put (by decide)).put (by decide), rd_fl hR (by omega) hf⟩)
set_option maxRecDepth 100000 in
set_option maxHeartbeats 4000000 in
theorem c_X8_expect {σ : jS} {t : Int → Int} {L m : Int} {R : Int × Int} (hR : rd t L m R σ) {k : Int} (hk : 0 ≤ k ∧ k ≤ 200) : Jm 9 miX8_expect [.ref 1, vI k] σ (fun r τ => r = none ∧ same [1] σ τ ∧ rd t L m (xpR t L m k R) τ) := by
  refine jm_ofF (Po := (fun r τ => r = none ∧ same [1] σ τ ∧ rd t L m (xpR t L m k R) τ)) (plainFor_of_name (by decide)) (Nat.le_of_ble_eq_true rfl) (lv := [(0, _), (1, _)]) rfl ?_
  refine r_aload_n (dc dkX8_expect 0 rfl) rfl (np 1 rfl ?_)
  refine r_iload_n (dc dkX8_expect 1 rfl) rfl (np 2 rfl ?_)
  refine r_pV1 (y' := miX8_sees) (dc dkX8_expect 2 rfl) mlX8_89 ceX8_sees ob_1 (Nat.le_of_ble_eq_true rfl) (Nat.le_of_ble_eq_true rfl) (c_X8_sees hR hk) (np 5 rfl ?_)
  refine r_bz (tgt := 15) (dc dkX8_expect 3 rfl) rfl (fun h5 => ?_) (fun h5 => (np 8 rfl ?_))
  · skip
    refine r_aload_n (dc dkX8_expect 7 rfl) rfl (np 16 rfl ?_)
    refine r_iconst (dc dkX8_expect 8 rfl) (np 17 rfl ?_)
    refine r_cV1 (y' := miX8_fail) (dc dkX8_expect 9 rfl) mlX8_92 ceX8_fail ob_1 (Nat.le_of_ble_eq_true rfl) (Nat.le_of_ble_eq_true rfl) (c_X8_fail (by assumption) (by decide)) (fun r τ2 hp2 => (np 20 rfl ?_))
    obtain ⟨rfl, hs2, hR2⟩ := hp2
    exact r_vret (dc dkX8_expect 10 rfl) rfl (by first | exact ⟨rfl, hs2, by rw [xpR_y h5]; exact hR2⟩ | exact ⟨rfl, hs2, by rw [xpR_n h5]; exact hR2⟩)
  refine r_aload_n (dc dkX8_expect 4 rfl) rfl (np 9 rfl ?_)
  refine r_cV0 (y' := miX8_step) (dc dkX8_expect 5 rfl) mlX8_46 ceX8_step ob_1 (Nat.le_of_ble_eq_true rfl) (Nat.le_of_ble_eq_true rfl) (c_X8_step (by assumption)) (fun r τ2 hp2 => (np 12 rfl ?_))
  obtain ⟨rfl, hs2, hR2⟩ := hp2
  refine r_goto (tgt := 20) (dc dkX8_expect 6 rfl) rfl ?_
  exact r_vret (dc dkX8_expect 10 rfl) rfl (by first | exact ⟨rfl, hs2, by rw [xpR_y h5]; exact hR2⟩ | exact ⟨rfl, hs2, by rw [xpR_n h5]; exact hR2⟩)
set_option maxRecDepth 100000 in
set_option maxHeartbeats 4000000 in
theorem c_X8_checkNumber {σ : jS} {t : Int → Int} {L m : Int} {R : Int × Int} (hR : rd t L m R σ) {a b : Int} (ha : iR a) (hb : iR b) : Jm 2 miX8_checkNumber [.ref 1, vI a, vI b] σ (fun r τ => r = none ∧ same [1] σ τ ∧ rd t L m (ckR t L m a b R) τ) := by
  refine jm_ofF (Po := (fun r τ => r = none ∧ same [1] σ τ ∧ rd t L m (ckR t L m a b R) τ)) (plainFor_of_name (by decide)) (Nat.le_of_ble_eq_true rfl) (lv := [(0, _), (1, _), (2, _)]) rfl ?_
  refine r_aload_n (dc dkX8_checkNumber 0 rfl) rfl (np 1 rfl ?_)
  refine r_iconst (dc dkX8_checkNumber 1 rfl) (np 2 rfl ?_)
  refine r_pV1 (y' := miX8_sees) (dc dkX8_checkNumber 2 rfl) mlX8_89 ceX8_sees ob_1 (Nat.le_of_ble_eq_true rfl) (Nat.le_of_ble_eq_true rfl) (c_X8_sees (by assumption) (by decide)) (np 5 rfl ?_)
  refine r_bn (tgt := 16) (dc dkX8_checkNumber 3 rfl) rfl (fun h5 => ?_) (fun h5 => (np 8 rfl ?_))
  · skip
    have e5 := rd_v hR h5
    refine r_aload_n (dc dkX8_checkNumber 8 rfl) rfl (np 17 rfl ?_)
    refine r_gI 5 (dc dkX8_checkNumber 9 rfl) flX8_33 fd_1_5 rfl (np 20 rfl ?_)
    refine r_iload_n (dc dkX8_checkNumber 10 rfl) rfl (np 21 rfl ?_)
    refine r_icmp_lt (tgt := 32) (dc dkX8_checkNumber 11 rfl) rfl (by first | assumption | decide | omega) (by first | assumption | decide | omega) (fun h21 => ?_) (fun h21 => (np 24 rfl ?_))
    · skip
      refine r_aload_n (dc dkX8_checkNumber 16 rfl) rfl (np 33 rfl ?_)
      refine r_iconst (dc dkX8_checkNumber 17 rfl) (np 34 rfl ?_)
      refine r_cV1 (y' := miX8_fail) (dc dkX8_checkNumber 18 rfl) mlX8_92 ceX8_fail ob_1 (Nat.le_of_ble_eq_true rfl) (Nat.le_of_ble_eq_true rfl) (c_X8_fail (by assumption) (by decide)) (fun r τ2 hp2 => (np 37 rfl ?_))
      obtain ⟨rfl, hs2, hR2⟩ := hp2
      exact r_vret (dc dkX8_checkNumber 19 rfl) rfl (by first | exact ⟨rfl, hs2, by rw [ckR_n h5]; exact hR2⟩ | exact ⟨rfl, hs2, by rw [ckR_o h5 (by omega)]; exact hR2⟩ | exact ⟨rfl, same.refl _ _, by rw [ckR_y h5 (by omega)]; exact hR⟩)
    refine r_aload_n (dc dkX8_checkNumber 12 rfl) rfl (np 25 rfl ?_)
    refine r_gI 5 (dc dkX8_checkNumber 13 rfl) flX8_33 fd_1_5 rfl (np 28 rfl ?_)
    refine r_iload_n (dc dkX8_checkNumber 14 rfl) rfl (np 29 rfl ?_)
    refine r_icmp_le (tgt := 37) (dc dkX8_checkNumber 15 rfl) rfl (by first | assumption | decide | omega) (by first | assumption | decide | omega) (fun h29 => ?_) (fun h29 => (np 32 rfl ?_))
    · skip
      exact r_vret (dc dkX8_checkNumber 19 rfl) rfl (by first | exact ⟨rfl, hs2, by rw [ckR_n h5]; exact hR2⟩ | exact ⟨rfl, hs2, by rw [ckR_o h5 (by omega)]; exact hR2⟩ | exact ⟨rfl, same.refl _ _, by rw [ckR_y h5 (by omega)]; exact hR⟩)
    refine r_aload_n (dc dkX8_checkNumber 16 rfl) rfl (np 33 rfl ?_)
    refine r_iconst (dc dkX8_checkNumber 17 rfl) (np 34 rfl ?_)
    refine r_cV1 (y' := miX8_fail) (dc dkX8_checkNumber 18 rfl) mlX8_92 ceX8_fail ob_1 (Nat.le_of_ble_eq_true rfl) (Nat.le_of_ble_eq_true rfl) (c_X8_fail (by assumption) (by decide)) (fun r τ2 hp2 => (np 37 rfl ?_))
    obtain ⟨rfl, hs2, hR2⟩ := hp2
    exact r_vret (dc dkX8_checkNumber 19 rfl) rfl (by first | exact ⟨rfl, hs2, by rw [ckR_n h5]; exact hR2⟩ | exact ⟨rfl, hs2, by rw [ckR_o h5 (by omega)]; exact hR2⟩ | exact ⟨rfl, same.refl _ _, by rw [ckR_y h5 (by omega)]; exact hR⟩)
  refine r_aload_n (dc dkX8_checkNumber 4 rfl) rfl (np 9 rfl ?_)
  refine r_iconst (dc dkX8_checkNumber 5 rfl) (np 10 rfl ?_)
  refine r_cV1 (y' := miX8_fail) (dc dkX8_checkNumber 6 rfl) mlX8_92 ceX8_fail ob_1 (Nat.le_of_ble_eq_true rfl) (Nat.le_of_ble_eq_true rfl) (c_X8_fail (by assumption) (by decide)) (fun r τ2 hp2 => (np 13 rfl ?_))
  obtain ⟨rfl, hs2, hR2⟩ := hp2
  refine r_goto (tgt := 37) (dc dkX8_checkNumber 7 rfl) rfl ?_
  exact r_vret (dc dkX8_checkNumber 19 rfl) rfl (by first | exact ⟨rfl, hs2, by rw [ckR_n h5]; exact hR2⟩ | exact ⟨rfl, hs2, by rw [ckR_o h5 (by omega)]; exact hR2⟩ | exact ⟨rfl, same.refl _ _, by rw [ckR_y h5 (by omega)]; exact hR⟩)
set_option maxRecDepth 100000 in
set_option maxHeartbeats 4000000 in
theorem c_X8_number {σ : jS} {t : Int → Int} {L m : Int} {R : Int × Int} (hR : rd t L m R σ) {a b : Int} (ha : iR a) (hb : iR b) : Jm 9 miX8_number [.ref 1, vI a, vI b] σ (fun r τ => ∃ z, r = some (vI z) ∧ ((nmR t L m a b R).1 = 0 → z = nQ t L m R.2) ∧ same [1] σ τ ∧ rd t L m (nmR t L m a b R) τ) := by
  refine jm_ofF (Po := (fun r τ => ∃ z, r = some (vI z) ∧ ((nmR t L m a b R).1 = 0 → z = nQ t L m R.2) ∧ same [1] σ τ ∧ rd t L m (nmR t L m a b R) τ)) (plainFor_of_name (by decide)) (Nat.le_of_ble_eq_true rfl) (lv := [(0, _), (1, _), (2, _)]) rfl ?_
  refine r_aload_n (dc dkX8_number 0 rfl) rfl (np 1 rfl ?_)
  refine r_iload_n (dc dkX8_number 1 rfl) rfl (np 2 rfl ?_)
  refine r_iload_n (dc dkX8_number 2 rfl) rfl (np 3 rfl ?_)
  refine r_cV2 (y' := miX8_checkNumber) (dc dkX8_number 3 rfl) mlX8_95 ceX8_checkNumber ob_1 (Nat.le_of_ble_eq_true rfl) (Nat.le_of_ble_eq_true rfl) (c_X8_checkNumber (by assumption) (by omega) (by omega)) (fun r τ2 hp2 => (np 6 rfl ?_))
  obtain ⟨rfl, hs2, hR2⟩ := hp2
  refine r_aload_n (dc dkX8_number 4 rfl) rfl (np 7 rfl ?_)
  refine r_gI 5 (dc dkX8_number 5 rfl) flX8_33 fd_1_5 rfl (np 10 rfl ?_)
  refine r_istore_n (lv' := [(3, _), (0, _), (1, _), (2, _)]) (dc dkX8_number 6 rfl) (Nat.le_of_ble_eq_true rfl) rfl (np 11 rfl ?_)
  refine r_aload_n (dc dkX8_number 7 rfl) rfl (np 12 rfl ?_)
  refine r_cV0 (y' := miX8_step) (dc dkX8_number 8 rfl) mlX8_46 ceX8_step ob_1 (Nat.le_of_ble_eq_true rfl) (Nat.le_of_ble_eq_true rfl) (c_X8_step hR2) (fun r τ3 hp3 => (np 15 rfl ?_))
  obtain ⟨rfl, hs3, hR3⟩ := hp3
  refine r_iload_n (dc dkX8_number 9 rfl) rfl (np 16 rfl ?_)
  exact r_iret (dc dkX8_number 10 rfl) rfl ⟨_, rfl, fun z => by obtain ⟨h1, h2, h3, h4⟩ := nmR_f z; have := rd_v hR2 (by rw [ckR_y h1 (by omega)]; exact h1); rw [ckR_y h1 (by omega)] at this; exact this.1, hs2.tr hs3, hR3⟩
noncomputable def sgR (t : Int → Int) (L m : Int) (R : Int × Int) : Int × Int := @ite _ (snR t L m 45 R) (Classical.propDecidable _) (stR t L m R) R
noncomputable def sdR (t : Int → Int) (L m : Int) (R : Int × Int) : Int × Int := nmR t L m 0 9 (sgR t L m R)
noncomputable def sdV (t : Int → Int) (L m : Int) (R : Int × Int) : Int := bite (snR t L m 45 R) (-(nQ t L m (sgR t L m R).2)) (nQ t L m (sgR t L m R).2)
theorem sgR_y {t : Int → Int} {L m : Int} {R : Int × Int} (h : snR t L m 45 R) : sgR t L m R = stR t L m R := if_pos h
theorem sgR_n {t : Int → Int} {L m : Int} {R : Int × Int} (h : ¬ snR t L m 45 R) : sgR t L m R = R := if_neg h
set_option maxRecDepth 100000 in
set_option maxHeartbeats 4000000 in
theorem c_X8_signedDigit {σ : jS} {t : Int → Int} {L m : Int} {R : Int × Int} (hR : rd t L m R σ) : Jm 10 miX8_signedDigit [.ref 1] σ (fun r τ => ∃ z, r = some (vI z) ∧ ((sdR t L m R).1 = 0 → z = sdV t L m R) ∧ same [1] σ τ ∧ rd t L m (sdR t L m R) τ) := by
  refine jm_ofF (Po := (fun r τ => ∃ z, r = some (vI z) ∧ ((sdR t L m R).1 = 0 → z = sdV t L m R) ∧ same [1] σ τ ∧ rd t L m (sdR t L m R) τ)) (plainFor_of_name (by decide)) (Nat.le_of_ble_eq_true rfl) (lv := [(0, _)]) rfl ?_
  refine r_aload_n (dc dkX8_signedDigit 0 rfl) rfl (np 1 rfl ?_)
  refine r_bipush (dc dkX8_signedDigit 1 rfl) bp_45 (np 3 rfl ?_)
  refine r_pV1 (y' := miX8_sees) (dc dkX8_signedDigit 2 rfl) mlX8_89 ceX8_sees ob_1 (Nat.le_of_ble_eq_true rfl) (Nat.le_of_ble_eq_true rfl) (c_X8_sees (by assumption) (by decide)) (np 6 rfl ?_)
  refine r_istore_n (lv' := [(1, _), (0, _)]) (dc dkX8_signedDigit 3 rfl) (Nat.le_of_ble_eq_true rfl) rfl (np 7 rfl ?_)
  refine r_iload_n (dc dkX8_signedDigit 4 rfl) rfl (np 8 rfl ?_)
  refine r_bz (tgt := 15) (dc dkX8_signedDigit 5 rfl) rfl (fun h8 => ?_) (fun h8 => (np 11 rfl ?_))
  · skip
    refine r_aload_n (dc dkX8_signedDigit 8 rfl) rfl (np 16 rfl ?_)
    refine r_iconst (dc dkX8_signedDigit 9 rfl) (np 17 rfl ?_)
    refine r_bipush (dc dkX8_signedDigit 10 rfl) bp_9 (np 19 rfl ?_)
    refine r_cV2 (y' := miX8_number) (dc dkX8_signedDigit 11 rfl) mlX8_99 ceX8_number ob_1 (Nat.le_of_ble_eq_true rfl) (Nat.le_of_ble_eq_true rfl) (c_X8_number (by first | exact hR2 | exact hR) (by decide) (by decide)) (fun r τ3 hp3 => (np 22 rfl ?_))
    obtain ⟨z3, rfl, hz3, hs3, hR3⟩ := hp3
    refine r_istore_n (lv' := [(2, _), (1, _), (0, _)]) (dc dkX8_signedDigit 12 rfl) (Nat.le_of_ble_eq_true rfl) rfl (np 23 rfl ?_)
    refine r_iload_n (dc dkX8_signedDigit 13 rfl) rfl (np 24 rfl ?_)
    refine r_bz (tgt := 32) (dc dkX8_signedDigit 14 rfl) rfl (fun h24 => ?_) (fun h24 => (np 27 rfl ?_))
    · skip
      refine r_iload_n (dc dkX8_signedDigit 18 rfl) rfl (np 33 rfl ?_)
      exact r_iret (dc dkX8_signedDigit 19 rfl) rfl (by first | exact absurd h24 h8 | exact absurd h8 h24 | exact ⟨_, rfl, fun z => by rw [sdV, bite_t h8]; rw [sdR, sgR_y h8] at z; rw [sgR_y h8, hz3 z], hs2.tr hs3, by rw [sdR, sgR_y h8]; exact hR3⟩ | exact ⟨_, rfl, fun z => by rw [sdV, bite_f h8]; rw [sdR, sgR_n h8] at z; rw [sgR_n h8, hz3 z], hs3, by rw [sdR, sgR_n h8]; exact hR3⟩)
    refine r_iload_n (dc dkX8_signedDigit 15 rfl) rfl (np 28 rfl ?_)
    refine r_ineg (dc dkX8_signedDigit 16 rfl) (np 29 rfl ?_)
    refine r_goto (tgt := 33) (dc dkX8_signedDigit 17 rfl) rfl ?_
    exact r_iret (dc dkX8_signedDigit 19 rfl) rfl (by first | exact absurd h24 h8 | exact absurd h8 h24 | exact ⟨_, rfl, fun z => by rw [sdV, bite_t h8]; rw [sdR, sgR_y h8] at z; rw [sgR_y h8, hz3 z], hs2.tr hs3, by rw [sdR, sgR_y h8]; exact hR3⟩ | exact ⟨_, rfl, fun z => by rw [sdV, bite_f h8]; rw [sdR, sgR_n h8] at z; rw [sgR_n h8, hz3 z], hs3, by rw [sdR, sgR_n h8]; exact hR3⟩)
  refine r_aload_n (dc dkX8_signedDigit 6 rfl) rfl (np 12 rfl ?_)
  refine r_cV0 (y' := miX8_step) (dc dkX8_signedDigit 7 rfl) mlX8_46 ceX8_step ob_1 (Nat.le_of_ble_eq_true rfl) (Nat.le_of_ble_eq_true rfl) (c_X8_step (by assumption)) (fun r τ2 hp2 => (np 15 rfl ?_))
  obtain ⟨rfl, hs2, hR2⟩ := hp2
  refine r_aload_n (dc dkX8_signedDigit 8 rfl) rfl (np 16 rfl ?_)
  refine r_iconst (dc dkX8_signedDigit 9 rfl) (np 17 rfl ?_)
  refine r_bipush (dc dkX8_signedDigit 10 rfl) bp_9 (np 19 rfl ?_)
  refine r_cV2 (y' := miX8_number) (dc dkX8_signedDigit 11 rfl) mlX8_99 ceX8_number ob_1 (Nat.le_of_ble_eq_true rfl) (Nat.le_of_ble_eq_true rfl) (c_X8_number (by first | exact hR2 | exact hR) (by decide) (by decide)) (fun r τ3 hp3 => (np 22 rfl ?_))
  obtain ⟨z3, rfl, hz3, hs3, hR3⟩ := hp3
  refine r_istore_n (lv' := [(2, _), (1, _), (0, _)]) (dc dkX8_signedDigit 12 rfl) (Nat.le_of_ble_eq_true rfl) rfl (np 23 rfl ?_)
  refine r_iload_n (dc dkX8_signedDigit 13 rfl) rfl (np 24 rfl ?_)
  refine r_bz (tgt := 32) (dc dkX8_signedDigit 14 rfl) rfl (fun h24 => ?_) (fun h24 => (np 27 rfl ?_))
  · skip
    refine r_iload_n (dc dkX8_signedDigit 18 rfl) rfl (np 33 rfl ?_)
    exact r_iret (dc dkX8_signedDigit 19 rfl) rfl (by first | exact absurd h24 h8 | exact absurd h8 h24 | exact ⟨_, rfl, fun z => by rw [sdV, bite_t h8]; rw [sdR, sgR_y h8] at z; rw [sgR_y h8, hz3 z], hs2.tr hs3, by rw [sdR, sgR_y h8]; exact hR3⟩ | exact ⟨_, rfl, fun z => by rw [sdV, bite_f h8]; rw [sdR, sgR_n h8] at z; rw [sgR_n h8, hz3 z], hs3, by rw [sdR, sgR_n h8]; exact hR3⟩)
  refine r_iload_n (dc dkX8_signedDigit 15 rfl) rfl (np 28 rfl ?_)
  refine r_ineg (dc dkX8_signedDigit 16 rfl) (np 29 rfl ?_)
  refine r_goto (tgt := 33) (dc dkX8_signedDigit 17 rfl) rfl ?_
  exact r_iret (dc dkX8_signedDigit 19 rfl) rfl (by first | exact absurd h24 h8 | exact absurd h8 h24 | exact ⟨_, rfl, fun z => by rw [sdV, bite_t h8]; rw [sdR, sgR_y h8] at z; rw [sgR_y h8, hz3 z], hs2.tr hs3, by rw [sdR, sgR_y h8]; exact hR3⟩ | exact ⟨_, rfl, fun z => by rw [sdV, bite_f h8]; rw [sdR, sgR_n h8] at z; rw [sgR_n h8, hz3 z], hs3, by rw [sdR, sgR_n h8]; exact hR3⟩)
set_option maxRecDepth 100000 in
set_option maxHeartbeats 4000000 in
theorem c_X8_open {σ : jS} {k : Int} (hk : cB 640 k) (hL : cB 640 (σ 2 1)) : Jm 9 miX8_open [.ref 1, vI k] σ (fun r τ => r = none ∧ same [1] σ τ ∧ rd (tpe σ) (σ 2 1) k (0, 0) τ) := by
  refine jm_ofF (Po := (fun r τ => r = none ∧ same [1] σ τ ∧ rd (tpe σ) (σ 2 1) k (0, 0) τ)) (plainFor_of_name (by decide)) (Nat.le_of_ble_eq_true rfl) (lv := [(0, _), (1, _)]) rfl ?_
  refine r_aload_n (dc dkX8_open 0 rfl) rfl (np 1 rfl ?_)
  refine r_iload_n (dc dkX8_open 1 rfl) rfl (np 2 rfl ?_)
  refine r_pI 1 (dc dkX8_open 2 rfl) fpX8_20 fd_1_1 rfl (np 5 rfl ?_)
  refine r_aload_n (dc dkX8_open 3 rfl) rfl (np 6 rfl ?_)
  refine r_iconst (dc dkX8_open 4 rfl) (np 7 rfl ?_)
  refine r_pI 2 (dc dkX8_open 5 rfl) fpX8_24 fd_1_2 rfl (np 10 rfl ?_)
  refine r_aload_n (dc dkX8_open 6 rfl) rfl (np 11 rfl ?_)
  refine r_iconst (dc dkX8_open 7 rfl) (np 12 rfl ?_)
  refine r_pI 7 (dc dkX8_open 8 rfl) fpX8_40 fd_1_7 rfl (np 15 rfl ?_)
  refine r_aload_n (dc dkX8_open 9 rfl) rfl (np 16 rfl ?_)
  refine r_iconst (dc dkX8_open 10 rfl) (np 17 rfl ?_)
  refine r_pI 8 (dc dkX8_open 11 rfl) fpX8_43 fd_1_8 rfl (np 20 rfl ?_)
  refine r_aload_n (dc dkX8_open 12 rfl) rfl (np 21 rfl ?_)
  refine r_cV0 (y' := miX8_step) (dc dkX8_open 13 rfl) mlX8_46 ceX8_step ob_1 (Nat.le_of_ble_eq_true rfl) (Nat.le_of_ble_eq_true rfl) (c_X8_step0 (t := tpe σ) (L := σ 2 1) (m := k) (p := 0) (by rw [tpe_ju (by decide), tpe_ju (by decide), tpe_ju (by decide), tpe_ju (by decide)]) (by rw [ju_ne (by decide), ju_ne (by decide), ju_ne (by decide), ju_ne (by decide)]) (by rw [ju_ne (by decide), ju_ne (by decide), ju_ne (by decide), ju_at]) hL hk (by omega) (by rw [ju_ne (by decide), ju_at]) (by rw [ju_ne (by decide), ju_ne (by decide), ju_at])) (fun r τ2 hp2 => (np 24 rfl ?_))
  obtain ⟨rfl, hs2, hR2⟩ := hp2
  exact r_vret (dc dkX8_open 14 rfl) rfl ⟨rfl, (((((same.refl _ _).put (by decide)).put (by decide)).put (by decide)).put (by decide)).tr hs2, hR2⟩
