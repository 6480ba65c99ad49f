/-! ===== the reference's reader ===== -/
/-- only slots X of the reference have changed -/
def mdS (X : List Int) (σ τ : jS) : Prop := (∀ c, ¬ c = 111 → τ c = σ c) ∧ ∀ j, j ∉ X → τ 111 j = σ 111 j
theorem mdS.refl (X : List Int) (σ : jS) : mdS X σ σ := ⟨fun _ _ => rfl, fun _ _ => rfl⟩
theorem mdS.put {X : List Int} {σ τ : jS} (h : mdS X σ τ) {j z : Int} (hj : j ∈ X) : mdS X σ (ju τ 111 j z) := ⟨fun c hc => by rw [ju_off _ _ _ _ _ hc]; exact h.1 c hc, fun i hi => by rw [ju_ne (fun q => hi (by rw [q.2]; exact hj))]; exact h.2 i hi⟩
theorem mdS.wide {X Y : List Int} {σ τ : jS} (h : mdS X σ τ) (hX : ∀ j ∈ X, j ∈ Y) : mdS Y σ τ := ⟨h.1, fun j hj => h.2 j (fun q => hj (hX j q))⟩
theorem mdS.tr {X : List Int} {σ τ ρ : jS} (h : mdS X σ τ) (g : mdS X τ ρ) : mdS X σ ρ := ⟨fun c hc => (g.1 c hc).trans (h.1 c hc), fun j hj => (g.2 j hj).trans (h.2 j hj)⟩
theorem mdS.same {X : List Int} {σ τ : jS} (h : mdS X σ τ) : same [111] σ τ := fun c hc => h.1 c (by simpa using hc)
def kM (k : Int) : Int := if k = 0 then 0 else if k = 1 then 1 else if k = 2 then 3 else if k = 3 ∨ 100 ≤ k then 2 else 4
/-- the reference's tape -/
def mTp (t : Int → Int) (L : Int) (σ : jS) : Prop := ∀ i, 0 ≤ i → i < L → σ 112 i = t i ∧ cB 255 (t i)
def md (t : Int → Int) (L m q : Int) (σ : jS) : Prop := mTp t L σ ∧ σ 111 3 = L ∧ σ 111 4 = m ∧ cB 640 L ∧ cB 640 m ∧ (0 ≤ q ∧ q ≤ L) ∧ σ 111 5 = tN t L m q ∧ σ 111 6 = tS t L m q ∧ σ 111 7 = kM (tK t L m q) ∧ (tK t L m q = 2 → σ 111 8 = nQ t L m q) ∧ (tK t L m q = 3 ∨ 100 ≤ tK t L m q → σ 111 13 = wQ t L m q) ∧ (40 ≤ tK t L m q ∧ tK t L m q ≤ 62 → σ 111 9 = tK t L m q) ∧ σ 111 10 = 0
theorem kM_b {t : Int → Int} {L m q : Int} : cB 4 (kM (tK t L m q)) := by unfold kM; split <;> (try split) <;> (try split) <;> (try split) <;> omega
theorem bI_inj {P Q : Prop} : bI P = bI Q ↔ (P ↔ Q) := by
  by_cases hP : P <;> by_cases hQ : Q
  · rw [bI_t hP, bI_t hQ]; exact ⟨fun _ => ⟨fun _ => hQ, fun _ => hP⟩, fun _ => rfl⟩
  · rw [bI_t hP, bI_f hQ]; exact ⟨fun h => absurd h (by decide), fun h => absurd (h.mp hP) hQ⟩
  · rw [bI_f hP, bI_t hQ]; exact ⟨fun h => absurd h (by decide), fun h => absurd (h.mpr hQ) hP⟩
  · rw [bI_f hP, bI_f hQ]; exact ⟨fun _ => ⟨fun h => absurd h hP, fun h => absurd h hQ⟩, fun _ => rfl⟩
theorem cnt0 {f : Int → Prop} {n : Int} (hn : 0 ≤ n) : smI (fun i => bI (f i)) n = 0 ↔ ∀ i, 0 ≤ i → i < n → ¬ f i := by
  have key : ∀ k : Nat, smI (fun i => bI (f i)) k = 0 ↔ ∀ i : Int, 0 ≤ i → i < k → ¬ f i := by
    intro k
    induction k with
    | zero => exact ⟨fun _ i h0 h1 => by omega, fun _ => rfl⟩
    | succ k ih =>
      have hb := smI_bI (f := f) (n := (k : Int)) (by omega)
      have b1 := bI_b (f k)
      rw [show ((k + 1 : Nat) : Int) = (k : Int) + 1 by omega, smI_s _ (by omega)]
      constructor
      · intro h i h0 h1
        by_cases hi : i = k
        · subst hi
          intro hf
          have := bI_t hf
          omega
        · exact ih.mp (by omega) i h0 (by omega)
      · intro h
        rw [ih.mpr (fun i h0 h1 => h i h0 (by omega)), bI_f (h k (by omega) (by omega))]
        rfl
  have := key n.toNat
  rw [Int.toNat_of_nonneg hn] at this
  exact this
theorem fiF_spec (P : Int → Prop) : ∀ (n : Nat) (s : Int), 0 ≤ s → (fiF P n s = -1 ∧ ∀ j, s ≤ j → j < s + n → ¬ P j) ∨ (s ≤ fiF P n s ∧ fiF P n s < s + n ∧ P (fiF P n s) ∧ ∀ j, s ≤ j → j < fiF P n s → ¬ P j)
  | 0, s, _ => Or.inl ⟨rfl, fun j h1 h2 => by omega⟩
  | n + 1, s, hs => by
    rw [fiF]
    by_cases h : P s
    · rw [if_pos h]
      exact Or.inr ⟨by omega, by omega, h, fun j h1 h2 => by omega⟩
    · rw [if_neg h]
      rcases fiF_spec P n (s + 1) (by omega) with g | g
      · refine Or.inl ⟨g.1, fun j h1 h2 => ?_⟩
        by_cases hj : j = s
        · subst hj; exact h
        · exact g.2 j (by omega) (by omega)
      · refine Or.inr ⟨by omega, by omega, g.2.2.1, fun j h1 h2 => ?_⟩
        by_cases hj : j = s
        · subst hj; exact h
        · exact g.2.2.2 j (by omega) h2
theorem fi_spec (P : Int → Prop) {n : Int} (hn : 0 ≤ n) : (fi P n = -1 ∧ ∀ j, 0 ≤ j → j < n → ¬ P j) ∨ (0 ≤ fi P n ∧ fi P n < n ∧ P (fi P n) ∧ ∀ j, 0 ≤ j → j < fi P n → ¬ P j) := by
  have h := fiF_spec P n.toNat 0 (by decide)
  unfold fi
  rcases h with h | h
  · exact Or.inl ⟨h.1, fun j h1 h2 => h.2 j h1 (by omega)⟩
  · exact Or.inr ⟨h.1, by omega, h.2.2.1, h.2.2.2⟩
theorem wc_inj : ∀ i, i < 17 → ∀ j, j < 17 → wc ((i : Nat) : Int) = wc ((j : Nat) : Int) → i = j := by decide
theorem kdW_iff {w k : Int} (hk : 0 ≤ k ∧ k ≤ 16) : kdW w = 100 + k ↔ wc k = w := by
  have h := fi_spec (fun k => wc k = w) (n := 17) (by decide)
  unfold kdW
  rcases h with h | h
  · rw [if_pos h.1]
    exact ⟨fun z => by omega, fun z => absurd z (h.2 k hk.1 (by omega))⟩
  · rw [if_neg (by omega)]
    have hw := h.2.2.1
    constructor
    · intro z
      rw [show k = fi (fun k => wc k = w) 17 by omega]
      exact hw
    · intro z
      have e : wc (fi (fun k => wc k = w) 17) = wc k := by rw [z]; exact hw
      have := wc_inj (fi (fun k => wc k = w) 17).toNat (by omega) k.toNat (by omega) (by rw [Int.toNat_of_nonneg h.1, Int.toNat_of_nonneg hk.1]; exact e)
      omega
theorem kdW_3 {w : Int} : kdW w = 3 ↔ ∀ k, 0 ≤ k → k ≤ 16 → ¬ wc k = w := by
  have h := fi_spec (fun k => wc k = w) (n := 17) (by decide)
  unfold kdW
  rcases h with h | h
  · rw [if_pos h.1]
    exact ⟨fun _ k h0 h1 => h.2 k h0 (by omega), fun _ => rfl⟩
  · rw [if_neg (by omega)]
    exact ⟨fun z => by omega, fun z => absurd h.2.2.1 (z _ h.1 (by omega))⟩
theorem kd_run {t : Int → Int} {s e : Int} (hse : s < e) (han : ∀ j, s ≤ j → j < e → isAn (t j)) :
    ((∀ j, 0 ≤ j → j < e - s → (isLt (t (s + j)) ↔ isLt (t s))) → isLt (t s) → kdR t s e = if e - s ≤ 7 then kdW (vW t s (e - s)) else 1) ∧
    ((∀ j, 0 ≤ j → j < e - s → (isLt (t (s + j)) ↔ isLt (t s))) → ¬ isLt (t s) → kdR t s e = if e - s ≤ 3 then 2 else 1) ∧
    (¬ (∀ j, 0 ≤ j → j < e - s → (isLt (t (s + j)) ↔ isLt (t s))) → kdR t s e = 1) := by
  have c := an_cnt (t := t) (s := s) (e - s).toNat (fun j h1 h2 => han j h1 (by omega))
  rw [Int.toNat_of_nonneg (show 0 ≤ e - s by omega)] at c
  have z1 : cL t s (e - s) = 0 ↔ _ := cnt0 (f := fun j => isLt (t (s + j))) (n := e - s) (by omega)
  have z2 : cD t s (e - s) = 0 ↔ _ := cnt0 (f := fun j => isDg (t (s + j))) (n := e - s) (by omega)
  refine ⟨fun h hl => ?_, fun h hl => ?_, fun h => ?_⟩
  · have d0 : cD t s (e - s) = 0 := z2.mpr (fun j h0 h1 hd => by have := (h j h0 h1).mpr hl; omega)
    unfold kdR
    by_cases h7 : e - s ≤ 7
    · rw [if_pos h7, if_pos (by omega)]
    · rw [if_neg h7, if_neg (by omega), if_neg (by omega)]
  · have d0 : cL t s (e - s) = 0 := z1.mpr (fun j h0 h1 hd => hl ((h j h0 h1).mp hd))
    unfold kdR
    rw [if_neg (by omega)]
    by_cases h3 : e - s ≤ 3
    · rw [if_pos h3, if_pos (by omega)]
    · rw [if_neg h3, if_neg (by omega)]
  · unfold kdR
    have n1 : ¬ cL t s (e - s) = 0 := by
      intro z
      refine h (fun j h0 h1 => ⟨fun q => absurd q (z1.mp z j h0 h1), fun q => absurd q ?_⟩)
      have := z1.mp z 0 (by decide) (by omega)
      rw [Int.add_zero] at this
      exact this
    have n2 : ¬ cD t s (e - s) = 0 := by
      intro z
      refine h (fun j h0 h1 => ⟨fun _ => ?_, fun _ => ?_⟩)
      · have q1 := z2.mp z 0 (by decide) (by omega)
        have q2 := han s (by omega) hse
        rw [Int.add_zero] at q1
        omega
      · have q1 := z2.mp z j h0 h1
        have q2 := han (s + j) (by omega) (by omega)
        omega
    rw [if_neg (by omega), if_neg (by omega)]
theorem r_abs {d : Nat} {y : jMI} {Po : Option Value → jS → Prop} {pc : Nat} {lv : List (Nat × Value)} {st : List Value} {σ : jS} (F : jS → Prop) (h : F σ) (K : ∀ ρ, F ρ → jR d y Po pc lv st ρ) : jR d y Po pc lv st σ := K σ h
def tA (t : Int → Int) (L p : Int) : Int := if p < L then t p else 0
theorem tA_c (t : Int → Int) (L p : Int) : (p < L ∧ tA t L p = t p) ∨ (L ≤ p ∧ tA t L p = 0) := by
  unfold tA
  by_cases h : p < L
  · rw [if_pos h]; exact Or.inl ⟨h, rfl⟩
  · rw [if_neg h]; exact Or.inr ⟨by omega, rfl⟩
theorem kM_w (w : Int) : kM (kdW w) = 2 := by
  have := kdW_b w
  unfold kM
  rw [if_neg (by omega), if_neg (by omega), if_neg (by omega), if_pos (by omega)]
theorem kM_s {k : Int} (h : 40 ≤ k ∧ k ≤ 62) : kM k = 4 := by
  unfold kM
  rw [if_neg (by omega), if_neg (by omega), if_neg (by omega), if_neg (by omega)]
set_option maxRecDepth 100000 in
set_option maxHeartbeats 4000000 in
theorem c_X13_tapeAt {σ : jS} {t : Int → Int} {L p : Int} (hT : mTp t L σ) (hL : σ 111 3 = L) (hL2 : cB 640 L) (hp : 0 ≤ p ∧ p ≤ L) : Jp 1 miX13_tapeAt [.ref 111, vI p] σ (vI (tA t L p)) := by
  refine jm_ofF (Po := (jP (vI (tA t L p)) σ)) (plainFor_of_name (by decide)) (Nat.le_of_ble_eq_true rfl) (lv := [(0, _), (1, _)]) rfl ?_
  refine r_iload_n (dc dkX13_tapeAt 0 rfl) rfl (np 1 rfl ?_)
  refine r_aload_n (dc dkX13_tapeAt 1 rfl) rfl (np 2 rfl ?_)
  refine r_gI 3 (dc dkX13_tapeAt 2 rfl) flX13_109 fd_111_3 rfl (np 5 rfl ?_)
  refine r_icmp_ge (tgt := 17) (dc dkX13_tapeAt 3 rfl) rfl (by first | assumption | decide | omega) (by first | assumption | decide | omega) (fun h5 => ?_) (fun h5 => (np 8 rfl ?_))
  · skip
    refine r_iconst (dc dkX13_tapeAt 9 rfl) (np 18 rfl ?_)
    exact r_iret (dc dkX13_tapeAt 10 rfl) rfl ⟨congrArg (fun z => some (vI z)) (by unfold tA; first | (rw [if_pos (by omega)]; exact (hT _ (by omega) (by omega)).1) | (rw [if_neg (by omega)]; done)), rfl⟩
  refine r_aload_n (dc dkX13_tapeAt 4 rfl) rfl (np 9 rfl ?_)
  refine r_getR (dc dkX13_tapeAt 5 rfl) flX13_7 fd_111_1 (np 12 rfl ?_)
  refine r_iload_n (dc dkX13_tapeAt 6 rfl) rfl (np 13 rfl ?_)
  refine r_iald (dc dkX13_tapeAt 7 rfl) ar_112 (by omega) (np 14 rfl ?_)
  refine r_goto (tgt := 18) (dc dkX13_tapeAt 8 rfl) rfl ?_
  exact r_iret (dc dkX13_tapeAt 10 rfl) rfl ⟨congrArg (fun z => some (vI z)) (by unfold tA; first | (rw [if_pos (by omega)]; exact (hT _ (by omega) (by omega)).1) | (rw [if_neg (by omega)]; done)), rfl⟩
set_option maxRecDepth 100000 in
set_option maxHeartbeats 4000000 in
theorem c_X13_go0 {σ : jS} {t : Int → Int} {L m p : Int} (hT : mTp t L σ) (q2 : σ 111 3 = L) (q3 : σ 111 4 = m) (q4 : cB 640 L) (q5 : cB 640 m) (q6 : 0 ≤ p ∧ p ≤ L) (p2 : σ 111 5 = p) (q10 : σ 111 10 = 0) : Jm 2 miX13_go [.ref 111] σ (fun r τ => r = none ∧ mdS [5, 6, 7, 8, 9, 13] σ τ ∧ md t L m p τ) := by
  have hsk := skp_b (t := t) (p := p) q6.2
  refine jm_ofF (Po := (fun r τ => r = none ∧ mdS [5, 6, 7, 8, 9, 13] σ τ ∧ md t L m p τ)) (plainFor_of_name (by decide)) (Nat.le_of_ble_eq_true rfl) (lv := [(0, _)]) rfl ?_
  refine r_pick [0] (lv' := [(0, _)]) rfl ?_
  refine jlp1 (P := fun (τ : jS) => jR _ _ _ 0 [(0, .ref 111)] [] τ) (I := fun (τ : jS) => mdS [5, 6, 7, 8, 9, 13] σ τ ∧ (p ≤ τ 111 5 ∧ τ 111 5 ≤ L) ∧ skp t L p = skF t (L - τ 111 5).toNat (τ 111 5)) (fun (τ : jS) => (L - τ 111 5).toNat) ?_ _ ⟨mdS.refl _ _, by omega, by rw [p2]; rfl⟩
  intro τ hI0 ih0
  obtain ⟨hs, hb, hk⟩ := hI0
  have e2 : τ 111 3 = L := by rw [hs.2 3 (by decide)]; exact q2
  have e1 : mTp t L τ := by intro i z0 z1; rw [hs.1 112 (by decide)]; exact hT i z0 z1
  have jj52 : τ 111 5 = skp t L p → jR 2 miX13_go (fun r τ => r = none ∧ mdS [5, 6, 7, 8, 9, 13] σ τ ∧ md t L m p τ) 52 [(0, .ref 111)] [] τ := by
    intro hk2
    refine r_aload_n (dc dkX13_go 26 rfl) rfl (np 53 rfl ?_)
    refine r_aload_n (dc dkX13_go 27 rfl) rfl (np 54 rfl ?_)
    refine r_gI 5 (dc dkX13_go 28 rfl) flX13_111 fd_111_5 rfl (np 57 rfl ?_)
    refine r_pI 6 (dc dkX13_go 29 rfl) fpX13_114 fd_111_6 rfl (np 60 rfl ?_)
    generalize hρ : ju τ 111 6 (τ 111 5) = ρ
    have sF : mdS [5, 6, 7, 8, 9, 13] σ ρ := by rw [← hρ]; exact hs.put (by decide)
    have s3 : ρ 111 3 = L := by rw [sF.2 3 (by decide)]; exact q2
    have s4 : ρ 111 4 = m := by rw [sF.2 4 (by decide)]; exact q3
    have s10 : ρ 111 10 = 0 := by rw [sF.2 10 (by decide)]; exact q10
    have s5 : ρ 111 5 = skp t L p := by rw [← hρ, ju_ne (by decide)]; exact hk2
    have s6 : ρ 111 6 = skp t L p := by rw [← hρ, ju_at]; exact hk2
    have st : mTp t L ρ := by intro i z0 z1; rw [sF.1 112 (by decide)]; exact hT i z0 z1
    clear hρ hs hb hk e1 e2 hk2 ih0
    refine r_aload_n (dc dkX13_go 30 rfl) rfl (np 61 rfl ?_)
    have jj96 : ¬ tLg t L m p → jR 2 miX13_go (fun r τ => r = none ∧ mdS [5, 6, 7, 8, 9, 13] σ τ ∧ md t L m p τ) 96 [(0, .ref 111)] [] ρ := by
      intro hg
      refine r_aload_n (dc dkX13_go 48 rfl) rfl (np 97 rfl ?_)
      refine r_gI 5 (dc dkX13_go 49 rfl) flX13_111 fd_111_5 rfl (np 100 rfl ?_)
      refine r_aload_n (dc dkX13_go 50 rfl) rfl (np 101 rfl ?_)
      refine r_gI 3 (dc dkX13_go 51 rfl) flX13_109 fd_111_3 rfl (np 104 rfl ?_)
      refine r_icmp_lt (tgt := 113) (dc dkX13_go 52 rfl) rfl (by first | assumption | decide | omega) (by first | assumption | decide | omega) (fun h104 => ?_) (fun h104 => (np 107 rfl ?_))
      · skip
        have tb := st (skp t L p) (by omega) (by omega)
        refine r_aload_n (dc dkX13_go 57 rfl) rfl (np 114 rfl ?_)
        have jj204 : isAn (t (skp t L p)) → jR 2 miX13_go (fun r τ => r = none ∧ mdS [5, 6, 7, 8, 9, 13] σ τ ∧ md t L m p τ) 204 [(0, .ref 111), (1, vI (t (skp t L p)))] [] ρ := by
          intro hA
          refine r_iload_n (dc dkX13_go 105 rfl) rfl (np 205 rfl ?_)
          refine r_pS1 (y' := miX13_isLetter) (dc dkX13_go 106 rfl) mlX13_123 seX13_isLetter (Nat.le_of_ble_eq_true rfl) (Nat.le_of_ble_eq_true rfl) (c_X13_isLetter (by omega)) (np 208 rfl ?_)
          refine r_istore_n (lv' := [(2, _), (0, _), (1, _)]) (dc dkX13_go 107 rfl) (Nat.le_of_ble_eq_true rfl) rfl (np 209 rfl ?_)
          refine r_iconst (dc dkX13_go 108 rfl) (np 210 rfl ?_)
          refine r_istore_n (lv' := [(3, _), (2, _), (0, _), (1, _)]) (dc dkX13_go 109 rfl) (Nat.le_of_ble_eq_true rfl) rfl (np 211 rfl ?_)
          refine r_aload_n (dc dkX13_go 110 rfl) rfl (np 212 rfl ?_)
          refine r_lconst (dc dkX13_go 111 rfl) lc_0 (np 213 rfl ?_)
          refine r_pL 13 (dc dkX13_go 112 rfl) fpX13_133 fd_111_13 rfl (np 216 rfl ?_)
          refine r_aload_n (dc dkX13_go 113 rfl) rfl (np 217 rfl ?_)
          refine r_iconst (dc dkX13_go 114 rfl) (np 218 rfl ?_)
          refine r_pI 8 (dc dkX13_go 115 rfl) fpX13_137 fd_111_8 rfl (np 221 rfl ?_)
          refine r_pick [2, 1, 0] (lv' := [(0, _), (2, _), (3, _)]) rfl ?_
          refine jlp2 (P := fun (g : Int) (τ3 : jS) => jR _ _ _ 221 [(0, .ref 111), (2, vI (bI (isLt (t (skp t L p))))), (3, vI g)] [] τ3) (I := fun (g : Int) (τ3 : jS) => mdS [5, 6, 7, 8, 9, 13] ρ τ3 ∧ τ3 111 6 = skp t L p ∧ (skp t L p ≤ τ3 111 5 ∧ τ3 111 5 ≤ L) ∧ (g = 0 ∨ g = 1) ∧ (g = 1 ↔ ∀ j, 0 ≤ j → j < τ3 111 5 - skp t L p → (isLt (t (skp t L p + j)) ↔ isLt (t (skp t L p)))) ∧ rne t L (skp t L p) = rnF t (L - τ3 111 5).toNat (τ3 111 5) ∧ (g = 1 → isLt (t (skp t L p)) → τ3 111 5 - skp t L p ≤ 7 → τ3 111 13 = vW t (skp t L p) (τ3 111 5 - skp t L p)) ∧ (g = 1 → ¬ isLt (t (skp t L p)) → τ3 111 5 - skp t L p ≤ 3 → τ3 111 8 = vN t (skp t L p) (τ3 111 5 - skp t L p))) (fun (g : Int) (τ3 : jS) => (L - τ3 111 5).toNat) ?_ _ _ ⟨((mdS.refl _ _).put (by decide)).put (by decide), by rw [ju_ne (by decide), ju_ne (by decide)]; exact s6, by rw [ju_ne (by decide), ju_ne (by decide), s5]; omega, Or.inr rfl, ⟨fun _ j z0 z1 => by rw [ju_ne (by decide), ju_ne (by decide), s5] at z1; omega, fun _ => rfl⟩, by rw [ju_ne (by decide), ju_ne (by decide), s5]; rfl, fun _ _ _ => by rw [ju_ne (by decide), ju_at, ju_ne (by decide), ju_ne (by decide), s5, Int.sub_self]; rfl, fun _ _ _ => by rw [ju_at, ju_ne (by decide), ju_ne (by decide), s5, Int.sub_self]; rfl⟩
          intro g τ3 hI221 ih221
          obtain ⟨gs, g6, gb, g01, gg, gr, gw, gn⟩ := hI221
          have f3 : τ3 111 3 = L := by rw [gs.2 3 (by decide)]; exact s3
          have f1 : mTp t L τ3 := by intro i z0 z1; rw [gs.1 112 (by decide)]; exact st i z0 z1
          have f5 : skp t L p + (τ3 111 5 - skp t L p) = τ3 111 5 := by omega
          have f4 : τ3 111 4 = m := by rw [gs.2 4 (by decide)]; exact s4
          have f10 : τ3 111 10 = 0 := by rw [gs.2 10 (by decide)]; exact s10
          have ta := tA_c t L (τ3 111 5)
          have tab : 0 ≤ tA t L (τ3 111 5) ∧ tA t L (τ3 111 5) ≤ 255 := by
            rcases ta with z | z
            · have := f1 (τ3 111 5) (by omega) z.1
              omega
            · omega
          have jj249 : (τ3 111 5 < L ∧ isAn (t (τ3 111 5))) → jR 2 miX13_go (fun r τ => r = none ∧ mdS [5, 6, 7, 8, 9, 13] σ τ ∧ md t L m p τ) 249 [(0, .ref 111), (2, vI (bI (isLt (t (skp t L p))))), (3, vI g)] [] τ3 := by
            intro d5
            refine r_aload_n (dc dkX13_go 128 rfl) rfl (np 250 rfl ?_)
            refine r_getR (dc dkX13_go 129 rfl) flX13_7 fd_111_1 (np 253 rfl ?_)
            refine r_aload_n (dc dkX13_go 130 rfl) rfl (np 254 rfl ?_)
            refine r_gI 5 (dc dkX13_go 131 rfl) flX13_111 fd_111_5 rfl (np 257 rfl ?_)
            refine r_iald (dc dkX13_go 132 rfl) ar_112 (by omega) (np 258 rfl ?_)
            refine r_eqI (t (τ3 111 5)) (f1 _ (by omega) (by omega)).1 ?_
            have tb3 := f1 (τ3 111 5) (by omega) (by omega)
            refine r_istore (lv' := [(4, _), (0, _), (2, _), (3, _)]) (dc dkX13_go 133 rfl) (Nat.le_of_ble_eq_true rfl) rfl (np 260 rfl ?_)
            refine r_iload_n (dc dkX13_go 134 rfl) rfl (np 261 rfl ?_)
            refine r_if_eq (tgt := 277) (dc dkX13_go 135 rfl) rfl (by first | assumption | decide | omega) (fun h261 => ?_) (fun h261 => (np 264 rfl ?_))
            · skip
              refine r_iconst (dc dkX13_go 142 rfl) (np 278 rfl ?_)
              refine r_istore_n (lv' := [(3, _), (4, _), (0, _), (2, _)]) (dc dkX13_go 143 rfl) (Nat.le_of_ble_eq_true rfl) rfl (np 279 rfl ?_)
              refine r_aload_n (dc dkX13_go 144 rfl) rfl (np 280 rfl ?_)
              refine r_gI 5 (dc dkX13_go 145 rfl) flX13_111 fd_111_5 rfl (np 283 rfl ?_)
              refine r_aload_n (dc dkX13_go 146 rfl) rfl (np 284 rfl ?_)
              refine r_gI 6 (dc dkX13_go 147 rfl) flX13_114 fd_111_6 rfl (np 287 rfl ?_)
              refine r_isub (dc dkX13_go 148 rfl) (np 288 rfl ?_)
              refine r_bipush (dc dkX13_go 149 rfl) bp_7 (np 290 rfl ?_)
              refine r_icmp_ge (tgt := 313) (dc dkX13_go 150 rfl) rfl (by first | assumption | decide | omega) (by first | assumption | decide | omega) (fun h290 => ?_) (fun h290 => (np 293 rfl ?_))
              · skip
                refine r_abs (fun ρ2 => mdS [5, 6, 7, 8, 9, 13] τ3 ρ2 ∧ ρ2 111 5 = τ3 111 5 ∧ ρ2 111 6 = skp t L p ∧ (τ3 111 5 - skp t L p < 7 → ρ2 111 13 = 27 * τ3 111 13 + t (τ3 111 5) - 96) ∧ ρ2 111 8 = τ3 111 8) ?_ ?_
                · exact ⟨by first | exact (mdS.refl _ _).put (by decide) | exact mdS.refl _ _, rfl, g6, fun z => by first | omega | rfl, rfl⟩
                intro ρ2 hF
                obtain ⟨G1, G5, G6, Gw, Gn⟩ := hF
                refine r_aload_n (dc dkX13_go 162 rfl) rfl (np 314 rfl ?_)
                refine r_gI 5 (dc dkX13_go 163 rfl) flX13_111 fd_111_5 rfl (np 317 rfl ?_)
                refine r_aload_n (dc dkX13_go 164 rfl) rfl (np 318 rfl ?_)
                refine r_gI 6 (dc dkX13_go 165 rfl) flX13_114 fd_111_6 rfl (np 321 rfl ?_)
                refine r_isub (dc dkX13_go 166 rfl) (np 322 rfl ?_)
                refine r_iconst (dc dkX13_go 167 rfl) (np 323 rfl ?_)
                refine r_icmp_ge (tgt := 343) (dc dkX13_go 168 rfl) rfl (by first | assumption | decide | omega) (by first | assumption | decide | omega) (fun h323 => ?_) (fun h323 => (np 326 rfl ?_))
                · skip
                  refine r_abs (fun ρ3 => mdS [5, 6, 7, 8, 9, 13] τ3 ρ3 ∧ ρ3 111 5 = τ3 111 5 ∧ ρ3 111 6 = skp t L p ∧ (τ3 111 5 - skp t L p < 7 → ρ3 111 13 = 27 * τ3 111 13 + t (τ3 111 5) - 96) ∧ (τ3 111 5 - skp t L p < 3 → ρ3 111 8 = 10 * τ3 111 8 + t (τ3 111 5) - 48)) ?_ ?_
                  · exact ⟨by first | exact G1.put (by decide) | exact G1, G5, G6, Gw, fun z => by first | omega | (rw [ju_at, Gn])⟩
                  intro ρ3 hF
                  obtain ⟨F1, F5, F6, Fw, Fn⟩ := hF
                  refine r_aload_n (dc dkX13_go 179 rfl) rfl (np 344 rfl ?_)
                  refine r_dup (dc dkX13_go 180 rfl) rfl (np 345 rfl ?_)
                  refine r_gI 5 (dc dkX13_go 181 rfl) flX13_111 fd_111_5 rfl (np 348 rfl ?_)
                  refine r_iconst (dc dkX13_go 182 rfl) (np 349 rfl ?_)
                  refine r_iadd (dc dkX13_go 183 rfl) (np 350 rfl ?_)
                  refine r_pI 5 (dc dkX13_go 184 rfl) fpX13_111 fd_111_5 rfl (np 353 rfl ?_)
                  refine r_goto (tgt := 221) (dc dkX13_go 185 rfl) rfl ?_
                  refine r_pick [2, 3, 0] rfl ?_
                  exact ih221 _ _ (by
                    have E5 : ju ρ3 111 5 (ρ3 111 5 + 1) 111 5 = τ3 111 5 + 1 := by rw [ju_at, F5]
                    have E6 : τ3 111 5 + 1 - skp t L p = (τ3 111 5 - skp t L p) + 1 := by omega
                    first
                    | (have hg1 : g = 1 := by omega
                       have h27 := bI_inj.mp h270
                       refine ⟨(gs.tr F1).put (by decide), by rw [ju_ne (by decide)]; exact F6, by rw [E5]; omega, Or.inr rfl, ⟨fun _ j z0 z1 => ?_, fun _ => rfl⟩, by rw [E5, gr, rnF_y d5.1 d5.2], fun _ z1 z2 => ?_, fun _ z1 z2 => ?_⟩
                       · rw [E5] at z1
                         rcases (show j < τ3 111 5 - skp t L p ∨ j = τ3 111 5 - skp t L p by omega) with w | w
                         · exact gg.mp hg1 j z0 w
                         · subst w; rw [f5]; exact h27
                       · rw [E5] at z2 ⊢
                         rw [ju_ne (by decide), Fw (by omega), E6, vW_y (by omega) (by rw [f5]; exact h27.mpr z1), f5, gw hg1 z1 (by omega)]; omega
                       · rw [E5] at z2 ⊢
                         rw [ju_ne (by decide), Fn (by omega), E6, vN_y (by omega) (by rw [f5]; exact fun z => z1 (h27.mp z)), f5, gn hg1 z1 (by omega)]; omega)
                    | (refine ⟨(gs.tr F1).put (by decide), by rw [ju_ne (by decide)]; exact F6, by rw [E5]; omega, Or.inl rfl, ⟨fun z => absurd z (by decide), fun z => ?_⟩, by rw [E5, gr, rnF_y d5.1 d5.2], fun z => absurd z (by decide), fun z => absurd z (by decide)⟩
                       exfalso
                       have hg := gg.mpr (fun j z0 z1 => z j z0 (by rw [E5]; omega))
                       have last := z (τ3 111 5 - skp t L p) (by omega) (by rw [E5]; omega)
                       rw [f5] at last
                       first | omega | exact h270 (bI_inj.mpr last))) (by rw [ju_at, F5]; omega)
                refine r_aload_n (dc dkX13_go 169 rfl) rfl (np 327 rfl ?_)
                refine r_bipush (dc dkX13_go 170 rfl) bp_10 (np 329 rfl ?_)
                refine r_aload_n (dc dkX13_go 171 rfl) rfl (np 330 rfl ?_)
                refine r_gI 8 (dc dkX13_go 172 rfl) flX13_137 fd_111_8 rfl (np 333 rfl ?_)
                refine r_imul (dc dkX13_go 173 rfl) (np 334 rfl ?_)
                refine r_iload (dc dkX13_go 174 rfl) rfl (np 336 rfl ?_)
                refine r_iadd (dc dkX13_go 175 rfl) (np 337 rfl ?_)
                refine r_bipush (dc dkX13_go 176 rfl) bp_48 (np 339 rfl ?_)
                refine r_isub (dc dkX13_go 177 rfl) (np 340 rfl ?_)
                refine r_pI 8 (dc dkX13_go 178 rfl) fpX13_137 fd_111_8 rfl (np 343 rfl ?_)
                refine r_abs (fun ρ3 => mdS [5, 6, 7, 8, 9, 13] τ3 ρ3 ∧ ρ3 111 5 = τ3 111 5 ∧ ρ3 111 6 = skp t L p ∧ (τ3 111 5 - skp t L p < 7 → ρ3 111 13 = 27 * τ3 111 13 + t (τ3 111 5) - 96) ∧ (τ3 111 5 - skp t L p < 3 → ρ3 111 8 = 10 * τ3 111 8 + t (τ3 111 5) - 48)) ?_ ?_
                · exact ⟨by first | exact G1.put (by decide) | exact G1, G5, G6, Gw, fun z => by first | omega | (rw [ju_at, Gn])⟩
                intro ρ3 hF
                obtain ⟨F1, F5, F6, Fw, Fn⟩ := hF
                refine r_aload_n (dc dkX13_go 179 rfl) rfl (np 344 rfl ?_)
                refine r_dup (dc dkX13_go 180 rfl) rfl (np 345 rfl ?_)
                refine r_gI 5 (dc dkX13_go 181 rfl) flX13_111 fd_111_5 rfl (np 348 rfl ?_)
                refine r_iconst (dc dkX13_go 182 rfl) (np 349 rfl ?_)
                refine r_iadd (dc dkX13_go 183 rfl) (np 350 rfl ?_)
                refine r_pI 5 (dc dkX13_go 184 rfl) fpX13_111 fd_111_5 rfl (np 353 rfl ?_)
                refine r_goto (tgt := 221) (dc dkX13_go 185 rfl) rfl ?_
                refine r_pick [2, 3, 0] rfl ?_
                exact ih221 _ _ (by
                  have E5 : ju ρ3 111 5 (ρ3 111 5 + 1) 111 5 = τ3 111 5 + 1 := by rw [ju_at, F5]
                  have E6 : τ3 111 5 + 1 - skp t L p = (τ3 111 5 - skp t L p) + 1 := by omega
                  first
                  | (have hg1 : g = 1 := by omega
                     have h27 := bI_inj.mp h270
                     refine ⟨(gs.tr F1).put (by decide), by rw [ju_ne (by decide)]; exact F6, by rw [E5]; omega, Or.inr rfl, ⟨fun _ j z0 z1 => ?_, fun _ => rfl⟩, by rw [E5, gr, rnF_y d5.1 d5.2], fun _ z1 z2 => ?_, fun _ z1 z2 => ?_⟩
                     · rw [E5] at z1
                       rcases (show j < τ3 111 5 - skp t L p ∨ j = τ3 111 5 - skp t L p by omega) with w | w
                       · exact gg.mp hg1 j z0 w
                       · subst w; rw [f5]; exact h27
                     · rw [E5] at z2 ⊢
                       rw [ju_ne (by decide), Fw (by omega), E6, vW_y (by omega) (by rw [f5]; exact h27.mpr z1), f5, gw hg1 z1 (by omega)]; omega
                     · rw [E5] at z2 ⊢
                       rw [ju_ne (by decide), Fn (by omega), E6, vN_y (by omega) (by rw [f5]; exact fun z => z1 (h27.mp z)), f5, gn hg1 z1 (by omega)]; omega)
                  | (refine ⟨(gs.tr F1).put (by decide), by rw [ju_ne (by decide)]; exact F6, by rw [E5]; omega, Or.inl rfl, ⟨fun z => absurd z (by decide), fun z => ?_⟩, by rw [E5, gr, rnF_y d5.1 d5.2], fun z => absurd z (by decide), fun z => absurd z (by decide)⟩
                     exfalso
                     have hg := gg.mpr (fun j z0 z1 => z j z0 (by rw [E5]; omega))
                     have last := z (τ3 111 5 - skp t L p) (by omega) (by rw [E5]; omega)
                     rw [f5] at last
                     first | omega | exact h270 (bI_inj.mpr last))) (by rw [ju_at, F5]; omega)
              refine r_aload_n (dc dkX13_go 151 rfl) rfl (np 294 rfl ?_)
              refine r_ldc2 (z := 27) (dc dkX13_go 152 rfl) ckX13_143 (by decide) (np 297 rfl ?_)
              refine r_aload_n (dc dkX13_go 153 rfl) rfl (np 298 rfl ?_)
              refine r_gL 13 (dc dkX13_go 154 rfl) flX13_133 fd_111_13 rfl (np 301 rfl ?_)
              refine r_lmul (dc dkX13_go 155 rfl) (np 302 rfl ?_)
              refine r_iload (dc dkX13_go 156 rfl) rfl (np 304 rfl ?_)
              refine r_i2l (dc dkX13_go 157 rfl) (by first | assumption | decide | omega) (np 305 rfl ?_)
              refine r_ladd (dc dkX13_go 158 rfl) (np 306 rfl ?_)
              refine r_ldc2 (z := 96) (dc dkX13_go 159 rfl) ckX13_145 (by decide) (np 309 rfl ?_)
              refine r_lsub (dc dkX13_go 160 rfl) (np 310 rfl ?_)
              refine r_pL 13 (dc dkX13_go 161 rfl) fpX13_133 fd_111_13 rfl (np 313 rfl ?_)
              refine r_abs (fun ρ2 => mdS [5, 6, 7, 8, 9, 13] τ3 ρ2 ∧ ρ2 111 5 = τ3 111 5 ∧ ρ2 111 6 = skp t L p ∧ (τ3 111 5 - skp t L p < 7 → ρ2 111 13 = 27 * τ3 111 13 + t (τ3 111 5) - 96) ∧ ρ2 111 8 = τ3 111 8) ?_ ?_
              · exact ⟨by first | exact (mdS.refl _ _).put (by decide) | exact mdS.refl _ _, rfl, g6, fun z => by first | omega | rfl, rfl⟩
              intro ρ2 hF
              obtain ⟨G1, G5, G6, Gw, Gn⟩ := hF
              refine r_aload_n (dc dkX13_go 162 rfl) rfl (np 314 rfl ?_)
              refine r_gI 5 (dc dkX13_go 163 rfl) flX13_111 fd_111_5 rfl (np 317 rfl ?_)
              refine r_aload_n (dc dkX13_go 164 rfl) rfl (np 318 rfl ?_)
              refine r_gI 6 (dc dkX13_go 165 rfl) flX13_114 fd_111_6 rfl (np 321 rfl ?_)
              refine r_isub (dc dkX13_go 166 rfl) (np 322 rfl ?_)
              refine r_iconst (dc dkX13_go 167 rfl) (np 323 rfl ?_)
              refine r_icmp_ge (tgt := 343) (dc dkX13_go 168 rfl) rfl (by first | assumption | decide | omega) (by first | assumption | decide | omega) (fun h323 => ?_) (fun h323 => (np 326 rfl ?_))
              · skip
                refine r_abs (fun ρ3 => mdS [5, 6, 7, 8, 9, 13] τ3 ρ3 ∧ ρ3 111 5 = τ3 111 5 ∧ ρ3 111 6 = skp t L p ∧ (τ3 111 5 - skp t L p < 7 → ρ3 111 13 = 27 * τ3 111 13 + t (τ3 111 5) - 96) ∧ (τ3 111 5 - skp t L p < 3 → ρ3 111 8 = 10 * τ3 111 8 + t (τ3 111 5) - 48)) ?_ ?_
                · exact ⟨by first | exact G1.put (by decide) | exact G1, G5, G6, Gw, fun z => by first | omega | (rw [ju_at, Gn])⟩
                intro ρ3 hF
                obtain ⟨F1, F5, F6, Fw, Fn⟩ := hF
                refine r_aload_n (dc dkX13_go 179 rfl) rfl (np 344 rfl ?_)
                refine r_dup (dc dkX13_go 180 rfl) rfl (np 345 rfl ?_)
                refine r_gI 5 (dc dkX13_go 181 rfl) flX13_111 fd_111_5 rfl (np 348 rfl ?_)
                refine r_iconst (dc dkX13_go 182 rfl) (np 349 rfl ?_)
                refine r_iadd (dc dkX13_go 183 rfl) (np 350 rfl ?_)
                refine r_pI 5 (dc dkX13_go 184 rfl) fpX13_111 fd_111_5 rfl (np 353 rfl ?_)
                refine r_goto (tgt := 221) (dc dkX13_go 185 rfl) rfl ?_
                refine r_pick [2, 3, 0] rfl ?_
                exact ih221 _ _ (by
                  have E5 : ju ρ3 111 5 (ρ3 111 5 + 1) 111 5 = τ3 111 5 + 1 := by rw [ju_at, F5]
                  have E6 : τ3 111 5 + 1 - skp t L p = (τ3 111 5 - skp t L p) + 1 := by omega
                  first
                  | (have hg1 : g = 1 := by omega
                     have h27 := bI_inj.mp h270
                     refine ⟨(gs.tr F1).put (by decide), by rw [ju_ne (by decide)]; exact F6, by rw [E5]; omega, Or.inr rfl, ⟨fun _ j z0 z1 => ?_, fun _ => rfl⟩, by rw [E5, gr, rnF_y d5.1 d5.2], fun _ z1 z2 => ?_, fun _ z1 z2 => ?_⟩
                     · rw [E5] at z1
                       rcases (show j < τ3 111 5 - skp t L p ∨ j = τ3 111 5 - skp t L p by omega) with w | w
                       · exact gg.mp hg1 j z0 w
                       · subst w; rw [f5]; exact h27
                     · rw [E5] at z2 ⊢
                       rw [ju_ne (by decide), Fw (by omega), E6, vW_y (by omega) (by rw [f5]; exact h27.mpr z1), f5, gw hg1 z1 (by omega)]; omega
                     · rw [E5] at z2 ⊢
                       rw [ju_ne (by decide), Fn (by omega), E6, vN_y (by omega) (by rw [f5]; exact fun z => z1 (h27.mp z)), f5, gn hg1 z1 (by omega)]; omega)
                  | (refine ⟨(gs.tr F1).put (by decide), by rw [ju_ne (by decide)]; exact F6, by rw [E5]; omega, Or.inl rfl, ⟨fun z => absurd z (by decide), fun z => ?_⟩, by rw [E5, gr, rnF_y d5.1 d5.2], fun z => absurd z (by decide), fun z => absurd z (by decide)⟩
                     exfalso
                     have hg := gg.mpr (fun j z0 z1 => z j z0 (by rw [E5]; omega))
                     have last := z (τ3 111 5 - skp t L p) (by omega) (by rw [E5]; omega)
                     rw [f5] at last
                     first | omega | exact h270 (bI_inj.mpr last))) (by rw [ju_at, F5]; omega)
              refine r_aload_n (dc dkX13_go 169 rfl) rfl (np 327 rfl ?_)
              refine r_bipush (dc dkX13_go 170 rfl) bp_10 (np 329 rfl ?_)
              refine r_aload_n (dc dkX13_go 171 rfl) rfl (np 330 rfl ?_)
              refine r_gI 8 (dc dkX13_go 172 rfl) flX13_137 fd_111_8 rfl (np 333 rfl ?_)
              refine r_imul (dc dkX13_go 173 rfl) (np 334 rfl ?_)
              refine r_iload (dc dkX13_go 174 rfl) rfl (np 336 rfl ?_)
              refine r_iadd (dc dkX13_go 175 rfl) (np 337 rfl ?_)
              refine r_bipush (dc dkX13_go 176 rfl) bp_48 (np 339 rfl ?_)
              refine r_isub (dc dkX13_go 177 rfl) (np 340 rfl ?_)
              refine r_pI 8 (dc dkX13_go 178 rfl) fpX13_137 fd_111_8 rfl (np 343 rfl ?_)
              refine r_abs (fun ρ3 => mdS [5, 6, 7, 8, 9, 13] τ3 ρ3 ∧ ρ3 111 5 = τ3 111 5 ∧ ρ3 111 6 = skp t L p ∧ (τ3 111 5 - skp t L p < 7 → ρ3 111 13 = 27 * τ3 111 13 + t (τ3 111 5) - 96) ∧ (τ3 111 5 - skp t L p < 3 → ρ3 111 8 = 10 * τ3 111 8 + t (τ3 111 5) - 48)) ?_ ?_
              · exact ⟨by first | exact G1.put (by decide) | exact G1, G5, G6, Gw, fun z => by first | omega | (rw [ju_at, Gn])⟩
              intro ρ3 hF
              obtain ⟨F1, F5, F6, Fw, Fn⟩ := hF
              refine r_aload_n (dc dkX13_go 179 rfl) rfl (np 344 rfl ?_)
              refine r_dup (dc dkX13_go 180 rfl) rfl (np 345 rfl ?_)
              refine r_gI 5 (dc dkX13_go 181 rfl) flX13_111 fd_111_5 rfl (np 348 rfl ?_)
              refine r_iconst (dc dkX13_go 182 rfl) (np 349 rfl ?_)
              refine r_iadd (dc dkX13_go 183 rfl) (np 350 rfl ?_)
              refine r_pI 5 (dc dkX13_go 184 rfl) fpX13_111 fd_111_5 rfl (np 353 rfl ?_)
              refine r_goto (tgt := 221) (dc dkX13_go 185 rfl) rfl ?_
              refine r_pick [2, 3, 0] rfl ?_
              exact ih221 _ _ (by
                have E5 : ju ρ3 111 5 (ρ3 111 5 + 1) 111 5 = τ3 111 5 + 1 := by rw [ju_at, F5]
                have E6 : τ3 111 5 + 1 - skp t L p = (τ3 111 5 - skp t L p) + 1 := by omega
                first
                | (have hg1 : g = 1 := by omega
                   have h27 := bI_inj.mp h270
                   refine ⟨(gs.tr F1).put (by decide), by rw [ju_ne (by decide)]; exact F6, by rw [E5]; omega, Or.inr rfl, ⟨fun _ j z0 z1 => ?_, fun _ => rfl⟩, by rw [E5, gr, rnF_y d5.1 d5.2], fun _ z1 z2 => ?_, fun _ z1 z2 => ?_⟩
                   · rw [E5] at z1
                     rcases (show j < τ3 111 5 - skp t L p ∨ j = τ3 111 5 - skp t L p by omega) with w | w
                     · exact gg.mp hg1 j z0 w
                     · subst w; rw [f5]; exact h27
                   · rw [E5] at z2 ⊢
                     rw [ju_ne (by decide), Fw (by omega), E6, vW_y (by omega) (by rw [f5]; exact h27.mpr z1), f5, gw hg1 z1 (by omega)]; omega
                   · rw [E5] at z2 ⊢
                     rw [ju_ne (by decide), Fn (by omega), E6, vN_y (by omega) (by rw [f5]; exact fun z => z1 (h27.mp z)), f5, gn hg1 z1 (by omega)]; omega)
                | (refine ⟨(gs.tr F1).put (by decide), by rw [ju_ne (by decide)]; exact F6, by rw [E5]; omega, Or.inl rfl, ⟨fun z => absurd z (by decide), fun z => ?_⟩, by rw [E5, gr, rnF_y d5.1 d5.2], fun z => absurd z (by decide), fun z => absurd z (by decide)⟩
                   exfalso
                   have hg := gg.mpr (fun j z0 z1 => z j z0 (by rw [E5]; omega))
                   have last := z (τ3 111 5 - skp t L p) (by omega) (by rw [E5]; omega)
                   rw [f5] at last
                   first | omega | exact h270 (bI_inj.mpr last))) (by rw [ju_at, F5]; omega)
            refine r_iload (dc dkX13_go 136 rfl) rfl (np 266 rfl ?_)
            refine r_pS1 (y' := miX13_isLetter) (dc dkX13_go 137 rfl) mlX13_123 seX13_isLetter (Nat.le_of_ble_eq_true rfl) (Nat.le_of_ble_eq_true rfl) (c_X13_isLetter (by omega)) (np 269 rfl ?_)
            refine r_iload_n (dc dkX13_go 138 rfl) rfl (np 270 rfl ?_)
            refine r_icmp_ne (tgt := 277) (dc dkX13_go 139 rfl) rfl (bI_R _) (bI_R _) (fun h270 => ?_) (fun h270 => (np 273 rfl ?_))
            · skip
              refine r_iconst (dc dkX13_go 142 rfl) (np 278 rfl ?_)
              refine r_istore_n (lv' := [(3, _), (4, _), (0, _), (2, _)]) (dc dkX13_go 143 rfl) (Nat.le_of_ble_eq_true rfl) rfl (np 279 rfl ?_)
              refine r_aload_n (dc dkX13_go 144 rfl) rfl (np 280 rfl ?_)
              refine r_gI 5 (dc dkX13_go 145 rfl) flX13_111 fd_111_5 rfl (np 283 rfl ?_)
              refine r_aload_n (dc dkX13_go 146 rfl) rfl (np 284 rfl ?_)
              refine r_gI 6 (dc dkX13_go 147 rfl) flX13_114 fd_111_6 rfl (np 287 rfl ?_)
              refine r_isub (dc dkX13_go 148 rfl) (np 288 rfl ?_)
              refine r_bipush (dc dkX13_go 149 rfl) bp_7 (np 290 rfl ?_)
              refine r_icmp_ge (tgt := 313) (dc dkX13_go 150 rfl) rfl (by first | assumption | decide | omega) (by first | assumption | decide | omega) (fun h290 => ?_) (fun h290 => (np 293 rfl ?_))
              · skip
                refine r_abs (fun ρ2 => mdS [5, 6, 7, 8, 9, 13] τ3 ρ2 ∧ ρ2 111 5 = τ3 111 5 ∧ ρ2 111 6 = skp t L p ∧ (τ3 111 5 - skp t L p < 7 → ρ2 111 13 = 27 * τ3 111 13 + t (τ3 111 5) - 96) ∧ ρ2 111 8 = τ3 111 8) ?_ ?_
                · exact ⟨by first | exact (mdS.refl _ _).put (by decide) | exact mdS.refl _ _, rfl, g6, fun z => by first | omega | rfl, rfl⟩
                intro ρ2 hF
                obtain ⟨G1, G5, G6, Gw, Gn⟩ := hF
                refine r_aload_n (dc dkX13_go 162 rfl) rfl (np 314 rfl ?_)
                refine r_gI 5 (dc dkX13_go 163 rfl) flX13_111 fd_111_5 rfl (np 317 rfl ?_)
                refine r_aload_n (dc dkX13_go 164 rfl) rfl (np 318 rfl ?_)
                refine r_gI 6 (dc dkX13_go 165 rfl) flX13_114 fd_111_6 rfl (np 321 rfl ?_)
                refine r_isub (dc dkX13_go 166 rfl) (np 322 rfl ?_)
                refine r_iconst (dc dkX13_go 167 rfl) (np 323 rfl ?_)
                refine r_icmp_ge (tgt := 343) (dc dkX13_go 168 rfl) rfl (by first | assumption | decide | omega) (by first | assumption | decide | omega) (fun h323 => ?_) (fun h323 => (np 326 rfl ?_))
                · skip
                  refine r_abs (fun ρ3 => mdS [5, 6, 7, 8, 9, 13] τ3 ρ3 ∧ ρ3 111 5 = τ3 111 5 ∧ ρ3 111 6 = skp t L p ∧ (τ3 111 5 - skp t L p < 7 → ρ3 111 13 = 27 * τ3 111 13 + t (τ3 111 5) - 96) ∧ (τ3 111 5 - skp t L p < 3 → ρ3 111 8 = 10 * τ3 111 8 + t (τ3 111 5) - 48)) ?_ ?_
                  · exact ⟨by first | exact G1.put (by decide) | exact G1, G5, G6, Gw, fun z => by first | omega | (rw [ju_at, Gn])⟩
                  intro ρ3 hF
                  obtain ⟨F1, F5, F6, Fw, Fn⟩ := hF
                  refine r_aload_n (dc dkX13_go 179 rfl) rfl (np 344 rfl ?_)
                  refine r_dup (dc dkX13_go 180 rfl) rfl (np 345 rfl ?_)
                  refine r_gI 5 (dc dkX13_go 181 rfl) flX13_111 fd_111_5 rfl (np 348 rfl ?_)
                  refine r_iconst (dc dkX13_go 182 rfl) (np 349 rfl ?_)
                  refine r_iadd (dc dkX13_go 183 rfl) (np 350 rfl ?_)
                  refine r_pI 5 (dc dkX13_go 184 rfl) fpX13_111 fd_111_5 rfl (np 353 rfl ?_)
                  refine r_goto (tgt := 221) (dc dkX13_go 185 rfl) rfl ?_
                  refine r_pick [2, 3, 0] rfl ?_
                  exact ih221 _ _ (by
                    have E5 : ju ρ3 111 5 (ρ3 111 5 + 1) 111 5 = τ3 111 5 + 1 := by rw [ju_at, F5]
                    have E6 : τ3 111 5 + 1 - skp t L p = (τ3 111 5 - skp t L p) + 1 := by omega
                    first
                    | (have hg1 : g = 1 := by omega
                       have h27 := bI_inj.mp h270
                       refine ⟨(gs.tr F1).put (by decide), by rw [ju_ne (by decide)]; exact F6, by rw [E5]; omega, Or.inr rfl, ⟨fun _ j z0 z1 => ?_, fun _ => rfl⟩, by rw [E5, gr, rnF_y d5.1 d5.2], fun _ z1 z2 => ?_, fun _ z1 z2 => ?_⟩
                       · rw [E5] at z1
                         rcases (show j < τ3 111 5 - skp t L p ∨ j = τ3 111 5 - skp t L p by omega) with w | w
                         · exact gg.mp hg1 j z0 w
                         · subst w; rw [f5]; exact h27
                       · rw [E5] at z2 ⊢
                         rw [ju_ne (by decide), Fw (by omega), E6, vW_y (by omega) (by rw [f5]; exact h27.mpr z1), f5, gw hg1 z1 (by omega)]; omega
                       · rw [E5] at z2 ⊢
                         rw [ju_ne (by decide), Fn (by omega), E6, vN_y (by omega) (by rw [f5]; exact fun z => z1 (h27.mp z)), f5, gn hg1 z1 (by omega)]; omega)
                    | (refine ⟨(gs.tr F1).put (by decide), by rw [ju_ne (by decide)]; exact F6, by rw [E5]; omega, Or.inl rfl, ⟨fun z => absurd z (by decide), fun z => ?_⟩, by rw [E5, gr, rnF_y d5.1 d5.2], fun z => absurd z (by decide), fun z => absurd z (by decide)⟩
                       exfalso
                       have hg := gg.mpr (fun j z0 z1 => z j z0 (by rw [E5]; omega))
                       have last := z (τ3 111 5 - skp t L p) (by omega) (by rw [E5]; omega)
                       rw [f5] at last
                       first | omega | exact h270 (bI_inj.mpr last))) (by rw [ju_at, F5]; omega)
                refine r_aload_n (dc dkX13_go 169 rfl) rfl (np 327 rfl ?_)
                refine r_bipush (dc dkX13_go 170 rfl) bp_10 (np 329 rfl ?_)
                refine r_aload_n (dc dkX13_go 171 rfl) rfl (np 330 rfl ?_)
                refine r_gI 8 (dc dkX13_go 172 rfl) flX13_137 fd_111_8 rfl (np 333 rfl ?_)
                refine r_imul (dc dkX13_go 173 rfl) (np 334 rfl ?_)
                refine r_iload (dc dkX13_go 174 rfl) rfl (np 336 rfl ?_)
                refine r_iadd (dc dkX13_go 175 rfl) (np 337 rfl ?_)
                refine r_bipush (dc dkX13_go 176 rfl) bp_48 (np 339 rfl ?_)
                refine r_isub (dc dkX13_go 177 rfl) (np 340 rfl ?_)
                refine r_pI 8 (dc dkX13_go 178 rfl) fpX13_137 fd_111_8 rfl (np 343 rfl ?_)
                refine r_abs (fun ρ3 => mdS [5, 6, 7, 8, 9, 13] τ3 ρ3 ∧ ρ3 111 5 = τ3 111 5 ∧ ρ3 111 6 = skp t L p ∧ (τ3 111 5 - skp t L p < 7 → ρ3 111 13 = 27 * τ3 111 13 + t (τ3 111 5) - 96) ∧ (τ3 111 5 - skp t L p < 3 → ρ3 111 8 = 10 * τ3 111 8 + t (τ3 111 5) - 48)) ?_ ?_
                · exact ⟨by first | exact G1.put (by decide) | exact G1, G5, G6, Gw, fun z => by first | omega | (rw [ju_at, Gn])⟩
                intro ρ3 hF
                obtain ⟨F1, F5, F6, Fw, Fn⟩ := hF
                refine r_aload_n (dc dkX13_go 179 rfl) rfl (np 344 rfl ?_)
                refine r_dup (dc dkX13_go 180 rfl) rfl (np 345 rfl ?_)
                refine r_gI 5 (dc dkX13_go 181 rfl) flX13_111 fd_111_5 rfl (np 348 rfl ?_)
                refine r_iconst (dc dkX13_go 182 rfl) (np 349 rfl ?_)
                refine r_iadd (dc dkX13_go 183 rfl) (np 350 rfl ?_)
                refine r_pI 5 (dc dkX13_go 184 rfl) fpX13_111 fd_111_5 rfl (np 353 rfl ?_)
                refine r_goto (tgt := 221) (dc dkX13_go 185 rfl) rfl ?_
                refine r_pick [2, 3, 0] rfl ?_
                exact ih221 _ _ (by
                  have E5 : ju ρ3 111 5 (ρ3 111 5 + 1) 111 5 = τ3 111 5 + 1 := by rw [ju_at, F5]
                  have E6 : τ3 111 5 + 1 - skp t L p = (τ3 111 5 - skp t L p) + 1 := by omega
                  first
                  | (have hg1 : g = 1 := by omega
                     have h27 := bI_inj.mp h270
                     refine ⟨(gs.tr F1).put (by decide), by rw [ju_ne (by decide)]; exact F6, by rw [E5]; omega, Or.inr rfl, ⟨fun _ j z0 z1 => ?_, fun _ => rfl⟩, by rw [E5, gr, rnF_y d5.1 d5.2], fun _ z1 z2 => ?_, fun _ z1 z2 => ?_⟩
                     · rw [E5] at z1
                       rcases (show j < τ3 111 5 - skp t L p ∨ j = τ3 111 5 - skp t L p by omega) with w | w
                       · exact gg.mp hg1 j z0 w
                       · subst w; rw [f5]; exact h27
                     · rw [E5] at z2 ⊢
                       rw [ju_ne (by decide), Fw (by omega), E6, vW_y (by omega) (by rw [f5]; exact h27.mpr z1), f5, gw hg1 z1 (by omega)]; omega
                     · rw [E5] at z2 ⊢
                       rw [ju_ne (by decide), Fn (by omega), E6, vN_y (by omega) (by rw [f5]; exact fun z => z1 (h27.mp z)), f5, gn hg1 z1 (by omega)]; omega)
                  | (refine ⟨(gs.tr F1).put (by decide), by rw [ju_ne (by decide)]; exact F6, by rw [E5]; omega, Or.inl rfl, ⟨fun z => absurd z (by decide), fun z => ?_⟩, by rw [E5, gr, rnF_y d5.1 d5.2], fun z => absurd z (by decide), fun z => absurd z (by decide)⟩
                     exfalso
                     have hg := gg.mpr (fun j z0 z1 => z j z0 (by rw [E5]; omega))
                     have last := z (τ3 111 5 - skp t L p) (by omega) (by rw [E5]; omega)
                     rw [f5] at last
                     first | omega | exact h270 (bI_inj.mpr last))) (by rw [ju_at, F5]; omega)
              refine r_aload_n (dc dkX13_go 151 rfl) rfl (np 294 rfl ?_)
              refine r_ldc2 (z := 27) (dc dkX13_go 152 rfl) ckX13_143 (by decide) (np 297 rfl ?_)
              refine r_aload_n (dc dkX13_go 153 rfl) rfl (np 298 rfl ?_)
              refine r_gL 13 (dc dkX13_go 154 rfl) flX13_133 fd_111_13 rfl (np 301 rfl ?_)
              refine r_lmul (dc dkX13_go 155 rfl) (np 302 rfl ?_)
              refine r_iload (dc dkX13_go 156 rfl) rfl (np 304 rfl ?_)
              refine r_i2l (dc dkX13_go 157 rfl) (by first | assumption | decide | omega) (np 305 rfl ?_)
              refine r_ladd (dc dkX13_go 158 rfl) (np 306 rfl ?_)
              refine r_ldc2 (z := 96) (dc dkX13_go 159 rfl) ckX13_145 (by decide) (np 309 rfl ?_)
              refine r_lsub (dc dkX13_go 160 rfl) (np 310 rfl ?_)
              refine r_pL 13 (dc dkX13_go 161 rfl) fpX13_133 fd_111_13 rfl (np 313 rfl ?_)
              refine r_abs (fun ρ2 => mdS [5, 6, 7, 8, 9, 13] τ3 ρ2 ∧ ρ2 111 5 = τ3 111 5 ∧ ρ2 111 6 = skp t L p ∧ (τ3 111 5 - skp t L p < 7 → ρ2 111 13 = 27 * τ3 111 13 + t (τ3 111 5) - 96) ∧ ρ2 111 8 = τ3 111 8) ?_ ?_
              · exact ⟨by first | exact (mdS.refl _ _).put (by decide) | exact mdS.refl _ _, rfl, g6, fun z => by first | omega | rfl, rfl⟩
              intro ρ2 hF
              obtain ⟨G1, G5, G6, Gw, Gn⟩ := hF
              refine r_aload_n (dc dkX13_go 162 rfl) rfl (np 314 rfl ?_)
              refine r_gI 5 (dc dkX13_go 163 rfl) flX13_111 fd_111_5 rfl (np 317 rfl ?_)
              refine r_aload_n (dc dkX13_go 164 rfl) rfl (np 318 rfl ?_)
              refine r_gI 6 (dc dkX13_go 165 rfl) flX13_114 fd_111_6 rfl (np 321 rfl ?_)
              refine r_isub (dc dkX13_go 166 rfl) (np 322 rfl ?_)
              refine r_iconst (dc dkX13_go 167 rfl) (np 323 rfl ?_)
              refine r_icmp_ge (tgt := 343) (dc dkX13_go 168 rfl) rfl (by first | assumption | decide | omega) (by first | assumption | decide | omega) (fun h323 => ?_) (fun h323 => (np 326 rfl ?_))
              · skip
                refine r_abs (fun ρ3 => mdS [5, 6, 7, 8, 9, 13] τ3 ρ3 ∧ ρ3 111 5 = τ3 111 5 ∧ ρ3 111 6 = skp t L p ∧ (τ3 111 5 - skp t L p < 7 → ρ3 111 13 = 27 * τ3 111 13 + t (τ3 111 5) - 96) ∧ (τ3 111 5 - skp t L p < 3 → ρ3 111 8 = 10 * τ3 111 8 + t (τ3 111 5) - 48)) ?_ ?_
                · exact ⟨by first | exact G1.put (by decide) | exact G1, G5, G6, Gw, fun z => by first | omega | (rw [ju_at, Gn])⟩
                intro ρ3 hF
                obtain ⟨F1, F5, F6, Fw, Fn⟩ := hF
                refine r_aload_n (dc dkX13_go 179 rfl) rfl (np 344 rfl ?_)
                refine r_dup (dc dkX13_go 180 rfl) rfl (np 345 rfl ?_)
                refine r_gI 5 (dc dkX13_go 181 rfl) flX13_111 fd_111_5 rfl (np 348 rfl ?_)
                refine r_iconst (dc dkX13_go 182 rfl) (np 349 rfl ?_)
                refine r_iadd (dc dkX13_go 183 rfl) (np 350 rfl ?_)
                refine r_pI 5 (dc dkX13_go 184 rfl) fpX13_111 fd_111_5 rfl (np 353 rfl ?_)
                refine r_goto (tgt := 221) (dc dkX13_go 185 rfl) rfl ?_
                refine r_pick [2, 3, 0] rfl ?_
                exact ih221 _ _ (by
                  have E5 : ju ρ3 111 5 (ρ3 111 5 + 1) 111 5 = τ3 111 5 + 1 := by rw [ju_at, F5]
                  have E6 : τ3 111 5 + 1 - skp t L p = (τ3 111 5 - skp t L p) + 1 := by omega
                  first
                  | (have hg1 : g = 1 := by omega
                     have h27 := bI_inj.mp h270
                     refine ⟨(gs.tr F1).put (by decide), by rw [ju_ne (by decide)]; exact F6, by rw [E5]; omega, Or.inr rfl, ⟨fun _ j z0 z1 => ?_, fun _ => rfl⟩, by rw [E5, gr, rnF_y d5.1 d5.2], fun _ z1 z2 => ?_, fun _ z1 z2 => ?_⟩
                     · rw [E5] at z1
                       rcases (show j < τ3 111 5 - skp t L p ∨ j = τ3 111 5 - skp t L p by omega) with w | w
                       · exact gg.mp hg1 j z0 w
                       · subst w; rw [f5]; exact h27
                     · rw [E5] at z2 ⊢
                       rw [ju_ne (by decide), Fw (by omega), E6, vW_y (by omega) (by rw [f5]; exact h27.mpr z1), f5, gw hg1 z1 (by omega)]; omega
                     · rw [E5] at z2 ⊢
                       rw [ju_ne (by decide), Fn (by omega), E6, vN_y (by omega) (by rw [f5]; exact fun z => z1 (h27.mp z)), f5, gn hg1 z1 (by omega)]; omega)
                  | (refine ⟨(gs.tr F1).put (by decide), by rw [ju_ne (by decide)]; exact F6, by rw [E5]; omega, Or.inl rfl, ⟨fun z => absurd z (by decide), fun z => ?_⟩, by rw [E5, gr, rnF_y d5.1 d5.2], fun z => absurd z (by decide), fun z => absurd z (by decide)⟩
                     exfalso
                     have hg := gg.mpr (fun j z0 z1 => z j z0 (by rw [E5]; omega))
                     have last := z (τ3 111 5 - skp t L p) (by omega) (by rw [E5]; omega)
                     rw [f5] at last
                     first | omega | exact h270 (bI_inj.mpr last))) (by rw [ju_at, F5]; omega)
              refine r_aload_n (dc dkX13_go 169 rfl) rfl (np 327 rfl ?_)
              refine r_bipush (dc dkX13_go 170 rfl) bp_10 (np 329 rfl ?_)
              refine r_aload_n (dc dkX13_go 171 rfl) rfl (np 330 rfl ?_)
              refine r_gI 8 (dc dkX13_go 172 rfl) flX13_137 fd_111_8 rfl (np 333 rfl ?_)
              refine r_imul (dc dkX13_go 173 rfl) (np 334 rfl ?_)
              refine r_iload (dc dkX13_go 174 rfl) rfl (np 336 rfl ?_)
              refine r_iadd (dc dkX13_go 175 rfl) (np 337 rfl ?_)
              refine r_bipush (dc dkX13_go 176 rfl) bp_48 (np 339 rfl ?_)
              refine r_isub (dc dkX13_go 177 rfl) (np 340 rfl ?_)
              refine r_pI 8 (dc dkX13_go 178 rfl) fpX13_137 fd_111_8 rfl (np 343 rfl ?_)
              refine r_abs (fun ρ3 => mdS [5, 6, 7, 8, 9, 13] τ3 ρ3 ∧ ρ3 111 5 = τ3 111 5 ∧ ρ3 111 6 = skp t L p ∧ (τ3 111 5 - skp t L p < 7 → ρ3 111 13 = 27 * τ3 111 13 + t (τ3 111 5) - 96) ∧ (τ3 111 5 - skp t L p < 3 → ρ3 111 8 = 10 * τ3 111 8 + t (τ3 111 5) - 48)) ?_ ?_
              · exact ⟨by first | exact G1.put (by decide) | exact G1, G5, G6, Gw, fun z => by first | omega | (rw [ju_at, Gn])⟩
              intro ρ3 hF
              obtain ⟨F1, F5, F6, Fw, Fn⟩ := hF
              refine r_aload_n (dc dkX13_go 179 rfl) rfl (np 344 rfl ?_)
              refine r_dup (dc dkX13_go 180 rfl) rfl (np 345 rfl ?_)
              refine r_gI 5 (dc dkX13_go 181 rfl) flX13_111 fd_111_5 rfl (np 348 rfl ?_)
              refine r_iconst (dc dkX13_go 182 rfl) (np 349 rfl ?_)
              refine r_iadd (dc dkX13_go 183 rfl) (np 350 rfl ?_)
              refine r_pI 5 (dc dkX13_go 184 rfl) fpX13_111 fd_111_5 rfl (np 353 rfl ?_)
              refine r_goto (tgt := 221) (dc dkX13_go 185 rfl) rfl ?_
              refine r_pick [2, 3, 0] rfl ?_
              exact ih221 _ _ (by
                have E5 : ju ρ3 111 5 (ρ3 111 5 + 1) 111 5 = τ3 111 5 + 1 := by rw [ju_at, F5]
                have E6 : τ3 111 5 + 1 - skp t L p = (τ3 111 5 - skp t L p) + 1 := by omega
                first
                | (have hg1 : g = 1 := by omega
                   have h27 := bI_inj.mp h270
                   refine ⟨(gs.tr F1).put (by decide), by rw [ju_ne (by decide)]; exact F6, by rw [E5]; omega, Or.inr rfl, ⟨fun _ j z0 z1 => ?_, fun _ => rfl⟩, by rw [E5, gr, rnF_y d5.1 d5.2], fun _ z1 z2 => ?_, fun _ z1 z2 => ?_⟩
                   · rw [E5] at z1
                     rcases (show j < τ3 111 5 - skp t L p ∨ j = τ3 111 5 - skp t L p by omega) with w | w
                     · exact gg.mp hg1 j z0 w
                     · subst w; rw [f5]; exact h27
                   · rw [E5] at z2 ⊢
                     rw [ju_ne (by decide), Fw (by omega), E6, vW_y (by omega) (by rw [f5]; exact h27.mpr z1), f5, gw hg1 z1 (by omega)]; omega
                   · rw [E5] at z2 ⊢
                     rw [ju_ne (by decide), Fn (by omega), E6, vN_y (by omega) (by rw [f5]; exact fun z => z1 (h27.mp z)), f5, gn hg1 z1 (by omega)]; omega)
                | (refine ⟨(gs.tr F1).put (by decide), by rw [ju_ne (by decide)]; exact F6, by rw [E5]; omega, Or.inl rfl, ⟨fun z => absurd z (by decide), fun z => ?_⟩, by rw [E5, gr, rnF_y d5.1 d5.2], fun z => absurd z (by decide), fun z => absurd z (by decide)⟩
                   exfalso
                   have hg := gg.mpr (fun j z0 z1 => z j z0 (by rw [E5]; omega))
                   have last := z (τ3 111 5 - skp t L p) (by omega) (by rw [E5]; omega)
                   rw [f5] at last
                   first | omega | exact h270 (bI_inj.mpr last))) (by rw [ju_at, F5]; omega)
            refine r_iconst (dc dkX13_go 140 rfl) (np 274 rfl ?_)
            refine r_goto (tgt := 278) (dc dkX13_go 141 rfl) rfl ?_
            refine r_istore_n (lv' := [(3, _), (4, _), (0, _), (2, _)]) (dc dkX13_go 143 rfl) (Nat.le_of_ble_eq_true rfl) rfl (np 279 rfl ?_)
            refine r_aload_n (dc dkX13_go 144 rfl) rfl (np 280 rfl ?_)
            refine r_gI 5 (dc dkX13_go 145 rfl) flX13_111 fd_111_5 rfl (np 283 rfl ?_)
            refine r_aload_n (dc dkX13_go 146 rfl) rfl (np 284 rfl ?_)
            refine r_gI 6 (dc dkX13_go 147 rfl) flX13_114 fd_111_6 rfl (np 287 rfl ?_)
            refine r_isub (dc dkX13_go 148 rfl) (np 288 rfl ?_)
            refine r_bipush (dc dkX13_go 149 rfl) bp_7 (np 290 rfl ?_)
            refine r_icmp_ge (tgt := 313) (dc dkX13_go 150 rfl) rfl (by first | assumption | decide | omega) (by first | assumption | decide | omega) (fun h290 => ?_) (fun h290 => (np 293 rfl ?_))
            · skip
              refine r_abs (fun ρ2 => mdS [5, 6, 7, 8, 9, 13] τ3 ρ2 ∧ ρ2 111 5 = τ3 111 5 ∧ ρ2 111 6 = skp t L p ∧ (τ3 111 5 - skp t L p < 7 → ρ2 111 13 = 27 * τ3 111 13 + t (τ3 111 5) - 96) ∧ ρ2 111 8 = τ3 111 8) ?_ ?_
              · exact ⟨by first | exact (mdS.refl _ _).put (by decide) | exact mdS.refl _ _, rfl, g6, fun z => by first | omega | rfl, rfl⟩
              intro ρ2 hF
              obtain ⟨G1, G5, G6, Gw, Gn⟩ := hF
              refine r_aload_n (dc dkX13_go 162 rfl) rfl (np 314 rfl ?_)
              refine r_gI 5 (dc dkX13_go 163 rfl) flX13_111 fd_111_5 rfl (np 317 rfl ?_)
              refine r_aload_n (dc dkX13_go 164 rfl) rfl (np 318 rfl ?_)
              refine r_gI 6 (dc dkX13_go 165 rfl) flX13_114 fd_111_6 rfl (np 321 rfl ?_)
              refine r_isub (dc dkX13_go 166 rfl) (np 322 rfl ?_)
              refine r_iconst (dc dkX13_go 167 rfl) (np 323 rfl ?_)
              refine r_icmp_ge (tgt := 343) (dc dkX13_go 168 rfl) rfl (by first | assumption | decide | omega) (by first | assumption | decide | omega) (fun h323 => ?_) (fun h323 => (np 326 rfl ?_))
              · skip
                refine r_abs (fun ρ3 => mdS [5, 6, 7, 8, 9, 13] τ3 ρ3 ∧ ρ3 111 5 = τ3 111 5 ∧ ρ3 111 6 = skp t L p ∧ (τ3 111 5 - skp t L p < 7 → ρ3 111 13 = 27 * τ3 111 13 + t (τ3 111 5) - 96) ∧ (τ3 111 5 - skp t L p < 3 → ρ3 111 8 = 10 * τ3 111 8 + t (τ3 111 5) - 48)) ?_ ?_
                · exact ⟨by first | exact G1.put (by decide) | exact G1, G5, G6, Gw, fun z => by first | omega | (rw [ju_at, Gn])⟩
                intro ρ3 hF
                obtain ⟨F1, F5, F6, Fw, Fn⟩ := hF
                refine r_aload_n (dc dkX13_go 179 rfl) rfl (np 344 rfl ?_)
                refine r_dup (dc dkX13_go 180 rfl) rfl (np 345 rfl ?_)
                refine r_gI 5 (dc dkX13_go 181 rfl) flX13_111 fd_111_5 rfl (np 348 rfl ?_)
                refine r_iconst (dc dkX13_go 182 rfl) (np 349 rfl ?_)
                refine r_iadd (dc dkX13_go 183 rfl) (np 350 rfl ?_)
                refine r_pI 5 (dc dkX13_go 184 rfl) fpX13_111 fd_111_5 rfl (np 353 rfl ?_)
                refine r_goto (tgt := 221) (dc dkX13_go 185 rfl) rfl ?_
                refine r_pick [2, 3, 0] rfl ?_
                exact ih221 _ _ (by
                  have E5 : ju ρ3 111 5 (ρ3 111 5 + 1) 111 5 = τ3 111 5 + 1 := by rw [ju_at, F5]
                  have E6 : τ3 111 5 + 1 - skp t L p = (τ3 111 5 - skp t L p) + 1 := by omega
                  first
                  | (have hg1 : g = 1 := by omega
                     have h27 := bI_inj.mp h270
                     refine ⟨(gs.tr F1).put (by decide), by rw [ju_ne (by decide)]; exact F6, by rw [E5]; omega, Or.inr rfl, ⟨fun _ j z0 z1 => ?_, fun _ => rfl⟩, by rw [E5, gr, rnF_y d5.1 d5.2], fun _ z1 z2 => ?_, fun _ z1 z2 => ?_⟩
                     · rw [E5] at z1
                       rcases (show j < τ3 111 5 - skp t L p ∨ j = τ3 111 5 - skp t L p by omega) with w | w
                       · exact gg.mp hg1 j z0 w
                       · subst w; rw [f5]; exact h27
                     · rw [E5] at z2 ⊢
                       rw [ju_ne (by decide), Fw (by omega), E6, vW_y (by omega) (by rw [f5]; exact h27.mpr z1), f5, gw hg1 z1 (by omega)]; omega
                     · rw [E5] at z2 ⊢
                       rw [ju_ne (by decide), Fn (by omega), E6, vN_y (by omega) (by rw [f5]; exact fun z => z1 (h27.mp z)), f5, gn hg1 z1 (by omega)]; omega)
                  | (refine ⟨(gs.tr F1).put (by decide), by rw [ju_ne (by decide)]; exact F6, by rw [E5]; omega, Or.inl rfl, ⟨fun z => absurd z (by decide), fun z => ?_⟩, by rw [E5, gr, rnF_y d5.1 d5.2], fun z => absurd z (by decide), fun z => absurd z (by decide)⟩
                     exfalso
                     have hg := gg.mpr (fun j z0 z1 => z j z0 (by rw [E5]; omega))
                     have last := z (τ3 111 5 - skp t L p) (by omega) (by rw [E5]; omega)
                     rw [f5] at last
                     first | omega | exact h270 (bI_inj.mpr last))) (by rw [ju_at, F5]; omega)
              refine r_aload_n (dc dkX13_go 169 rfl) rfl (np 327 rfl ?_)
              refine r_bipush (dc dkX13_go 170 rfl) bp_10 (np 329 rfl ?_)
              refine r_aload_n (dc dkX13_go 171 rfl) rfl (np 330 rfl ?_)
              refine r_gI 8 (dc dkX13_go 172 rfl) flX13_137 fd_111_8 rfl (np 333 rfl ?_)
              refine r_imul (dc dkX13_go 173 rfl) (np 334 rfl ?_)
              refine r_iload (dc dkX13_go 174 rfl) rfl (np 336 rfl ?_)
              refine r_iadd (dc dkX13_go 175 rfl) (np 337 rfl ?_)
              refine r_bipush (dc dkX13_go 176 rfl) bp_48 (np 339 rfl ?_)
              refine r_isub (dc dkX13_go 177 rfl) (np 340 rfl ?_)
              refine r_pI 8 (dc dkX13_go 178 rfl) fpX13_137 fd_111_8 rfl (np 343 rfl ?_)
              refine r_abs (fun ρ3 => mdS [5, 6, 7, 8, 9, 13] τ3 ρ3 ∧ ρ3 111 5 = τ3 111 5 ∧ ρ3 111 6 = skp t L p ∧ (τ3 111 5 - skp t L p < 7 → ρ3 111 13 = 27 * τ3 111 13 + t (τ3 111 5) - 96) ∧ (τ3 111 5 - skp t L p < 3 → ρ3 111 8 = 10 * τ3 111 8 + t (τ3 111 5) - 48)) ?_ ?_
              · exact ⟨by first | exact G1.put (by decide) | exact G1, G5, G6, Gw, fun z => by first | omega | (rw [ju_at, Gn])⟩
              intro ρ3 hF
              obtain ⟨F1, F5, F6, Fw, Fn⟩ := hF
              refine r_aload_n (dc dkX13_go 179 rfl) rfl (np 344 rfl ?_)
              refine r_dup (dc dkX13_go 180 rfl) rfl (np 345 rfl ?_)
              refine r_gI 5 (dc dkX13_go 181 rfl) flX13_111 fd_111_5 rfl (np 348 rfl ?_)
              refine r_iconst (dc dkX13_go 182 rfl) (np 349 rfl ?_)
              refine r_iadd (dc dkX13_go 183 rfl) (np 350 rfl ?_)
              refine r_pI 5 (dc dkX13_go 184 rfl) fpX13_111 fd_111_5 rfl (np 353 rfl ?_)
              refine r_goto (tgt := 221) (dc dkX13_go 185 rfl) rfl ?_
              refine r_pick [2, 3, 0] rfl ?_
              exact ih221 _ _ (by
                have E5 : ju ρ3 111 5 (ρ3 111 5 + 1) 111 5 = τ3 111 5 + 1 := by rw [ju_at, F5]
                have E6 : τ3 111 5 + 1 - skp t L p = (τ3 111 5 - skp t L p) + 1 := by omega
                first
                | (have hg1 : g = 1 := by omega
                   have h27 := bI_inj.mp h270
                   refine ⟨(gs.tr F1).put (by decide), by rw [ju_ne (by decide)]; exact F6, by rw [E5]; omega, Or.inr rfl, ⟨fun _ j z0 z1 => ?_, fun _ => rfl⟩, by rw [E5, gr, rnF_y d5.1 d5.2], fun _ z1 z2 => ?_, fun _ z1 z2 => ?_⟩
                   · rw [E5] at z1
                     rcases (show j < τ3 111 5 - skp t L p ∨ j = τ3 111 5 - skp t L p by omega) with w | w
                     · exact gg.mp hg1 j z0 w
                     · subst w; rw [f5]; exact h27
                   · rw [E5] at z2 ⊢
                     rw [ju_ne (by decide), Fw (by omega), E6, vW_y (by omega) (by rw [f5]; exact h27.mpr z1), f5, gw hg1 z1 (by omega)]; omega
                   · rw [E5] at z2 ⊢
                     rw [ju_ne (by decide), Fn (by omega), E6, vN_y (by omega) (by rw [f5]; exact fun z => z1 (h27.mp z)), f5, gn hg1 z1 (by omega)]; omega)
                | (refine ⟨(gs.tr F1).put (by decide), by rw [ju_ne (by decide)]; exact F6, by rw [E5]; omega, Or.inl rfl, ⟨fun z => absurd z (by decide), fun z => ?_⟩, by rw [E5, gr, rnF_y d5.1 d5.2], fun z => absurd z (by decide), fun z => absurd z (by decide)⟩
                   exfalso
                   have hg := gg.mpr (fun j z0 z1 => z j z0 (by rw [E5]; omega))
                   have last := z (τ3 111 5 - skp t L p) (by omega) (by rw [E5]; omega)
                   rw [f5] at last
                   first | omega | exact h270 (bI_inj.mpr last))) (by rw [ju_at, F5]; omega)
            refine r_aload_n (dc dkX13_go 151 rfl) rfl (np 294 rfl ?_)
            refine r_ldc2 (z := 27) (dc dkX13_go 152 rfl) ckX13_143 (by decide) (np 297 rfl ?_)
            refine r_aload_n (dc dkX13_go 153 rfl) rfl (np 298 rfl ?_)
            refine r_gL 13 (dc dkX13_go 154 rfl) flX13_133 fd_111_13 rfl (np 301 rfl ?_)
            refine r_lmul (dc dkX13_go 155 rfl) (np 302 rfl ?_)
            refine r_iload (dc dkX13_go 156 rfl) rfl (np 304 rfl ?_)
            refine r_i2l (dc dkX13_go 157 rfl) (by first | assumption | decide | omega) (np 305 rfl ?_)
            refine r_ladd (dc dkX13_go 158 rfl) (np 306 rfl ?_)
            refine r_ldc2 (z := 96) (dc dkX13_go 159 rfl) ckX13_145 (by decide) (np 309 rfl ?_)
            refine r_lsub (dc dkX13_go 160 rfl) (np 310 rfl ?_)
            refine r_pL 13 (dc dkX13_go 161 rfl) fpX13_133 fd_111_13 rfl (np 313 rfl ?_)
            refine r_abs (fun ρ2 => mdS [5, 6, 7, 8, 9, 13] τ3 ρ2 ∧ ρ2 111 5 = τ3 111 5 ∧ ρ2 111 6 = skp t L p ∧ (τ3 111 5 - skp t L p < 7 → ρ2 111 13 = 27 * τ3 111 13 + t (τ3 111 5) - 96) ∧ ρ2 111 8 = τ3 111 8) ?_ ?_
            · exact ⟨by first | exact (mdS.refl _ _).put (by decide) | exact mdS.refl _ _, rfl, g6, fun z => by first | omega | rfl, rfl⟩
            intro ρ2 hF
            obtain ⟨G1, G5, G6, Gw, Gn⟩ := hF
            refine r_aload_n (dc dkX13_go 162 rfl) rfl (np 314 rfl ?_)
            refine r_gI 5 (dc dkX13_go 163 rfl) flX13_111 fd_111_5 rfl (np 317 rfl ?_)
            refine r_aload_n (dc dkX13_go 164 rfl) rfl (np 318 rfl ?_)
            refine r_gI 6 (dc dkX13_go 165 rfl) flX13_114 fd_111_6 rfl (np 321 rfl ?_)
            refine r_isub (dc dkX13_go 166 rfl) (np 322 rfl ?_)
            refine r_iconst (dc dkX13_go 167 rfl) (np 323 rfl ?_)
            refine r_icmp_ge (tgt := 343) (dc dkX13_go 168 rfl) rfl (by first | assumption | decide | omega) (by first | assumption | decide | omega) (fun h323 => ?_) (fun h323 => (np 326 rfl ?_))
            · skip
              refine r_abs (fun ρ3 => mdS [5, 6, 7, 8, 9, 13] τ3 ρ3 ∧ ρ3 111 5 = τ3 111 5 ∧ ρ3 111 6 = skp t L p ∧ (τ3 111 5 - skp t L p < 7 → ρ3 111 13 = 27 * τ3 111 13 + t (τ3 111 5) - 96) ∧ (τ3 111 5 - skp t L p < 3 → ρ3 111 8 = 10 * τ3 111 8 + t (τ3 111 5) - 48)) ?_ ?_
              · exact ⟨by first | exact G1.put (by decide) | exact G1, G5, G6, Gw, fun z => by first | omega | (rw [ju_at, Gn])⟩
              intro ρ3 hF
              obtain ⟨F1, F5, F6, Fw, Fn⟩ := hF
              refine r_aload_n (dc dkX13_go 179 rfl) rfl (np 344 rfl ?_)
              refine r_dup (dc dkX13_go 180 rfl) rfl (np 345 rfl ?_)
              refine r_gI 5 (dc dkX13_go 181 rfl) flX13_111 fd_111_5 rfl (np 348 rfl ?_)
              refine r_iconst (dc dkX13_go 182 rfl) (np 349 rfl ?_)
              refine r_iadd (dc dkX13_go 183 rfl) (np 350 rfl ?_)
              refine r_pI 5 (dc dkX13_go 184 rfl) fpX13_111 fd_111_5 rfl (np 353 rfl ?_)
              refine r_goto (tgt := 221) (dc dkX13_go 185 rfl) rfl ?_
              refine r_pick [2, 3, 0] rfl ?_
              exact ih221 _ _ (by
                have E5 : ju ρ3 111 5 (ρ3 111 5 + 1) 111 5 = τ3 111 5 + 1 := by rw [ju_at, F5]
                have E6 : τ3 111 5 + 1 - skp t L p = (τ3 111 5 - skp t L p) + 1 := by omega
                first
                | (have hg1 : g = 1 := by omega
                   have h27 := bI_inj.mp h270
                   refine ⟨(gs.tr F1).put (by decide), by rw [ju_ne (by decide)]; exact F6, by rw [E5]; omega, Or.inr rfl, ⟨fun _ j z0 z1 => ?_, fun _ => rfl⟩, by rw [E5, gr, rnF_y d5.1 d5.2], fun _ z1 z2 => ?_, fun _ z1 z2 => ?_⟩
                   · rw [E5] at z1
                     rcases (show j < τ3 111 5 - skp t L p ∨ j = τ3 111 5 - skp t L p by omega) with w | w
                     · exact gg.mp hg1 j z0 w
                     · subst w; rw [f5]; exact h27
                   · rw [E5] at z2 ⊢
                     rw [ju_ne (by decide), Fw (by omega), E6, vW_y (by omega) (by rw [f5]; exact h27.mpr z1), f5, gw hg1 z1 (by omega)]; omega
                   · rw [E5] at z2 ⊢
                     rw [ju_ne (by decide), Fn (by omega), E6, vN_y (by omega) (by rw [f5]; exact fun z => z1 (h27.mp z)), f5, gn hg1 z1 (by omega)]; omega)
                | (refine ⟨(gs.tr F1).put (by decide), by rw [ju_ne (by decide)]; exact F6, by rw [E5]; omega, Or.inl rfl, ⟨fun z => absurd z (by decide), fun z => ?_⟩, by rw [E5, gr, rnF_y d5.1 d5.2], fun z => absurd z (by decide), fun z => absurd z (by decide)⟩
                   exfalso
                   have hg := gg.mpr (fun j z0 z1 => z j z0 (by rw [E5]; omega))
                   have last := z (τ3 111 5 - skp t L p) (by omega) (by rw [E5]; omega)
                   rw [f5] at last
                   first | omega | exact h270 (bI_inj.mpr last))) (by rw [ju_at, F5]; omega)
            refine r_aload_n (dc dkX13_go 169 rfl) rfl (np 327 rfl ?_)
            refine r_bipush (dc dkX13_go 170 rfl) bp_10 (np 329 rfl ?_)
            refine r_aload_n (dc dkX13_go 171 rfl) rfl (np 330 rfl ?_)
            refine r_gI 8 (dc dkX13_go 172 rfl) flX13_137 fd_111_8 rfl (np 333 rfl ?_)
            refine r_imul (dc dkX13_go 173 rfl) (np 334 rfl ?_)
            refine r_iload (dc dkX13_go 174 rfl) rfl (np 336 rfl ?_)
            refine r_iadd (dc dkX13_go 175 rfl) (np 337 rfl ?_)
            refine r_bipush (dc dkX13_go 176 rfl) bp_48 (np 339 rfl ?_)
            refine r_isub (dc dkX13_go 177 rfl) (np 340 rfl ?_)
            refine r_pI 8 (dc dkX13_go 178 rfl) fpX13_137 fd_111_8 rfl (np 343 rfl ?_)
            refine r_abs (fun ρ3 => mdS [5, 6, 7, 8, 9, 13] τ3 ρ3 ∧ ρ3 111 5 = τ3 111 5 ∧ ρ3 111 6 = skp t L p ∧ (τ3 111 5 - skp t L p < 7 → ρ3 111 13 = 27 * τ3 111 13 + t (τ3 111 5) - 96) ∧ (τ3 111 5 - skp t L p < 3 → ρ3 111 8 = 10 * τ3 111 8 + t (τ3 111 5) - 48)) ?_ ?_
            · exact ⟨by first | exact G1.put (by decide) | exact G1, G5, G6, Gw, fun z => by first | omega | (rw [ju_at, Gn])⟩
            intro ρ3 hF
            obtain ⟨F1, F5, F6, Fw, Fn⟩ := hF
            refine r_aload_n (dc dkX13_go 179 rfl) rfl (np 344 rfl ?_)
            refine r_dup (dc dkX13_go 180 rfl) rfl (np 345 rfl ?_)
            refine r_gI 5 (dc dkX13_go 181 rfl) flX13_111 fd_111_5 rfl (np 348 rfl ?_)
            refine r_iconst (dc dkX13_go 182 rfl) (np 349 rfl ?_)
            refine r_iadd (dc dkX13_go 183 rfl) (np 350 rfl ?_)
            refine r_pI 5 (dc dkX13_go 184 rfl) fpX13_111 fd_111_5 rfl (np 353 rfl ?_)
            refine r_goto (tgt := 221) (dc dkX13_go 185 rfl) rfl ?_
            refine r_pick [2, 3, 0] rfl ?_
            exact ih221 _ _ (by
              have E5 : ju ρ3 111 5 (ρ3 111 5 + 1) 111 5 = τ3 111 5 + 1 := by rw [ju_at, F5]
              have E6 : τ3 111 5 + 1 - skp t L p = (τ3 111 5 - skp t L p) + 1 := by omega
              first
              | (have hg1 : g = 1 := by omega
                 have h27 := bI_inj.mp h270
                 refine ⟨(gs.tr F1).put (by decide), by rw [ju_ne (by decide)]; exact F6, by rw [E5]; omega, Or.inr rfl, ⟨fun _ j z0 z1 => ?_, fun _ => rfl⟩, by rw [E5, gr, rnF_y d5.1 d5.2], fun _ z1 z2 => ?_, fun _ z1 z2 => ?_⟩
                 · rw [E5] at z1
                   rcases (show j < τ3 111 5 - skp t L p ∨ j = τ3 111 5 - skp t L p by omega) with w | w
                   · exact gg.mp hg1 j z0 w
                   · subst w; rw [f5]; exact h27
                 · rw [E5] at z2 ⊢
                   rw [ju_ne (by decide), Fw (by omega), E6, vW_y (by omega) (by rw [f5]; exact h27.mpr z1), f5, gw hg1 z1 (by omega)]; omega
                 · rw [E5] at z2 ⊢
                   rw [ju_ne (by decide), Fn (by omega), E6, vN_y (by omega) (by rw [f5]; exact fun z => z1 (h27.mp z)), f5, gn hg1 z1 (by omega)]; omega)
              | (refine ⟨(gs.tr F1).put (by decide), by rw [ju_ne (by decide)]; exact F6, by rw [E5]; omega, Or.inl rfl, ⟨fun z => absurd z (by decide), fun z => ?_⟩, by rw [E5, gr, rnF_y d5.1 d5.2], fun z => absurd z (by decide), fun z => absurd z (by decide)⟩
                 exfalso
                 have hg := gg.mpr (fun j z0 z1 => z j z0 (by rw [E5]; omega))
                 have last := z (τ3 111 5 - skp t L p) (by omega) (by rw [E5]; omega)
                 rw [f5] at last
                 first | omega | exact h270 (bI_inj.mpr last))) (by rw [ju_at, F5]; omega)
          refine r_aload_n (dc dkX13_go 116 rfl) rfl (np 222 rfl ?_)
          refine r_aload_n (dc dkX13_go 117 rfl) rfl (np 223 rfl ?_)
          refine r_gI 5 (dc dkX13_go 118 rfl) flX13_111 fd_111_5 rfl (np 226 rfl ?_)
          refine r_pV1 (y' := miX13_tapeAt) (dc dkX13_go 119 rfl) mlX13_140 ceX13_tapeAt ob_111 (Nat.le_of_ble_eq_true rfl) (Nat.le_of_ble_eq_true rfl) (c_X13_tapeAt (by assumption) (by assumption) (by assumption) (by omega)) (np 229 rfl ?_)
          refine r_pS1 (y' := miX13_isLetter) (dc dkX13_go 120 rfl) mlX13_123 seX13_isLetter (Nat.le_of_ble_eq_true rfl) (Nat.le_of_ble_eq_true rfl) (c_X13_isLetter (by omega)) (np 232 rfl ?_)
          refine r_bn (tgt := 249) (dc dkX13_go 121 rfl) rfl (fun h232 => ?_) (fun h232 => (np 235 rfl ?_))
          · skip
            refine r_pick [0, 1, 2] rfl ?_
            exact jj249 (by omega)
          refine r_aload_n (dc dkX13_go 122 rfl) rfl (np 236 rfl ?_)
          refine r_aload_n (dc dkX13_go 123 rfl) rfl (np 237 rfl ?_)
          refine r_gI 5 (dc dkX13_go 124 rfl) flX13_111 fd_111_5 rfl (np 240 rfl ?_)
          refine r_pV1 (y' := miX13_tapeAt) (dc dkX13_go 125 rfl) mlX13_140 ceX13_tapeAt ob_111 (Nat.le_of_ble_eq_true rfl) (Nat.le_of_ble_eq_true rfl) (c_X13_tapeAt (by assumption) (by assumption) (by assumption) (by omega)) (np 243 rfl ?_)
          refine r_pS1 (y' := miX13_isDigit) (dc dkX13_go 126 rfl) mlX13_127 seX13_isDigit (Nat.le_of_ble_eq_true rfl) (Nat.le_of_ble_eq_true rfl) (c_X13_isDigit (by omega)) (np 246 rfl ?_)
          refine r_bz (tgt := 356) (dc dkX13_go 127 rfl) rfl (fun h246 => ?_) (fun h246 => (np 249 rfl ?_))
          · skip
            have hE : rne t L (skp t L p) = τ3 111 5 := by rw [gr, rnF_n (by omega)]
            have hse : skp t L p < τ3 111 5 := by rw [← hE]; exact rne_s (by omega) hA
            have kd := kd_run hse (fun j z0 z1 => rnF_an t (L - skp t L p).toNat (skp t L p) j z0 (by show j < rne t L (skp t L p); omega))
            have eK : tK t L m p = kdR t (skp t L p) (τ3 111 5) := by rw [tK_n hg, if_neg (by omega), if_pos hA, hE]
            refine r_aload_n (dc dkX13_go 186 rfl) rfl (np 357 rfl ?_)
            refine r_iload_n (dc dkX13_go 187 rfl) rfl (np 358 rfl ?_)
            refine r_if_eq (tgt := 383) (dc dkX13_go 188 rfl) rfl (by first | assumption | decide | omega) (fun h358 => ?_) (fun h358 => (np 361 rfl ?_))
            · skip
              refine r_iconst (dc dkX13_go 200 rfl) (np 384 rfl ?_)
              refine r_goto (tgt := 396) (dc dkX13_go 201 rfl) rfl ?_
              refine r_pI 7 (dc dkX13_go 207 rfl) fpX13_120 fd_111_7 rfl (np 399 rfl ?_)
              exact r_vret (dc dkX13_go 208 rfl) rfl (by
                have eN : tN t L m p = τ3 111 5 := by rw [tN_n hg, if_neg (by omega), if_pos hA, hE]
                have eS := tS_n hg
                first
                | exact absurd h388 h371
                | exact absurd h371 h388
                | (have eK2 : tK t L m p = 1 := by
                     rw [eK]
                     first | exact kd.2.2 (fun z => by have := gg.mpr z; omega) | rw [kd.1 (gg.mp (by omega)) h371, if_neg (by omega)] | rw [kd.2.1 (gg.mp (by omega)) h371, if_neg (by omega)]
                   exact ⟨rfl, (sF.tr gs).put (by decide), (by intro i z0 z1; rw [ju_off _ _ _ _ _ (by decide)]; exact f1 i z0 z1), (by rw [ju_ne (by decide)]; exact f3), (by rw [ju_ne (by decide)]; exact f4), q4, q5, q6, by rw [ju_ne (by decide), eN], by rw [ju_ne (by decide), eS]; exact g6, by rw [ju_at, eK2]; rfl, fun z => by omega, fun z => by omega, fun z => by omega, by rw [ju_ne (by decide)]; exact f10⟩)
                | (have eK2 : tK t L m p = kdW (vW t (skp t L p) (τ3 111 5 - skp t L p)) := by rw [eK, kd.1 (gg.mp (by omega)) h371, if_pos (by omega)]
                   have kb := kdW_b (vW t (skp t L p) (τ3 111 5 - skp t L p))
                   exact ⟨rfl, (sF.tr gs).put (by decide), (by intro i z0 z1; rw [ju_off _ _ _ _ _ (by decide)]; exact f1 i z0 z1), (by rw [ju_ne (by decide)]; exact f3), (by rw [ju_ne (by decide)]; exact f4), q4, q5, q6, by rw [ju_ne (by decide), eN], by rw [ju_ne (by decide), eS]; exact g6, by rw [ju_at, eK2, kM_w], fun z => by omega, fun z => by rw [ju_ne (by decide), wQ, eS, eN]; exact gw (by omega) h371 (by omega), fun z => by omega, by rw [ju_ne (by decide)]; exact f10⟩)
                | (have eK2 : tK t L m p = 2 := by rw [eK, kd.2.1 (gg.mp (by omega)) h371, if_pos (by omega)]
                   exact ⟨rfl, (sF.tr gs).put (by decide), (by intro i z0 z1; rw [ju_off _ _ _ _ _ (by decide)]; exact f1 i z0 z1), (by rw [ju_ne (by decide)]; exact f3), (by rw [ju_ne (by decide)]; exact f4), q4, q5, q6, by rw [ju_ne (by decide), eN], by rw [ju_ne (by decide), eS]; exact g6, by rw [ju_at, eK2]; rfl, fun z => by rw [ju_ne (by decide), nQ, eS, eN]; exact gn (by omega) h371 (by omega), fun z => by omega, fun z => by omega, by rw [ju_ne (by decide)]; exact f10⟩))
            refine r_aload_n (dc dkX13_go 189 rfl) rfl (np 362 rfl ?_)
            refine r_gI 5 (dc dkX13_go 190 rfl) flX13_111 fd_111_5 rfl (np 365 rfl ?_)
            refine r_aload_n (dc dkX13_go 191 rfl) rfl (np 366 rfl ?_)
            refine r_gI 6 (dc dkX13_go 192 rfl) flX13_114 fd_111_6 rfl (np 369 rfl ?_)
            refine r_isub (dc dkX13_go 193 rfl) (np 370 rfl ?_)
            refine r_iload_n (dc dkX13_go 194 rfl) rfl (np 371 rfl ?_)
            refine r_bz (tgt := 379) (dc dkX13_go 195 rfl) rfl (fun h371 => ?_) (fun h371 => (np 374 rfl ?_))
            · skip
              refine r_iconst (dc dkX13_go 198 rfl) (np 380 rfl ?_)
              refine r_icmp_le (tgt := 387) (dc dkX13_go 199 rfl) rfl (by first | assumption | decide | omega) (by first | assumption | decide | omega) (fun h380 => ?_) (fun h380 => (np 383 rfl ?_))
              · skip
                refine r_iload_n (dc dkX13_go 202 rfl) rfl (np 388 rfl ?_)
                refine r_bz (tgt := 395) (dc dkX13_go 203 rfl) rfl (fun h388 => ?_) (fun h388 => (np 391 rfl ?_))
                · skip
                  refine r_iconst (dc dkX13_go 206 rfl) (np 396 rfl ?_)
                  refine r_pI 7 (dc dkX13_go 207 rfl) fpX13_120 fd_111_7 rfl (np 399 rfl ?_)
                  exact r_vret (dc dkX13_go 208 rfl) rfl (by
                    have eN : tN t L m p = τ3 111 5 := by rw [tN_n hg, if_neg (by omega), if_pos hA, hE]
                    have eS := tS_n hg
                    first
                    | exact absurd h388 h371
                    | exact absurd h371 h388
                    | (have eK2 : tK t L m p = 1 := by
                         rw [eK]
                         first | exact kd.2.2 (fun z => by have := gg.mpr z; omega) | rw [kd.1 (gg.mp (by omega)) h371, if_neg (by omega)] | rw [kd.2.1 (gg.mp (by omega)) h371, if_neg (by omega)]
                       exact ⟨rfl, (sF.tr gs).put (by decide), (by intro i z0 z1; rw [ju_off _ _ _ _ _ (by decide)]; exact f1 i z0 z1), (by rw [ju_ne (by decide)]; exact f3), (by rw [ju_ne (by decide)]; exact f4), q4, q5, q6, by rw [ju_ne (by decide), eN], by rw [ju_ne (by decide), eS]; exact g6, by rw [ju_at, eK2]; rfl, fun z => by omega, fun z => by omega, fun z => by omega, by rw [ju_ne (by decide)]; exact f10⟩)
                    | (have eK2 : tK t L m p = kdW (vW t (skp t L p) (τ3 111 5 - skp t L p)) := by rw [eK, kd.1 (gg.mp (by omega)) h371, if_pos (by omega)]
                       have kb := kdW_b (vW t (skp t L p) (τ3 111 5 - skp t L p))
                       exact ⟨rfl, (sF.tr gs).put (by decide), (by intro i z0 z1; rw [ju_off _ _ _ _ _ (by decide)]; exact f1 i z0 z1), (by rw [ju_ne (by decide)]; exact f3), (by rw [ju_ne (by decide)]; exact f4), q4, q5, q6, by rw [ju_ne (by decide), eN], by rw [ju_ne (by decide), eS]; exact g6, by rw [ju_at, eK2, kM_w], fun z => by omega, fun z => by rw [ju_ne (by decide), wQ, eS, eN]; exact gw (by omega) h371 (by omega), fun z => by omega, by rw [ju_ne (by decide)]; exact f10⟩)
                    | (have eK2 : tK t L m p = 2 := by rw [eK, kd.2.1 (gg.mp (by omega)) h371, if_pos (by omega)]
                       exact ⟨rfl, (sF.tr gs).put (by decide), (by intro i z0 z1; rw [ju_off _ _ _ _ _ (by decide)]; exact f1 i z0 z1), (by rw [ju_ne (by decide)]; exact f3), (by rw [ju_ne (by decide)]; exact f4), q4, q5, q6, by rw [ju_ne (by decide), eN], by rw [ju_ne (by decide), eS]; exact g6, by rw [ju_at, eK2]; rfl, fun z => by rw [ju_ne (by decide), nQ, eS, eN]; exact gn (by omega) h371 (by omega), fun z => by omega, fun z => by omega, by rw [ju_ne (by decide)]; exact f10⟩))
                refine r_iconst (dc dkX13_go 204 rfl) (np 392 rfl ?_)
                refine r_goto (tgt := 396) (dc dkX13_go 205 rfl) rfl ?_
                refine r_pI 7 (dc dkX13_go 207 rfl) fpX13_120 fd_111_7 rfl (np 399 rfl ?_)
                exact r_vret (dc dkX13_go 208 rfl) rfl (by
                  have eN : tN t L m p = τ3 111 5 := by rw [tN_n hg, if_neg (by omega), if_pos hA, hE]
                  have eS := tS_n hg
                  first
                  | exact absurd h388 h371
                  | exact absurd h371 h388
                  | (have eK2 : tK t L m p = 1 := by
                       rw [eK]
                       first | exact kd.2.2 (fun z => by have := gg.mpr z; omega) | rw [kd.1 (gg.mp (by omega)) h371, if_neg (by omega)] | rw [kd.2.1 (gg.mp (by omega)) h371, if_neg (by omega)]
                     exact ⟨rfl, (sF.tr gs).put (by decide), (by intro i z0 z1; rw [ju_off _ _ _ _ _ (by decide)]; exact f1 i z0 z1), (by rw [ju_ne (by decide)]; exact f3), (by rw [ju_ne (by decide)]; exact f4), q4, q5, q6, by rw [ju_ne (by decide), eN], by rw [ju_ne (by decide), eS]; exact g6, by rw [ju_at, eK2]; rfl, fun z => by omega, fun z => by omega, fun z => by omega, by rw [ju_ne (by decide)]; exact f10⟩)
                  | (have eK2 : tK t L m p = kdW (vW t (skp t L p) (τ3 111 5 - skp t L p)) := by rw [eK, kd.1 (gg.mp (by omega)) h371, if_pos (by omega)]
                     have kb := kdW_b (vW t (skp t L p) (τ3 111 5 - skp t L p))
                     exact ⟨rfl, (sF.tr gs).put (by decide), (by intro i z0 z1; rw [ju_off _ _ _ _ _ (by decide)]; exact f1 i z0 z1), (by rw [ju_ne (by decide)]; exact f3), (by rw [ju_ne (by decide)]; exact f4), q4, q5, q6, by rw [ju_ne (by decide), eN], by rw [ju_ne (by decide), eS]; exact g6, by rw [ju_at, eK2, kM_w], fun z => by omega, fun z => by rw [ju_ne (by decide), wQ, eS, eN]; exact gw (by omega) h371 (by omega), fun z => by omega, by rw [ju_ne (by decide)]; exact f10⟩)
                  | (have eK2 : tK t L m p = 2 := by rw [eK, kd.2.1 (gg.mp (by omega)) h371, if_pos (by omega)]
                     exact ⟨rfl, (sF.tr gs).put (by decide), (by intro i z0 z1; rw [ju_off _ _ _ _ _ (by decide)]; exact f1 i z0 z1), (by rw [ju_ne (by decide)]; exact f3), (by rw [ju_ne (by decide)]; exact f4), q4, q5, q6, by rw [ju_ne (by decide), eN], by rw [ju_ne (by decide), eS]; exact g6, by rw [ju_at, eK2]; rfl, fun z => by rw [ju_ne (by decide), nQ, eS, eN]; exact gn (by omega) h371 (by omega), fun z => by omega, fun z => by omega, by rw [ju_ne (by decide)]; exact f10⟩))
              refine r_iconst (dc dkX13_go 200 rfl) (np 384 rfl ?_)
              refine r_goto (tgt := 396) (dc dkX13_go 201 rfl) rfl ?_
              refine r_pI 7 (dc dkX13_go 207 rfl) fpX13_120 fd_111_7 rfl (np 399 rfl ?_)
              exact r_vret (dc dkX13_go 208 rfl) rfl (by
                have eN : tN t L m p = τ3 111 5 := by rw [tN_n hg, if_neg (by omega), if_pos hA, hE]
                have eS := tS_n hg
                first
                | exact absurd h388 h371
                | exact absurd h371 h388
                | (have eK2 : tK t L m p = 1 := by
                     rw [eK]
                     first | exact kd.2.2 (fun z => by have := gg.mpr z; omega) | rw [kd.1 (gg.mp (by omega)) h371, if_neg (by omega)] | rw [kd.2.1 (gg.mp (by omega)) h371, if_neg (by omega)]
                   exact ⟨rfl, (sF.tr gs).put (by decide), (by intro i z0 z1; rw [ju_off _ _ _ _ _ (by decide)]; exact f1 i z0 z1), (by rw [ju_ne (by decide)]; exact f3), (by rw [ju_ne (by decide)]; exact f4), q4, q5, q6, by rw [ju_ne (by decide), eN], by rw [ju_ne (by decide), eS]; exact g6, by rw [ju_at, eK2]; rfl, fun z => by omega, fun z => by omega, fun z => by omega, by rw [ju_ne (by decide)]; exact f10⟩)
                | (have eK2 : tK t L m p = kdW (vW t (skp t L p) (τ3 111 5 - skp t L p)) := by rw [eK, kd.1 (gg.mp (by omega)) h371, if_pos (by omega)]
                   have kb := kdW_b (vW t (skp t L p) (τ3 111 5 - skp t L p))
                   exact ⟨rfl, (sF.tr gs).put (by decide), (by intro i z0 z1; rw [ju_off _ _ _ _ _ (by decide)]; exact f1 i z0 z1), (by rw [ju_ne (by decide)]; exact f3), (by rw [ju_ne (by decide)]; exact f4), q4, q5, q6, by rw [ju_ne (by decide), eN], by rw [ju_ne (by decide), eS]; exact g6, by rw [ju_at, eK2, kM_w], fun z => by omega, fun z => by rw [ju_ne (by decide), wQ, eS, eN]; exact gw (by omega) h371 (by omega), fun z => by omega, by rw [ju_ne (by decide)]; exact f10⟩)
                | (have eK2 : tK t L m p = 2 := by rw [eK, kd.2.1 (gg.mp (by omega)) h371, if_pos (by omega)]
                   exact ⟨rfl, (sF.tr gs).put (by decide), (by intro i z0 z1; rw [ju_off _ _ _ _ _ (by decide)]; exact f1 i z0 z1), (by rw [ju_ne (by decide)]; exact f3), (by rw [ju_ne (by decide)]; exact f4), q4, q5, q6, by rw [ju_ne (by decide), eN], by rw [ju_ne (by decide), eS]; exact g6, by rw [ju_at, eK2]; rfl, fun z => by rw [ju_ne (by decide), nQ, eS, eN]; exact gn (by omega) h371 (by omega), fun z => by omega, fun z => by omega, by rw [ju_ne (by decide)]; exact f10⟩))
            refine r_bipush (dc dkX13_go 196 rfl) bp_7 (np 376 rfl ?_)
            refine r_goto (tgt := 380) (dc dkX13_go 197 rfl) rfl ?_
            refine r_icmp_le (tgt := 387) (dc dkX13_go 199 rfl) rfl (by first | assumption | decide | omega) (by first | assumption | decide | omega) (fun h380 => ?_) (fun h380 => (np 383 rfl ?_))
            · skip
              refine r_iload_n (dc dkX13_go 202 rfl) rfl (np 388 rfl ?_)
              refine r_bz (tgt := 395) (dc dkX13_go 203 rfl) rfl (fun h388 => ?_) (fun h388 => (np 391 rfl ?_))
              · skip
                refine r_iconst (dc dkX13_go 206 rfl) (np 396 rfl ?_)
                refine r_pI 7 (dc dkX13_go 207 rfl) fpX13_120 fd_111_7 rfl (np 399 rfl ?_)
                exact r_vret (dc dkX13_go 208 rfl) rfl (by
                  have eN : tN t L m p = τ3 111 5 := by rw [tN_n hg, if_neg (by omega), if_pos hA, hE]
                  have eS := tS_n hg
                  first
                  | exact absurd h388 h371
                  | exact absurd h371 h388
                  | (have eK2 : tK t L m p = 1 := by
                       rw [eK]
                       first | exact kd.2.2 (fun z => by have := gg.mpr z; omega) | rw [kd.1 (gg.mp (by omega)) h371, if_neg (by omega)] | rw [kd.2.1 (gg.mp (by omega)) h371, if_neg (by omega)]
                     exact ⟨rfl, (sF.tr gs).put (by decide), (by intro i z0 z1; rw [ju_off _ _ _ _ _ (by decide)]; exact f1 i z0 z1), (by rw [ju_ne (by decide)]; exact f3), (by rw [ju_ne (by decide)]; exact f4), q4, q5, q6, by rw [ju_ne (by decide), eN], by rw [ju_ne (by decide), eS]; exact g6, by rw [ju_at, eK2]; rfl, fun z => by omega, fun z => by omega, fun z => by omega, by rw [ju_ne (by decide)]; exact f10⟩)
                  | (have eK2 : tK t L m p = kdW (vW t (skp t L p) (τ3 111 5 - skp t L p)) := by rw [eK, kd.1 (gg.mp (by omega)) h371, if_pos (by omega)]
                     have kb := kdW_b (vW t (skp t L p) (τ3 111 5 - skp t L p))
                     exact ⟨rfl, (sF.tr gs).put (by decide), (by intro i z0 z1; rw [ju_off _ _ _ _ _ (by decide)]; exact f1 i z0 z1), (by rw [ju_ne (by decide)]; exact f3), (by rw [ju_ne (by decide)]; exact f4), q4, q5, q6, by rw [ju_ne (by decide), eN], by rw [ju_ne (by decide), eS]; exact g6, by rw [ju_at, eK2, kM_w], fun z => by omega, fun z => by rw [ju_ne (by decide), wQ, eS, eN]; exact gw (by omega) h371 (by omega), fun z => by omega, by rw [ju_ne (by decide)]; exact f10⟩)
                  | (have eK2 : tK t L m p = 2 := by rw [eK, kd.2.1 (gg.mp (by omega)) h371, if_pos (by omega)]
                     exact ⟨rfl, (sF.tr gs).put (by decide), (by intro i z0 z1; rw [ju_off _ _ _ _ _ (by decide)]; exact f1 i z0 z1), (by rw [ju_ne (by decide)]; exact f3), (by rw [ju_ne (by decide)]; exact f4), q4, q5, q6, by rw [ju_ne (by decide), eN], by rw [ju_ne (by decide), eS]; exact g6, by rw [ju_at, eK2]; rfl, fun z => by rw [ju_ne (by decide), nQ, eS, eN]; exact gn (by omega) h371 (by omega), fun z => by omega, fun z => by omega, by rw [ju_ne (by decide)]; exact f10⟩))
              refine r_iconst (dc dkX13_go 204 rfl) (np 392 rfl ?_)
              refine r_goto (tgt := 396) (dc dkX13_go 205 rfl) rfl ?_
              refine r_pI 7 (dc dkX13_go 207 rfl) fpX13_120 fd_111_7 rfl (np 399 rfl ?_)
              exact r_vret (dc dkX13_go 208 rfl) rfl (by
                have eN : tN t L m p = τ3 111 5 := by rw [tN_n hg, if_neg (by omega), if_pos hA, hE]
                have eS := tS_n hg
                first
                | exact absurd h388 h371
                | exact absurd h371 h388
                | (have eK2 : tK t L m p = 1 := by
                     rw [eK]
                     first | exact kd.2.2 (fun z => by have := gg.mpr z; omega) | rw [kd.1 (gg.mp (by omega)) h371, if_neg (by omega)] | rw [kd.2.1 (gg.mp (by omega)) h371, if_neg (by omega)]
                   exact ⟨rfl, (sF.tr gs).put (by decide), (by intro i z0 z1; rw [ju_off _ _ _ _ _ (by decide)]; exact f1 i z0 z1), (by rw [ju_ne (by decide)]; exact f3), (by rw [ju_ne (by decide)]; exact f4), q4, q5, q6, by rw [ju_ne (by decide), eN], by rw [ju_ne (by decide), eS]; exact g6, by rw [ju_at, eK2]; rfl, fun z => by omega, fun z => by omega, fun z => by omega, by rw [ju_ne (by decide)]; exact f10⟩)
                | (have eK2 : tK t L m p = kdW (vW t (skp t L p) (τ3 111 5 - skp t L p)) := by rw [eK, kd.1 (gg.mp (by omega)) h371, if_pos (by omega)]
                   have kb := kdW_b (vW t (skp t L p) (τ3 111 5 - skp t L p))
                   exact ⟨rfl, (sF.tr gs).put (by decide), (by intro i z0 z1; rw [ju_off _ _ _ _ _ (by decide)]; exact f1 i z0 z1), (by rw [ju_ne (by decide)]; exact f3), (by rw [ju_ne (by decide)]; exact f4), q4, q5, q6, by rw [ju_ne (by decide), eN], by rw [ju_ne (by decide), eS]; exact g6, by rw [ju_at, eK2, kM_w], fun z => by omega, fun z => by rw [ju_ne (by decide), wQ, eS, eN]; exact gw (by omega) h371 (by omega), fun z => by omega, by rw [ju_ne (by decide)]; exact f10⟩)
                | (have eK2 : tK t L m p = 2 := by rw [eK, kd.2.1 (gg.mp (by omega)) h371, if_pos (by omega)]
                   exact ⟨rfl, (sF.tr gs).put (by decide), (by intro i z0 z1; rw [ju_off _ _ _ _ _ (by decide)]; exact f1 i z0 z1), (by rw [ju_ne (by decide)]; exact f3), (by rw [ju_ne (by decide)]; exact f4), q4, q5, q6, by rw [ju_ne (by decide), eN], by rw [ju_ne (by decide), eS]; exact g6, by rw [ju_at, eK2]; rfl, fun z => by rw [ju_ne (by decide), nQ, eS, eN]; exact gn (by omega) h371 (by omega), fun z => by omega, fun z => by omega, by rw [ju_ne (by decide)]; exact f10⟩))
            refine r_iconst (dc dkX13_go 200 rfl) (np 384 rfl ?_)
            refine r_goto (tgt := 396) (dc dkX13_go 201 rfl) rfl ?_
            refine r_pI 7 (dc dkX13_go 207 rfl) fpX13_120 fd_111_7 rfl (np 399 rfl ?_)
            exact r_vret (dc dkX13_go 208 rfl) rfl (by
              have eN : tN t L m p = τ3 111 5 := by rw [tN_n hg, if_neg (by omega), if_pos hA, hE]
              have eS := tS_n hg
              first
              | exact absurd h388 h371
              | exact absurd h371 h388
              | (have eK2 : tK t L m p = 1 := by
                   rw [eK]
                   first | exact kd.2.2 (fun z => by have := gg.mpr z; omega) | rw [kd.1 (gg.mp (by omega)) h371, if_neg (by omega)] | rw [kd.2.1 (gg.mp (by omega)) h371, if_neg (by omega)]
                 exact ⟨rfl, (sF.tr gs).put (by decide), (by intro i z0 z1; rw [ju_off _ _ _ _ _ (by decide)]; exact f1 i z0 z1), (by rw [ju_ne (by decide)]; exact f3), (by rw [ju_ne (by decide)]; exact f4), q4, q5, q6, by rw [ju_ne (by decide), eN], by rw [ju_ne (by decide), eS]; exact g6, by rw [ju_at, eK2]; rfl, fun z => by omega, fun z => by omega, fun z => by omega, by rw [ju_ne (by decide)]; exact f10⟩)
              | (have eK2 : tK t L m p = kdW (vW t (skp t L p) (τ3 111 5 - skp t L p)) := by rw [eK, kd.1 (gg.mp (by omega)) h371, if_pos (by omega)]
                 have kb := kdW_b (vW t (skp t L p) (τ3 111 5 - skp t L p))
                 exact ⟨rfl, (sF.tr gs).put (by decide), (by intro i z0 z1; rw [ju_off _ _ _ _ _ (by decide)]; exact f1 i z0 z1), (by rw [ju_ne (by decide)]; exact f3), (by rw [ju_ne (by decide)]; exact f4), q4, q5, q6, by rw [ju_ne (by decide), eN], by rw [ju_ne (by decide), eS]; exact g6, by rw [ju_at, eK2, kM_w], fun z => by omega, fun z => by rw [ju_ne (by decide), wQ, eS, eN]; exact gw (by omega) h371 (by omega), fun z => by omega, by rw [ju_ne (by decide)]; exact f10⟩)
              | (have eK2 : tK t L m p = 2 := by rw [eK, kd.2.1 (gg.mp (by omega)) h371, if_pos (by omega)]
                 exact ⟨rfl, (sF.tr gs).put (by decide), (by intro i z0 z1; rw [ju_off _ _ _ _ _ (by decide)]; exact f1 i z0 z1), (by rw [ju_ne (by decide)]; exact f3), (by rw [ju_ne (by decide)]; exact f4), q4, q5, q6, by rw [ju_ne (by decide), eN], by rw [ju_ne (by decide), eS]; exact g6, by rw [ju_at, eK2]; rfl, fun z => by rw [ju_ne (by decide), nQ, eS, eN]; exact gn (by omega) h371 (by omega), fun z => by omega, fun z => by omega, by rw [ju_ne (by decide)]; exact f10⟩))
          refine r_pick [0, 1, 2] rfl ?_
          exact jj249 (by omega)
        refine r_getR (dc dkX13_go 58 rfl) flX13_7 fd_111_1 (np 117 rfl ?_)
        refine r_aload_n (dc dkX13_go 59 rfl) rfl (np 118 rfl ?_)
        refine r_gI 5 (dc dkX13_go 60 rfl) flX13_111 fd_111_5 rfl (np 121 rfl ?_)
        refine r_iald (dc dkX13_go 61 rfl) ar_112 (by omega) (np 122 rfl ?_)
        refine r_eqI (t (skp t L p)) (by rw [s5]; exact tb.1) ?_
        refine r_istore_n (lv' := [(1, _), (0, _)]) (dc dkX13_go 62 rfl) (Nat.le_of_ble_eq_true rfl) rfl (np 123 rfl ?_)
        refine r_iload_n (dc dkX13_go 63 rfl) rfl (np 124 rfl ?_)
        refine r_pS1 (y' := miX13_isLetter) (dc dkX13_go 64 rfl) mlX13_123 seX13_isLetter (Nat.le_of_ble_eq_true rfl) (Nat.le_of_ble_eq_true rfl) (c_X13_isLetter (by omega)) (np 127 rfl ?_)
        refine r_bn (tgt := 204) (dc dkX13_go 65 rfl) rfl (fun h127 => ?_) (fun h127 => (np 130 rfl ?_))
        · skip
          refine r_pick [1, 0] rfl ?_
          exact jj204 (by omega)
        refine r_iload_n (dc dkX13_go 66 rfl) rfl (np 131 rfl ?_)
        refine r_pS1 (y' := miX13_isDigit) (dc dkX13_go 67 rfl) mlX13_127 seX13_isDigit (Nat.le_of_ble_eq_true rfl) (Nat.le_of_ble_eq_true rfl) (c_X13_isDigit (by omega)) (np 134 rfl ?_)
        refine r_bn (tgt := 204) (dc dkX13_go 68 rfl) rfl (fun h134 => ?_) (fun h134 => (np 137 rfl ?_))
        · skip
          refine r_pick [1, 0] rfl ?_
          exact jj204 (by omega)
        refine r_aload_n (dc dkX13_go 69 rfl) rfl (np 138 rfl ?_)
        refine r_iload_n (dc dkX13_go 70 rfl) rfl (np 139 rfl ?_)
        refine r_bipush (dc dkX13_go 71 rfl) bp_59 (np 141 rfl ?_)
        refine r_icmp_eq (tgt := 180) (dc dkX13_go 72 rfl) rfl (by first | assumption | decide | omega) (by first | assumption | decide | omega) (fun h141 => ?_) (fun h141 => (np 144 rfl ?_))
        · skip
          refine r_iconst (dc dkX13_go 91 rfl) (np 181 rfl ?_)
          refine r_goto (tgt := 185) (dc dkX13_go 92 rfl) rfl ?_
          refine r_pI 7 (dc dkX13_go 94 rfl) fpX13_120 fd_111_7 rfl (np 188 rfl ?_)
          refine r_aload_n (dc dkX13_go 95 rfl) rfl (np 189 rfl ?_)
          refine r_iload_n (dc dkX13_go 96 rfl) rfl (np 190 rfl ?_)
          refine r_pI 9 (dc dkX13_go 97 rfl) fpX13_130 fd_111_9 rfl (np 193 rfl ?_)
          refine r_aload_n (dc dkX13_go 98 rfl) rfl (np 194 rfl ?_)
          refine r_dup (dc dkX13_go 99 rfl) rfl (np 195 rfl ?_)
          refine r_gI 5 (dc dkX13_go 100 rfl) flX13_111 fd_111_5 rfl (np 198 rfl ?_)
          refine r_iconst (dc dkX13_go 101 rfl) (np 199 rfl ?_)
          refine r_iadd (dc dkX13_go 102 rfl) (np 200 rfl ?_)
          refine r_pI 5 (dc dkX13_go 103 rfl) fpX13_111 fd_111_5 rfl (np 203 rfl ?_)
          exact r_vret (dc dkX13_go 104 rfl) rfl (by
            have eN : tN t L m p = skp t L p + 1 := by rw [tN_n hg, if_neg (by omega), if_neg (by omega)]
            have eS := tS_n hg
            first
            | (have eK2 : tK t L m p = t (skp t L p) := by rw [tK_n hg, if_neg (by omega), if_neg (by omega), if_pos (by omega)]
               exact ⟨rfl, ((sF.put (by decide)).put (by decide)).put (by decide), (by intro i z0 z1; rw [ju_off _ _ _ _ _ (by decide), ju_off _ _ _ _ _ (by decide), ju_off _ _ _ _ _ (by decide)]; exact st i z0 z1), (by rw [ju_ne (by decide), ju_ne (by decide), ju_ne (by decide)]; exact s3), (by rw [ju_ne (by decide), ju_ne (by decide), ju_ne (by decide)]; exact s4), q4, q5, q6, by rw [ju_at, ju_ne (by decide), ju_ne (by decide), eN, s5], by rw [ju_ne (by decide), ju_ne (by decide), ju_ne (by decide), eS]; exact s6, by rw [ju_ne (by decide), ju_ne (by decide), ju_at, kM_s (by omega)], fun z => by omega, fun z => by omega, fun z => by rw [ju_ne (by decide), ju_at, eK2], by rw [ju_ne (by decide), ju_ne (by decide), ju_ne (by decide)]; exact s10⟩)
            | (have eK2 : tK t L m p = 1 := by rw [tK_n hg, if_neg (by omega), if_neg (by omega), if_neg (by omega)]
               exact ⟨rfl, ((sF.put (by decide)).put (by decide)).put (by decide), (by intro i z0 z1; rw [ju_off _ _ _ _ _ (by decide), ju_off _ _ _ _ _ (by decide), ju_off _ _ _ _ _ (by decide)]; exact st i z0 z1), (by rw [ju_ne (by decide), ju_ne (by decide), ju_ne (by decide)]; exact s3), (by rw [ju_ne (by decide), ju_ne (by decide), ju_ne (by decide)]; exact s4), q4, q5, q6, by rw [ju_at, ju_ne (by decide), ju_ne (by decide), eN, s5], by rw [ju_ne (by decide), ju_ne (by decide), ju_ne (by decide), eS]; exact s6, by rw [ju_ne (by decide), ju_ne (by decide), ju_at, eK2]; rfl, fun z => by omega, fun z => by omega, fun z => by omega, by rw [ju_ne (by decide), ju_ne (by decide), ju_ne (by decide)]; exact s10⟩))
        refine r_iload_n (dc dkX13_go 73 rfl) rfl (np 145 rfl ?_)
        refine r_bipush (dc dkX13_go 74 rfl) bp_45 (np 147 rfl ?_)
        refine r_icmp_eq (tgt := 180) (dc dkX13_go 75 rfl) rfl (by first | assumption | decide | omega) (by first | assumption | decide | omega) (fun h147 => ?_) (fun h147 => (np 150 rfl ?_))
        · skip
          refine r_iconst (dc dkX13_go 91 rfl) (np 181 rfl ?_)
          refine r_goto (tgt := 185) (dc dkX13_go 92 rfl) rfl ?_
          refine r_pI 7 (dc dkX13_go 94 rfl) fpX13_120 fd_111_7 rfl (np 188 rfl ?_)
          refine r_aload_n (dc dkX13_go 95 rfl) rfl (np 189 rfl ?_)
          refine r_iload_n (dc dkX13_go 96 rfl) rfl (np 190 rfl ?_)
          refine r_pI 9 (dc dkX13_go 97 rfl) fpX13_130 fd_111_9 rfl (np 193 rfl ?_)
          refine r_aload_n (dc dkX13_go 98 rfl) rfl (np 194 rfl ?_)
          refine r_dup (dc dkX13_go 99 rfl) rfl (np 195 rfl ?_)
          refine r_gI 5 (dc dkX13_go 100 rfl) flX13_111 fd_111_5 rfl (np 198 rfl ?_)
          refine r_iconst (dc dkX13_go 101 rfl) (np 199 rfl ?_)
          refine r_iadd (dc dkX13_go 102 rfl) (np 200 rfl ?_)
          refine r_pI 5 (dc dkX13_go 103 rfl) fpX13_111 fd_111_5 rfl (np 203 rfl ?_)
          exact r_vret (dc dkX13_go 104 rfl) rfl (by
            have eN : tN t L m p = skp t L p + 1 := by rw [tN_n hg, if_neg (by omega), if_neg (by omega)]
            have eS := tS_n hg
            first
            | (have eK2 : tK t L m p = t (skp t L p) := by rw [tK_n hg, if_neg (by omega), if_neg (by omega), if_pos (by omega)]
               exact ⟨rfl, ((sF.put (by decide)).put (by decide)).put (by decide), (by intro i z0 z1; rw [ju_off _ _ _ _ _ (by decide), ju_off _ _ _ _ _ (by decide), ju_off _ _ _ _ _ (by decide)]; exact st i z0 z1), (by rw [ju_ne (by decide), ju_ne (by decide), ju_ne (by decide)]; exact s3), (by rw [ju_ne (by decide), ju_ne (by decide), ju_ne (by decide)]; exact s4), q4, q5, q6, by rw [ju_at, ju_ne (by decide), ju_ne (by decide), eN, s5], by rw [ju_ne (by decide), ju_ne (by decide), ju_ne (by decide), eS]; exact s6, by rw [ju_ne (by decide), ju_ne (by decide), ju_at, kM_s (by omega)], fun z => by omega, fun z => by omega, fun z => by rw [ju_ne (by decide), ju_at, eK2], by rw [ju_ne (by decide), ju_ne (by decide), ju_ne (by decide)]; exact s10⟩)
            | (have eK2 : tK t L m p = 1 := by rw [tK_n hg, if_neg (by omega), if_neg (by omega), if_neg (by omega)]
               exact ⟨rfl, ((sF.put (by decide)).put (by decide)).put (by decide), (by intro i z0 z1; rw [ju_off _ _ _ _ _ (by decide), ju_off _ _ _ _ _ (by decide), ju_off _ _ _ _ _ (by decide)]; exact st i z0 z1), (by rw [ju_ne (by decide), ju_ne (by decide), ju_ne (by decide)]; exact s3), (by rw [ju_ne (by decide), ju_ne (by decide), ju_ne (by decide)]; exact s4), q4, q5, q6, by rw [ju_at, ju_ne (by decide), ju_ne (by decide), eN, s5], by rw [ju_ne (by decide), ju_ne (by decide), ju_ne (by decide), eS]; exact s6, by rw [ju_ne (by decide), ju_ne (by decide), ju_at, eK2]; rfl, fun z => by omega, fun z => by omega, fun z => by omega, by rw [ju_ne (by decide), ju_ne (by decide), ju_ne (by decide)]; exact s10⟩))
        refine r_iload_n (dc dkX13_go 76 rfl) rfl (np 151 rfl ?_)
        refine r_bipush (dc dkX13_go 77 rfl) bp_60 (np 153 rfl ?_)
        refine r_icmp_eq (tgt := 180) (dc dkX13_go 78 rfl) rfl (by first | assumption | decide | omega) (by first | assumption | decide | omega) (fun h153 => ?_) (fun h153 => (np 156 rfl ?_))
        · skip
          refine r_iconst (dc dkX13_go 91 rfl) (np 181 rfl ?_)
          refine r_goto (tgt := 185) (dc dkX13_go 92 rfl) rfl ?_
          refine r_pI 7 (dc dkX13_go 94 rfl) fpX13_120 fd_111_7 rfl (np 188 rfl ?_)
          refine r_aload_n (dc dkX13_go 95 rfl) rfl (np 189 rfl ?_)
          refine r_iload_n (dc dkX13_go 96 rfl) rfl (np 190 rfl ?_)
          refine r_pI 9 (dc dkX13_go 97 rfl) fpX13_130 fd_111_9 rfl (np 193 rfl ?_)
          refine r_aload_n (dc dkX13_go 98 rfl) rfl (np 194 rfl ?_)
          refine r_dup (dc dkX13_go 99 rfl) rfl (np 195 rfl ?_)
          refine r_gI 5 (dc dkX13_go 100 rfl) flX13_111 fd_111_5 rfl (np 198 rfl ?_)
          refine r_iconst (dc dkX13_go 101 rfl) (np 199 rfl ?_)
          refine r_iadd (dc dkX13_go 102 rfl) (np 200 rfl ?_)
          refine r_pI 5 (dc dkX13_go 103 rfl) fpX13_111 fd_111_5 rfl (np 203 rfl ?_)
          exact r_vret (dc dkX13_go 104 rfl) rfl (by
            have eN : tN t L m p = skp t L p + 1 := by rw [tN_n hg, if_neg (by omega), if_neg (by omega)]
            have eS := tS_n hg
            first
            | (have eK2 : tK t L m p = t (skp t L p) := by rw [tK_n hg, if_neg (by omega), if_neg (by omega), if_pos (by omega)]
               exact ⟨rfl, ((sF.put (by decide)).put (by decide)).put (by decide), (by intro i z0 z1; rw [ju_off _ _ _ _ _ (by decide), ju_off _ _ _ _ _ (by decide), ju_off _ _ _ _ _ (by decide)]; exact st i z0 z1), (by rw [ju_ne (by decide), ju_ne (by decide), ju_ne (by decide)]; exact s3), (by rw [ju_ne (by decide), ju_ne (by decide), ju_ne (by decide)]; exact s4), q4, q5, q6, by rw [ju_at, ju_ne (by decide), ju_ne (by decide), eN, s5], by rw [ju_ne (by decide), ju_ne (by decide), ju_ne (by decide), eS]; exact s6, by rw [ju_ne (by decide), ju_ne (by decide), ju_at, kM_s (by omega)], fun z => by omega, fun z => by omega, fun z => by rw [ju_ne (by decide), ju_at, eK2], by rw [ju_ne (by decide), ju_ne (by decide), ju_ne (by decide)]; exact s10⟩)
            | (have eK2 : tK t L m p = 1 := by rw [tK_n hg, if_neg (by omega), if_neg (by omega), if_neg (by omega)]
               exact ⟨rfl, ((sF.put (by decide)).put (by decide)).put (by decide), (by intro i z0 z1; rw [ju_off _ _ _ _ _ (by decide), ju_off _ _ _ _ _ (by decide), ju_off _ _ _ _ _ (by decide)]; exact st i z0 z1), (by rw [ju_ne (by decide), ju_ne (by decide), ju_ne (by decide)]; exact s3), (by rw [ju_ne (by decide), ju_ne (by decide), ju_ne (by decide)]; exact s4), q4, q5, q6, by rw [ju_at, ju_ne (by decide), ju_ne (by decide), eN, s5], by rw [ju_ne (by decide), ju_ne (by decide), ju_ne (by decide), eS]; exact s6, by rw [ju_ne (by decide), ju_ne (by decide), ju_at, eK2]; rfl, fun z => by omega, fun z => by omega, fun z => by omega, by rw [ju_ne (by decide), ju_ne (by decide), ju_ne (by decide)]; exact s10⟩))
        refine r_iload_n (dc dkX13_go 79 rfl) rfl (np 157 rfl ?_)
        refine r_bipush (dc dkX13_go 80 rfl) bp_61 (np 159 rfl ?_)
        refine r_icmp_eq (tgt := 180) (dc dkX13_go 81 rfl) rfl (by first | assumption | decide | omega) (by first | assumption | decide | omega) (fun h159 => ?_) (fun h159 => (np 162 rfl ?_))
        · skip
          refine r_iconst (dc dkX13_go 91 rfl) (np 181 rfl ?_)
          refine r_goto (tgt := 185) (dc dkX13_go 92 rfl) rfl ?_
          refine r_pI 7 (dc dkX13_go 94 rfl) fpX13_120 fd_111_7 rfl (np 188 rfl ?_)
          refine r_aload_n (dc dkX13_go 95 rfl) rfl (np 189 rfl ?_)
          refine r_iload_n (dc dkX13_go 96 rfl) rfl (np 190 rfl ?_)
          refine r_pI 9 (dc dkX13_go 97 rfl) fpX13_130 fd_111_9 rfl (np 193 rfl ?_)
          refine r_aload_n (dc dkX13_go 98 rfl) rfl (np 194 rfl ?_)
          refine r_dup (dc dkX13_go 99 rfl) rfl (np 195 rfl ?_)
          refine r_gI 5 (dc dkX13_go 100 rfl) flX13_111 fd_111_5 rfl (np 198 rfl ?_)
          refine r_iconst (dc dkX13_go 101 rfl) (np 199 rfl ?_)
          refine r_iadd (dc dkX13_go 102 rfl) (np 200 rfl ?_)
          refine r_pI 5 (dc dkX13_go 103 rfl) fpX13_111 fd_111_5 rfl (np 203 rfl ?_)
          exact r_vret (dc dkX13_go 104 rfl) rfl (by
            have eN : tN t L m p = skp t L p + 1 := by rw [tN_n hg, if_neg (by omega), if_neg (by omega)]
            have eS := tS_n hg
            first
            | (have eK2 : tK t L m p = t (skp t L p) := by rw [tK_n hg, if_neg (by omega), if_neg (by omega), if_pos (by omega)]
               exact ⟨rfl, ((sF.put (by decide)).put (by decide)).put (by decide), (by intro i z0 z1; rw [ju_off _ _ _ _ _ (by decide), ju_off _ _ _ _ _ (by decide), ju_off _ _ _ _ _ (by decide)]; exact st i z0 z1), (by rw [ju_ne (by decide), ju_ne (by decide), ju_ne (by decide)]; exact s3), (by rw [ju_ne (by decide), ju_ne (by decide), ju_ne (by decide)]; exact s4), q4, q5, q6, by rw [ju_at, ju_ne (by decide), ju_ne (by decide), eN, s5], by rw [ju_ne (by decide), ju_ne (by decide), ju_ne (by decide), eS]; exact s6, by rw [ju_ne (by decide), ju_ne (by decide), ju_at, kM_s (by omega)], fun z => by omega, fun z => by omega, fun z => by rw [ju_ne (by decide), ju_at, eK2], by rw [ju_ne (by decide), ju_ne (by decide), ju_ne (by decide)]; exact s10⟩)
            | (have eK2 : tK t L m p = 1 := by rw [tK_n hg, if_neg (by omega), if_neg (by omega), if_neg (by omega)]
               exact ⟨rfl, ((sF.put (by decide)).put (by decide)).put (by decide), (by intro i z0 z1; rw [ju_off _ _ _ _ _ (by decide), ju_off _ _ _ _ _ (by decide), ju_off _ _ _ _ _ (by decide)]; exact st i z0 z1), (by rw [ju_ne (by decide), ju_ne (by decide), ju_ne (by decide)]; exact s3), (by rw [ju_ne (by decide), ju_ne (by decide), ju_ne (by decide)]; exact s4), q4, q5, q6, by rw [ju_at, ju_ne (by decide), ju_ne (by decide), eN, s5], by rw [ju_ne (by decide), ju_ne (by decide), ju_ne (by decide), eS]; exact s6, by rw [ju_ne (by decide), ju_ne (by decide), ju_at, eK2]; rfl, fun z => by omega, fun z => by omega, fun z => by omega, by rw [ju_ne (by decide), ju_ne (by decide), ju_ne (by decide)]; exact s10⟩))
        refine r_iload_n (dc dkX13_go 82 rfl) rfl (np 163 rfl ?_)
        refine r_bipush (dc dkX13_go 83 rfl) bp_62 (np 165 rfl ?_)
        refine r_icmp_eq (tgt := 180) (dc dkX13_go 84 rfl) rfl (by first | assumption | decide | omega) (by first | assumption | decide | omega) (fun h165 => ?_) (fun h165 => (np 168 rfl ?_))
        · skip
          refine r_iconst (dc dkX13_go 91 rfl) (np 181 rfl ?_)
          refine r_goto (tgt := 185) (dc dkX13_go 92 rfl) rfl ?_
          refine r_pI 7 (dc dkX13_go 94 rfl) fpX13_120 fd_111_7 rfl (np 188 rfl ?_)
          refine r_aload_n (dc dkX13_go 95 rfl) rfl (np 189 rfl ?_)
          refine r_iload_n (dc dkX13_go 96 rfl) rfl (np 190 rfl ?_)
          refine r_pI 9 (dc dkX13_go 97 rfl) fpX13_130 fd_111_9 rfl (np 193 rfl ?_)
          refine r_aload_n (dc dkX13_go 98 rfl) rfl (np 194 rfl ?_)
          refine r_dup (dc dkX13_go 99 rfl) rfl (np 195 rfl ?_)
          refine r_gI 5 (dc dkX13_go 100 rfl) flX13_111 fd_111_5 rfl (np 198 rfl ?_)
          refine r_iconst (dc dkX13_go 101 rfl) (np 199 rfl ?_)
          refine r_iadd (dc dkX13_go 102 rfl) (np 200 rfl ?_)
          refine r_pI 5 (dc dkX13_go 103 rfl) fpX13_111 fd_111_5 rfl (np 203 rfl ?_)
          exact r_vret (dc dkX13_go 104 rfl) rfl (by
            have eN : tN t L m p = skp t L p + 1 := by rw [tN_n hg, if_neg (by omega), if_neg (by omega)]
            have eS := tS_n hg
            first
            | (have eK2 : tK t L m p = t (skp t L p) := by rw [tK_n hg, if_neg (by omega), if_neg (by omega), if_pos (by omega)]
               exact ⟨rfl, ((sF.put (by decide)).put (by decide)).put (by decide), (by intro i z0 z1; rw [ju_off _ _ _ _ _ (by decide), ju_off _ _ _ _ _ (by decide), ju_off _ _ _ _ _ (by decide)]; exact st i z0 z1), (by rw [ju_ne (by decide), ju_ne (by decide), ju_ne (by decide)]; exact s3), (by rw [ju_ne (by decide), ju_ne (by decide), ju_ne (by decide)]; exact s4), q4, q5, q6, by rw [ju_at, ju_ne (by decide), ju_ne (by decide), eN, s5], by rw [ju_ne (by decide), ju_ne (by decide), ju_ne (by decide), eS]; exact s6, by rw [ju_ne (by decide), ju_ne (by decide), ju_at, kM_s (by omega)], fun z => by omega, fun z => by omega, fun z => by rw [ju_ne (by decide), ju_at, eK2], by rw [ju_ne (by decide), ju_ne (by decide), ju_ne (by decide)]; exact s10⟩)
            | (have eK2 : tK t L m p = 1 := by rw [tK_n hg, if_neg (by omega), if_neg (by omega), if_neg (by omega)]
               exact ⟨rfl, ((sF.put (by decide)).put (by decide)).put (by decide), (by intro i z0 z1; rw [ju_off _ _ _ _ _ (by decide), ju_off _ _ _ _ _ (by decide), ju_off _ _ _ _ _ (by decide)]; exact st i z0 z1), (by rw [ju_ne (by decide), ju_ne (by decide), ju_ne (by decide)]; exact s3), (by rw [ju_ne (by decide), ju_ne (by decide), ju_ne (by decide)]; exact s4), q4, q5, q6, by rw [ju_at, ju_ne (by decide), ju_ne (by decide), eN, s5], by rw [ju_ne (by decide), ju_ne (by decide), ju_ne (by decide), eS]; exact s6, by rw [ju_ne (by decide), ju_ne (by decide), ju_at, eK2]; rfl, fun z => by omega, fun z => by omega, fun z => by omega, by rw [ju_ne (by decide), ju_ne (by decide), ju_ne (by decide)]; exact s10⟩))
        refine r_iload_n (dc dkX13_go 85 rfl) rfl (np 169 rfl ?_)
        refine r_bipush (dc dkX13_go 86 rfl) bp_40 (np 171 rfl ?_)
        refine r_icmp_eq (tgt := 180) (dc dkX13_go 87 rfl) rfl (by first | assumption | decide | omega) (by first | assumption | decide | omega) (fun h171 => ?_) (fun h171 => (np 174 rfl ?_))
        · skip
          refine r_iconst (dc dkX13_go 91 rfl) (np 181 rfl ?_)
          refine r_goto (tgt := 185) (dc dkX13_go 92 rfl) rfl ?_
          refine r_pI 7 (dc dkX13_go 94 rfl) fpX13_120 fd_111_7 rfl (np 188 rfl ?_)
          refine r_aload_n (dc dkX13_go 95 rfl) rfl (np 189 rfl ?_)
          refine r_iload_n (dc dkX13_go 96 rfl) rfl (np 190 rfl ?_)
          refine r_pI 9 (dc dkX13_go 97 rfl) fpX13_130 fd_111_9 rfl (np 193 rfl ?_)
          refine r_aload_n (dc dkX13_go 98 rfl) rfl (np 194 rfl ?_)
          refine r_dup (dc dkX13_go 99 rfl) rfl (np 195 rfl ?_)
          refine r_gI 5 (dc dkX13_go 100 rfl) flX13_111 fd_111_5 rfl (np 198 rfl ?_)
          refine r_iconst (dc dkX13_go 101 rfl) (np 199 rfl ?_)
          refine r_iadd (dc dkX13_go 102 rfl) (np 200 rfl ?_)
          refine r_pI 5 (dc dkX13_go 103 rfl) fpX13_111 fd_111_5 rfl (np 203 rfl ?_)
          exact r_vret (dc dkX13_go 104 rfl) rfl (by
            have eN : tN t L m p = skp t L p + 1 := by rw [tN_n hg, if_neg (by omega), if_neg (by omega)]
            have eS := tS_n hg
            first
            | (have eK2 : tK t L m p = t (skp t L p) := by rw [tK_n hg, if_neg (by omega), if_neg (by omega), if_pos (by omega)]
               exact ⟨rfl, ((sF.put (by decide)).put (by decide)).put (by decide), (by intro i z0 z1; rw [ju_off _ _ _ _ _ (by decide), ju_off _ _ _ _ _ (by decide), ju_off _ _ _ _ _ (by decide)]; exact st i z0 z1), (by rw [ju_ne (by decide), ju_ne (by decide), ju_ne (by decide)]; exact s3), (by rw [ju_ne (by decide), ju_ne (by decide), ju_ne (by decide)]; exact s4), q4, q5, q6, by rw [ju_at, ju_ne (by decide), ju_ne (by decide), eN, s5], by rw [ju_ne (by decide), ju_ne (by decide), ju_ne (by decide), eS]; exact s6, by rw [ju_ne (by decide), ju_ne (by decide), ju_at, kM_s (by omega)], fun z => by omega, fun z => by omega, fun z => by rw [ju_ne (by decide), ju_at, eK2], by rw [ju_ne (by decide), ju_ne (by decide), ju_ne (by decide)]; exact s10⟩)
            | (have eK2 : tK t L m p = 1 := by rw [tK_n hg, if_neg (by omega), if_neg (by omega), if_neg (by omega)]
               exact ⟨rfl, ((sF.put (by decide)).put (by decide)).put (by decide), (by intro i z0 z1; rw [ju_off _ _ _ _ _ (by decide), ju_off _ _ _ _ _ (by decide), ju_off _ _ _ _ _ (by decide)]; exact st i z0 z1), (by rw [ju_ne (by decide), ju_ne (by decide), ju_ne (by decide)]; exact s3), (by rw [ju_ne (by decide), ju_ne (by decide), ju_ne (by decide)]; exact s4), q4, q5, q6, by rw [ju_at, ju_ne (by decide), ju_ne (by decide), eN, s5], by rw [ju_ne (by decide), ju_ne (by decide), ju_ne (by decide), eS]; exact s6, by rw [ju_ne (by decide), ju_ne (by decide), ju_at, eK2]; rfl, fun z => by omega, fun z => by omega, fun z => by omega, by rw [ju_ne (by decide), ju_ne (by decide), ju_ne (by decide)]; exact s10⟩))
        refine r_iload_n (dc dkX13_go 88 rfl) rfl (np 175 rfl ?_)
        refine r_bipush (dc dkX13_go 89 rfl) bp_41 (np 177 rfl ?_)
        refine r_icmp_ne (tgt := 184) (dc dkX13_go 90 rfl) rfl (by first | assumption | decide | omega) (by first | assumption | decide | omega) (fun h177 => ?_) (fun h177 => (np 180 rfl ?_))
        · skip
          refine r_iconst (dc dkX13_go 93 rfl) (np 185 rfl ?_)
          refine r_pI 7 (dc dkX13_go 94 rfl) fpX13_120 fd_111_7 rfl (np 188 rfl ?_)
          refine r_aload_n (dc dkX13_go 95 rfl) rfl (np 189 rfl ?_)
          refine r_iload_n (dc dkX13_go 96 rfl) rfl (np 190 rfl ?_)
          refine r_pI 9 (dc dkX13_go 97 rfl) fpX13_130 fd_111_9 rfl (np 193 rfl ?_)
          refine r_aload_n (dc dkX13_go 98 rfl) rfl (np 194 rfl ?_)
          refine r_dup (dc dkX13_go 99 rfl) rfl (np 195 rfl ?_)
          refine r_gI 5 (dc dkX13_go 100 rfl) flX13_111 fd_111_5 rfl (np 198 rfl ?_)
          refine r_iconst (dc dkX13_go 101 rfl) (np 199 rfl ?_)
          refine r_iadd (dc dkX13_go 102 rfl) (np 200 rfl ?_)
          refine r_pI 5 (dc dkX13_go 103 rfl) fpX13_111 fd_111_5 rfl (np 203 rfl ?_)
          exact r_vret (dc dkX13_go 104 rfl) rfl (by
            have eN : tN t L m p = skp t L p + 1 := by rw [tN_n hg, if_neg (by omega), if_neg (by omega)]
            have eS := tS_n hg
            first
            | (have eK2 : tK t L m p = t (skp t L p) := by rw [tK_n hg, if_neg (by omega), if_neg (by omega), if_pos (by omega)]
               exact ⟨rfl, ((sF.put (by decide)).put (by decide)).put (by decide), (by intro i z0 z1; rw [ju_off _ _ _ _ _ (by decide), ju_off _ _ _ _ _ (by decide), ju_off _ _ _ _ _ (by decide)]; exact st i z0 z1), (by rw [ju_ne (by decide), ju_ne (by decide), ju_ne (by decide)]; exact s3), (by rw [ju_ne (by decide), ju_ne (by decide), ju_ne (by decide)]; exact s4), q4, q5, q6, by rw [ju_at, ju_ne (by decide), ju_ne (by decide), eN, s5], by rw [ju_ne (by decide), ju_ne (by decide), ju_ne (by decide), eS]; exact s6, by rw [ju_ne (by decide), ju_ne (by decide), ju_at, kM_s (by omega)], fun z => by omega, fun z => by omega, fun z => by rw [ju_ne (by decide), ju_at, eK2], by rw [ju_ne (by decide), ju_ne (by decide), ju_ne (by decide)]; exact s10⟩)
            | (have eK2 : tK t L m p = 1 := by rw [tK_n hg, if_neg (by omega), if_neg (by omega), if_neg (by omega)]
               exact ⟨rfl, ((sF.put (by decide)).put (by decide)).put (by decide), (by intro i z0 z1; rw [ju_off _ _ _ _ _ (by decide), ju_off _ _ _ _ _ (by decide), ju_off _ _ _ _ _ (by decide)]; exact st i z0 z1), (by rw [ju_ne (by decide), ju_ne (by decide), ju_ne (by decide)]; exact s3), (by rw [ju_ne (by decide), ju_ne (by decide), ju_ne (by decide)]; exact s4), q4, q5, q6, by rw [ju_at, ju_ne (by decide), ju_ne (by decide), eN, s5], by rw [ju_ne (by decide), ju_ne (by decide), ju_ne (by decide), eS]; exact s6, by rw [ju_ne (by decide), ju_ne (by decide), ju_at, eK2]; rfl, fun z => by omega, fun z => by omega, fun z => by omega, by rw [ju_ne (by decide), ju_ne (by decide), ju_ne (by decide)]; exact s10⟩))
        refine r_iconst (dc dkX13_go 91 rfl) (np 181 rfl ?_)
        refine r_goto (tgt := 185) (dc dkX13_go 92 rfl) rfl ?_
        refine r_pI 7 (dc dkX13_go 94 rfl) fpX13_120 fd_111_7 rfl (np 188 rfl ?_)
        refine r_aload_n (dc dkX13_go 95 rfl) rfl (np 189 rfl ?_)
        refine r_iload_n (dc dkX13_go 96 rfl) rfl (np 190 rfl ?_)
        refine r_pI 9 (dc dkX13_go 97 rfl) fpX13_130 fd_111_9 rfl (np 193 rfl ?_)
        refine r_aload_n (dc dkX13_go 98 rfl) rfl (np 194 rfl ?_)
        refine r_dup (dc dkX13_go 99 rfl) rfl (np 195 rfl ?_)
        refine r_gI 5 (dc dkX13_go 100 rfl) flX13_111 fd_111_5 rfl (np 198 rfl ?_)
        refine r_iconst (dc dkX13_go 101 rfl) (np 199 rfl ?_)
        refine r_iadd (dc dkX13_go 102 rfl) (np 200 rfl ?_)
        refine r_pI 5 (dc dkX13_go 103 rfl) fpX13_111 fd_111_5 rfl (np 203 rfl ?_)
        exact r_vret (dc dkX13_go 104 rfl) rfl (by
          have eN : tN t L m p = skp t L p + 1 := by rw [tN_n hg, if_neg (by omega), if_neg (by omega)]
          have eS := tS_n hg
          first
          | (have eK2 : tK t L m p = t (skp t L p) := by rw [tK_n hg, if_neg (by omega), if_neg (by omega), if_pos (by omega)]
             exact ⟨rfl, ((sF.put (by decide)).put (by decide)).put (by decide), (by intro i z0 z1; rw [ju_off _ _ _ _ _ (by decide), ju_off _ _ _ _ _ (by decide), ju_off _ _ _ _ _ (by decide)]; exact st i z0 z1), (by rw [ju_ne (by decide), ju_ne (by decide), ju_ne (by decide)]; exact s3), (by rw [ju_ne (by decide), ju_ne (by decide), ju_ne (by decide)]; exact s4), q4, q5, q6, by rw [ju_at, ju_ne (by decide), ju_ne (by decide), eN, s5], by rw [ju_ne (by decide), ju_ne (by decide), ju_ne (by decide), eS]; exact s6, by rw [ju_ne (by decide), ju_ne (by decide), ju_at, kM_s (by omega)], fun z => by omega, fun z => by omega, fun z => by rw [ju_ne (by decide), ju_at, eK2], by rw [ju_ne (by decide), ju_ne (by decide), ju_ne (by decide)]; exact s10⟩)
          | (have eK2 : tK t L m p = 1 := by rw [tK_n hg, if_neg (by omega), if_neg (by omega), if_neg (by omega)]
             exact ⟨rfl, ((sF.put (by decide)).put (by decide)).put (by decide), (by intro i z0 z1; rw [ju_off _ _ _ _ _ (by decide), ju_off _ _ _ _ _ (by decide), ju_off _ _ _ _ _ (by decide)]; exact st i z0 z1), (by rw [ju_ne (by decide), ju_ne (by decide), ju_ne (by decide)]; exact s3), (by rw [ju_ne (by decide), ju_ne (by decide), ju_ne (by decide)]; exact s4), q4, q5, q6, by rw [ju_at, ju_ne (by decide), ju_ne (by decide), eN, s5], by rw [ju_ne (by decide), ju_ne (by decide), ju_ne (by decide), eS]; exact s6, by rw [ju_ne (by decide), ju_ne (by decide), ju_at, eK2]; rfl, fun z => by omega, fun z => by omega, fun z => by omega, by rw [ju_ne (by decide), ju_ne (by decide), ju_ne (by decide)]; exact s10⟩))
      refine r_aload_n (dc dkX13_go 53 rfl) rfl (np 108 rfl ?_)
      refine r_iconst (dc dkX13_go 54 rfl) (np 109 rfl ?_)
      refine r_pI 7 (dc dkX13_go 55 rfl) fpX13_120 fd_111_7 rfl (np 112 rfl ?_)
      exact r_vret (dc dkX13_go 56 rfl) rfl (by
          have eK : tK t L m p = 0 := by rw [tK_n hg, if_pos (by omega)]
          exact ⟨rfl, sF.put (by decide), (by intro i z0 z1; rw [ju_off _ _ _ _ _ (by decide)]; exact st i z0 z1), by rw [ju_ne (by decide)]; exact s3, by rw [ju_ne (by decide)]; exact s4, q4, q5, q6, by rw [ju_ne (by decide), tN_n hg, if_pos (by omega)]; exact s5, by rw [ju_ne (by decide), tS_n hg]; exact s6, by rw [ju_at, eK]; rfl, fun z => by omega, fun z => by omega, fun z => by omega, by rw [ju_ne (by decide)]; exact s10⟩)
    refine r_gI 3 (dc dkX13_go 31 rfl) flX13_109 fd_111_3 rfl (np 64 rfl ?_)
    refine r_aload_n (dc dkX13_go 32 rfl) rfl (np 65 rfl ?_)
    refine r_gI 4 (dc dkX13_go 33 rfl) flX13_117 fd_111_4 rfl (np 68 rfl ?_)
    refine r_icmp_le (tgt := 96) (dc dkX13_go 34 rfl) rfl (by first | assumption | decide | omega) (by first | assumption | decide | omega) (fun h68 => ?_) (fun h68 => (np 71 rfl ?_))
    · skip
      refine r_pick [0] rfl ?_
      exact jj96 (fun z => by have z1 := z.1; have z2 := z.2; omega)
    refine r_aload_n (dc dkX13_go 35 rfl) rfl (np 72 rfl ?_)
    refine r_gI 6 (dc dkX13_go 36 rfl) flX13_114 fd_111_6 rfl (np 75 rfl ?_)
    refine r_aload_n (dc dkX13_go 37 rfl) rfl (np 76 rfl ?_)
    refine r_gI 4 (dc dkX13_go 38 rfl) flX13_117 fd_111_4 rfl (np 79 rfl ?_)
    refine r_icmp_lt (tgt := 96) (dc dkX13_go 39 rfl) rfl (by first | assumption | decide | omega) (by first | assumption | decide | omega) (fun h79 => ?_) (fun h79 => (np 82 rfl ?_))
    · skip
      refine r_pick [0] rfl ?_
      exact jj96 (fun z => by have z1 := z.1; have z2 := z.2; omega)
    have hg : tLg t L m p := ⟨by omega, by omega⟩
    refine r_aload_n (dc dkX13_go 40 rfl) rfl (np 83 rfl ?_)
    refine r_aload_n (dc dkX13_go 41 rfl) rfl (np 84 rfl ?_)
    refine r_gI 4 (dc dkX13_go 42 rfl) flX13_117 fd_111_4 rfl (np 87 rfl ?_)
    refine r_pI 6 (dc dkX13_go 43 rfl) fpX13_114 fd_111_6 rfl (np 90 rfl ?_)
    refine r_aload_n (dc dkX13_go 44 rfl) rfl (np 91 rfl ?_)
    refine r_iconst (dc dkX13_go 45 rfl) (np 92 rfl ?_)
    refine r_pI 7 (dc dkX13_go 46 rfl) fpX13_120 fd_111_7 rfl (np 95 rfl ?_)
    exact r_vret (dc dkX13_go 47 rfl) rfl ⟨rfl, (sF.put (by decide)).put (by decide), (by intro i z0 z1; rw [ju_off _ _ _ _ _ (by decide), ju_off _ _ _ _ _ (by decide)]; exact st i z0 z1), by rw [ju_ne (by decide), ju_ne (by decide)]; exact s3, by rw [ju_ne (by decide), ju_ne (by decide)]; exact s4, q4, q5, q6, by rw [ju_ne (by decide), ju_ne (by decide), tN_g hg]; exact s5, by rw [ju_ne (by decide), ju_at, tS_g hg]; exact s4, by rw [ju_at, tK_g hg]; rfl, fun z => by have := tK_g hg; omega, fun z => by have := tK_g hg; omega, fun z => by have := tK_g hg; omega, by rw [ju_ne (by decide), ju_ne (by decide)]; exact s10⟩
  refine r_aload_n (dc dkX13_go 0 rfl) rfl (np 1 rfl ?_)
  refine r_gI 5 (dc dkX13_go 1 rfl) flX13_111 fd_111_5 rfl (np 4 rfl ?_)
  refine r_aload_n (dc dkX13_go 2 rfl) rfl (np 5 rfl ?_)
  refine r_gI 3 (dc dkX13_go 3 rfl) flX13_109 fd_111_3 rfl (np 8 rfl ?_)
  refine r_icmp_ge (tgt := 52) (dc dkX13_go 4 rfl) rfl (by first | assumption | decide | omega) (by first | assumption | decide | omega) (fun h8 => ?_) (fun h8 => (np 11 rfl ?_))
  · skip
    refine r_pick [0] rfl ?_
    exact jj52 (by rw [hk, skF_n (by omega)])
  have e5 := e1 (τ 111 5) (by omega) (by omega)
  refine r_aload_n (dc dkX13_go 5 rfl) rfl (np 12 rfl ?_)
  refine r_getR (dc dkX13_go 6 rfl) flX13_7 fd_111_1 (np 15 rfl ?_)
  refine r_aload_n (dc dkX13_go 7 rfl) rfl (np 16 rfl ?_)
  refine r_gI 5 (dc dkX13_go 8 rfl) flX13_111 fd_111_5 rfl (np 19 rfl ?_)
  refine r_iald (dc dkX13_go 9 rfl) ar_112 (by omega) (np 20 rfl ?_)
  refine r_bipush (dc dkX13_go 10 rfl) bp_32 (np 22 rfl ?_)
  refine r_icmp_eq (tgt := 39) (dc dkX13_go 11 rfl) rfl (by first | assumption | decide | omega) (by first | assumption | decide | omega) (fun h22 => ?_) (fun h22 => (np 25 rfl ?_))
  · skip
    refine r_aload_n (dc dkX13_go 19 rfl) rfl (np 40 rfl ?_)
    refine r_dup (dc dkX13_go 20 rfl) rfl (np 41 rfl ?_)
    refine r_gI 5 (dc dkX13_go 21 rfl) flX13_111 fd_111_5 rfl (np 44 rfl ?_)
    refine r_iconst (dc dkX13_go 22 rfl) (np 45 rfl ?_)
    refine r_iadd (dc dkX13_go 23 rfl) (np 46 rfl ?_)
    refine r_pI 5 (dc dkX13_go 24 rfl) fpX13_111 fd_111_5 rfl (np 49 rfl ?_)
    refine r_goto (tgt := 0) (dc dkX13_go 25 rfl) rfl ?_
    refine r_pick [0] rfl ?_
    exact ih0 _ ⟨hs.put (by decide), by rw [ju_at]; omega, by rw [ju_at, hk, skF_y (by omega) (by omega)]⟩ (by rw [ju_at]; omega)
  refine r_aload_n (dc dkX13_go 12 rfl) rfl (np 26 rfl ?_)
  refine r_getR (dc dkX13_go 13 rfl) flX13_7 fd_111_1 (np 29 rfl ?_)
  refine r_aload_n (dc dkX13_go 14 rfl) rfl (np 30 rfl ?_)
  refine r_gI 5 (dc dkX13_go 15 rfl) flX13_111 fd_111_5 rfl (np 33 rfl ?_)
  refine r_iald (dc dkX13_go 16 rfl) ar_112 (by omega) (np 34 rfl ?_)
  refine r_bipush (dc dkX13_go 17 rfl) bp_10 (np 36 rfl ?_)
  refine r_icmp_ne (tgt := 52) (dc dkX13_go 18 rfl) rfl (by first | assumption | decide | omega) (by first | assumption | decide | omega) (fun h36 => ?_) (fun h36 => (np 39 rfl ?_))
  · skip
    refine r_pick [0] rfl ?_
    exact jj52 (by rw [hk, skF_n (by omega)])
  refine r_aload_n (dc dkX13_go 19 rfl) rfl (np 40 rfl ?_)
  refine r_dup (dc dkX13_go 20 rfl) rfl (np 41 rfl ?_)
  refine r_gI 5 (dc dkX13_go 21 rfl) flX13_111 fd_111_5 rfl (np 44 rfl ?_)
  refine r_iconst (dc dkX13_go 22 rfl) (np 45 rfl ?_)
  refine r_iadd (dc dkX13_go 23 rfl) (np 46 rfl ?_)
  refine r_pI 5 (dc dkX13_go 24 rfl) fpX13_111 fd_111_5 rfl (np 49 rfl ?_)
  refine r_goto (tgt := 0) (dc dkX13_go 25 rfl) rfl ?_
  refine r_pick [0] rfl ?_
  exact ih0 _ ⟨hs.put (by decide), by rw [ju_at]; omega, by rw [ju_at, hk, skF_y (by omega) (by omega)]⟩ (by rw [ju_at]; omega)
