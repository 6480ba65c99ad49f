/-! ===== what is said of a band: the reference ===== -/
noncomputable def msR (n : Int) (P : Int → Int) (w : Int) : Int := if w = 12 then ((areaS n P).natAbs : Int) else if w = 13 then onN n P else if w = 14 then (((areaS n P).natAbs : Int) - onN n P + 2).tdiv 2 else if w = 15 then n else rightR n P
def lieR (σ : jS) (a b : Int) : Prop := ¬ a = b ∧ (¬ ∃ i j, (0 ≤ i ∧ i < cn σ 113 a) ∧ (0 ≤ j ∧ j < cn σ 113 b) ∧ 0 < mt (rP σ 113 a i) (rP σ 113 a (i + 1)) (rP σ 113 b j) (rP σ 113 b (j + 1))) ∧ ¬ isOnB (cn σ 113 b) (rP σ 113 b) (10 * (rP σ 113 a 0 / 10) + rP σ 113 a 0 % 10) ∧ encRB 1 (cn σ 113 b) (rP σ 113 b) (rP σ 113 a 0 % 10) (rP σ 113 a 0 / 10)
noncomputable def oNm (σ : jS) (k : Int) : Int := fi (fun b => σ 118 b = σ 121 (σ 113 (272 + (4 * k + 1)))) (σ 113 4)
def atM (σ : jS) (b k : Int) : Prop :=
  if σ 113 (272 + 4 * k) = 59 then ¬ oNm σ k = -1 ∧ lieR σ b (oNm σ k)
  else if σ 113 (272 + 4 * k) = 60 then ¬ oNm σ k = -1 ∧ alk (cn σ 113 b) (rP σ 113 b) (cn σ 113 (oNm σ k)) (rP σ 113 (oNm σ k)) (lPs 2)
  else if σ 113 (272 + 4 * k) = 61 then 0 < bentR (cn σ 113 b) (rP σ 113 b)
  else cmpS (σ 113 (272 + (4 * k + 3)) - 60) (msR (cn σ 113 b) (rP σ 113 b) (σ 113 (272 + 4 * k) - 50)) (σ 113 (272 + (4 * k + 2)))
theorem atM_e {σ τ : jS} (e1 : τ 113 = σ 113) (e2 : τ 118 = σ 118) (e3 : τ 121 = σ 121) : atM τ = atM σ := by
  have f1 : cn τ 113 = cn σ 113 := by funext b; exact cn_c e1 b
  have f2 : rP τ 113 = rP σ 113 := by funext b; exact rP_c2 e1 b
  funext b k
  unfold atM oNm lieR
  rw [e1, e2, e3, f1, f2]
theorem msR_b {n : Int} {P : Int → Int} (hn : 0 ≤ n ∧ n ≤ 8) (hp : ∀ i, isPg (P i)) (w : Int) : -2000 ≤ msR n P w ∧ msR n P w ≤ 2000 := by
  have a := smI_b (f := fun i => sh (P i) (P (i + 1))) (A := 81) (n := n) hn.1 (fun i i0 i1 => sh_b (hp i) (hp (i + 1)))
  replace a : -(n * 81) ≤ areaS n P ∧ areaS n P ≤ n * 81 := a
  have b := smI_nn (f := fun i => pts (P i) (P (i + 1))) (A := 9) (n := n) hn.1 (fun i i0 i1 => pts_b (hp i) (hp (i + 1)))
  replace b : 0 ≤ onN n P ∧ onN n P ≤ n * 9 := b
  have c := smI_nn (f := fun i => bI (al (P i) (P (i + n - 1)) (P (i + 1)) = 0)) (A := 1) (n := n) hn.1 (fun i _ _ => bI_b _)
  replace c : 0 ≤ rightR n P ∧ rightR n P ≤ n * 1 := c
  have d := td2_b (x := ((areaS n P).natAbs : Int) - onN n P + 2) (M := 2000) (by omega)
  unfold msR
  split
  · omega
  · split
    · omega
    · split
      · omega
      · split <;> omega
section
variable {v : Int → Prop} {nd sy idn : Int → Int} {f : Nat} {k : Int}
theorem ev_1 (h : nd (4 * k) = 1) : evM v nd sy idn (f + 1) k ↔ ¬ evM v nd sy idn f (nd (4 * k + 1)) := by rw [evM, if_pos h]
theorem ev_2 (h : nd (4 * k) = 2) : evM v nd sy idn (f + 1) k ↔ (evM v nd sy idn f (nd (4 * k + 1)) ∧ evM v nd sy idn f (nd (4 * k + 2))) := by rw [evM, if_neg (by omega), if_pos h]
theorem ev_3 (h : nd (4 * k) = 3) : evM v nd sy idn (f + 1) k ↔ (evM v nd sy idn f (nd (4 * k + 1)) ∨ evM v nd sy idn f (nd (4 * k + 2))) := by rw [evM, if_neg (by omega), if_neg (by omega), if_pos h]
theorem ev_a (h : 59 ≤ nd (4 * k)) : evM v nd sy idn (f + 1) k ↔ v (cdM nd sy idn k) := by rw [evM, if_neg (by omega), if_neg (by omega), if_neg (by omega)]
end
/-- what the reference's rows must be for a sentence to be said -/
def okSn (σ : jS) (N M : Int) : Prop := okN σ ∧ (0 ≤ N ∧ N ≤ 40) ∧ (0 ≤ M ∧ M ≤ 20) ∧ okNd N M (fun j => σ 113 (272 + j)) ∧ okSy M (σ 121) ∧ ∀ j, 0 ≤ j → j < 8 → lR (σ 118 j)
theorem okSn_e {σ τ : jS} {N M : Int} (h : okSn σ N M) (e1 : τ 113 = σ 113) (e2 : τ 118 = σ 118) (e3 : τ 121 = σ 121) : okSn τ N M := by
  unfold okSn
  rw [e1, e2, e3]
  exact ⟨okN_c h.1 e1, h.2⟩
def cHo (f : Nat) : Prop := ∀ {σ : jS} {N M : Int}, okSn σ N M → ∀ {k b : Int}, (0 ≤ k ∧ k < N) → k < f → (0 ≤ b ∧ b < σ 113 4) → ∀ {v : Int → Prop} {idn : Int → Int}, (∀ k, 0 ≤ k → k < N → 59 ≤ σ 113 (272 + 4 * k) → (v (cdM (fun j => σ 113 (272 + j)) (σ 121) idn k) ↔ atM σ b k)) → Jm (9 + f) miX13_holds [.ref 111, vI k, vI b] σ (fun r τ => r = some (vI (bI (evM v (fun j => σ 113 (272 + j)) (σ 121) idn f k))) ∧ same [125, 126, 127, 128] σ τ)
theorem cHo_0 : cHo 0 := by
  intro σ N M hS k b hk hf
  omega
set_option maxRecDepth 100000 in
set_option maxHeartbeats 4000000 in
theorem cHo_s {f : Nat} (ih : cHo f) : cHo (f + 1) := by
  intro σ N M hS k b hk hf hb v idn hv
  obtain ⟨hN, hN40, hM20, hNd, hSy, hlR⟩ := hS
  have hS : okSn σ N M := ⟨hN, hN40, hM20, hNd, hSy, hlR⟩
  have m8 := hN.1.2.2.2.2.1
  have vb := hN.2 b hb.1 hb.2
  have v8 := vb.1
  have pg : ∀ i, isPg (rP σ 113 b i) := fun i => rP_p vb i
  obtain ⟨n0, hn0⟩ : ∃ x, x = σ 113 (272 + 4 * k) := ⟨_, rfl⟩
  obtain ⟨n1, hn1⟩ : ∃ x, x = σ 113 (272 + (4 * k + 1)) := ⟨_, rfl⟩
  obtain ⟨n2, hn2⟩ : ∃ x, x = σ 113 (272 + (4 * k + 2)) := ⟨_, rfl⟩
  obtain ⟨n3, hn3⟩ : ∃ x, x = σ 113 (272 + (4 * k + 3)) := ⟨_, rfl⟩
  have hkk : (n0 = 1 ∧ 0 ≤ n1 ∧ n1 < k) ∨ ((n0 = 2 ∨ n0 = 3) ∧ (0 ≤ n1 ∧ n1 < k) ∧ (0 ≤ n2 ∧ n2 < k)) ∨ ((n0 = 59 ∨ n0 = 60) ∧ 0 ≤ n1 ∧ n1 < M) ∨ n0 = 61 ∨ ((62 ≤ n0 ∧ n0 ≤ 66) ∧ (60 ≤ n3 ∧ n3 ≤ 62) ∧ (0 ≤ n2 ∧ n2 ≤ 999)) := by
    rw [hn0, hn1, hn2, hn3]; exact hNd k hk.1 hk.2
  have mb := msR_b (n := cn σ 113 b) (P := rP σ 113 b) (by omega) pg (n0 - 50)
  have evA : 59 ≤ n0 → (evM v (fun j => σ 113 (272 + j)) (σ 121) idn (f + 1) k ↔ atM σ b k) := fun h => (ev_a (by show 59 ≤ σ 113 (272 + 4 * k); omega)).trans (hv k hk.1 hk.2 (by omega))
  refine jm_ofF (Po := (fun r τ => r = some (vI (bI (evM v (fun j => σ 113 (272 + j)) (σ 121) idn (f + 1) k))) ∧ same [125, 126, 127, 128] σ τ)) (plainFor_of_name (by decide)) (Nat.le_of_ble_eq_true rfl) (lv := [(0, _), (1, _), (2, _)]) rfl ?_
  refine r_sipush (dc dkX13_holds 0 rfl) sp_272 (np 3 rfl ?_)
  refine r_iconst (dc dkX13_holds 1 rfl) (np 4 rfl ?_)
  refine r_iload_n (dc dkX13_holds 2 rfl) rfl (np 5 rfl ?_)
  refine r_imul (dc dkX13_holds 3 rfl) (np 6 rfl ?_)
  refine r_iadd (dc dkX13_holds 4 rfl) (np 7 rfl ?_)
  refine r_istore_n (lv' := [(3, _), (0, _), (1, _), (2, _)]) (dc dkX13_holds 5 rfl) (Nat.le_of_ble_eq_true rfl) rfl (np 8 rfl ?_)
  refine r_aload_n (dc dkX13_holds 6 rfl) rfl (np 9 rfl ?_)
  refine r_getR (dc dkX13_holds 7 rfl) flX13_13 fd_111_15 (np 12 rfl ?_)
  refine r_iload_n (dc dkX13_holds 8 rfl) rfl (np 13 rfl ?_)
  refine r_iconst (dc dkX13_holds 9 rfl) (np 14 rfl ?_)
  refine r_iadd (dc dkX13_holds 10 rfl) (np 15 rfl ?_)
  refine r_iald (dc dkX13_holds 11 rfl) ar_113 (by omega) (np 16 rfl ?_)
  refine r_eqI n1 (by rw [hn1, show 272 + (4 * k + 1) = 272 + 4 * k + 1 by omega]) ?_
  refine r_istore (lv' := [(4, _), (3, _), (0, _), (1, _), (2, _)]) (dc dkX13_holds 12 rfl) (Nat.le_of_ble_eq_true rfl) rfl (np 18 rfl ?_)
  refine r_aload_n (dc dkX13_holds 13 rfl) rfl (np 19 rfl ?_)
  refine r_getR (dc dkX13_holds 14 rfl) flX13_13 fd_111_15 (np 22 rfl ?_)
  refine r_iload_n (dc dkX13_holds 15 rfl) rfl (np 23 rfl ?_)
  refine r_iconst (dc dkX13_holds 16 rfl) (np 24 rfl ?_)
  refine r_iadd (dc dkX13_holds 17 rfl) (np 25 rfl ?_)
  refine r_iald (dc dkX13_holds 18 rfl) ar_113 (by omega) (np 26 rfl ?_)
  refine r_eqI n2 (by rw [hn2, show 272 + (4 * k + 2) = 272 + 4 * k + 2 by omega]) ?_
  refine r_istore (lv' := [(5, _), (4, _), (3, _), (0, _), (1, _), (2, _)]) (dc dkX13_holds 19 rfl) (Nat.le_of_ble_eq_true rfl) rfl (np 28 rfl ?_)
  refine r_aload_n (dc dkX13_holds 20 rfl) rfl (np 29 rfl ?_)
  refine r_getR (dc dkX13_holds 21 rfl) flX13_13 fd_111_15 (np 32 rfl ?_)
  refine r_iload_n (dc dkX13_holds 22 rfl) rfl (np 33 rfl ?_)
  refine r_iald (dc dkX13_holds 23 rfl) ar_113 (by omega) (np 34 rfl ?_)
  refine r_eqI n0 hn0.symm ?_
  by_cases hs1 : n0 = 1
  · skip
    refine r_lookup (tgt := 92) (off := 58) (dc dkX13_holds 24 rfl) (by first | assumption | omega | decide) (by decide) (by rw [hs1]; rfl) rfl ?_
    refine r_aload_n (dc dkX13_holds 25 rfl) rfl (np 93 rfl ?_)
    refine r_iload (dc dkX13_holds 26 rfl) rfl (np 95 rfl ?_)
    refine r_iload_n (dc dkX13_holds 27 rfl) rfl (np 96 rfl ?_)
    refine r_cV2 (y' := miX13_holds) (dc dkX13_holds 28 rfl) mlX13_486 ceX13_holds ob_111 (by omega) (Nat.le_of_ble_eq_true rfl) (ih hS (by omega) (by omega) hb hv) (fun r2 τ2 hp2 => (np 99 rfl ?_))
    obtain ⟨rfl, S2⟩ := hp2
    refine r_bn (tgt := 106) (dc dkX13_holds 29 rfl) rfl (fun h99 => ?_) (fun h99 => (np 102 rfl ?_))
    · skip
      refine r_iconst (dc dkX13_holds 32 rfl) (np 107 rfl ?_)
      exact r_zret (dc dkX13_holds 33 rfl) rfl (by first | exact Or.inl rfl | exact Or.inr rfl) (by
            refine ⟨congrArg (fun z => some (vI z)) ?_, S2⟩
            rw [bI_iff (ev_1 (by show σ 113 (272 + 4 * k) = 1; omega))]
            rw [hn1] at h99
            first | exact bT h99 | exact bF (fun u => u h99))
    refine r_iconst (dc dkX13_holds 30 rfl) (np 103 rfl ?_)
    refine r_goto (tgt := 107) (dc dkX13_holds 31 rfl) rfl ?_
    exact r_zret (dc dkX13_holds 33 rfl) rfl (by first | exact Or.inl rfl | exact Or.inr rfl) (by
          refine ⟨congrArg (fun z => some (vI z)) ?_, S2⟩
          rw [bI_iff (ev_1 (by show σ 113 (272 + 4 * k) = 1; omega))]
          rw [hn1] at h99
          first | exact bT h99 | exact bF (fun u => u h99))
  by_cases hs2 : n0 = 2
  · skip
    refine r_lookup (tgt := 108) (off := 74) (dc dkX13_holds 24 rfl) (by first | assumption | omega | decide) (by decide) (by rw [hs2]; rfl) rfl ?_
    refine r_aload_n (dc dkX13_holds 34 rfl) rfl (np 109 rfl ?_)
    refine r_iload (dc dkX13_holds 35 rfl) rfl (np 111 rfl ?_)
    refine r_iload_n (dc dkX13_holds 36 rfl) rfl (np 112 rfl ?_)
    refine r_cV2 (y' := miX13_holds) (dc dkX13_holds 37 rfl) mlX13_486 ceX13_holds ob_111 (by omega) (Nat.le_of_ble_eq_true rfl) (ih hS (by omega) (by omega) hb hv) (fun r2 τ2 hp2 => (np 115 rfl ?_))
    obtain ⟨rfl, S2⟩ := hp2
    refine r_bz (tgt := 132) (dc dkX13_holds 38 rfl) rfl (fun h115 => ?_) (fun h115 => (np 118 rfl ?_))
    · skip
      refine r_iconst (dc dkX13_holds 46 rfl) (np 133 rfl ?_)
      exact r_zret (dc dkX13_holds 47 rfl) rfl (by first | exact Or.inl rfl | exact Or.inr rfl) (by
            refine ⟨congrArg (fun z => some (vI z)) ?_, by first | exact S3 | exact S2⟩
            rw [bI_iff (ev_2 (by show σ 113 (272 + 4 * k) = 2; omega))]
            rw [hn1] at h115
            first | exact bF (fun u => h115 u.1) | (rw [hn2] at h125; first | exact bT ⟨h115, h125⟩ | exact bF (fun u => h125 u.2)))
    refine r_aload_n (dc dkX13_holds 39 rfl) rfl (np 119 rfl ?_)
    refine r_iload (dc dkX13_holds 40 rfl) rfl (np 121 rfl ?_)
    refine r_iload_n (dc dkX13_holds 41 rfl) rfl (np 122 rfl ?_)
    refine r_cV2 (y' := miX13_holds) (dc dkX13_holds 42 rfl) mlX13_486 ceX13_holds ob_111 (by omega) (Nat.le_of_ble_eq_true rfl) (ih (okSn_e hS (S2 113 (by decide)) (S2 118 (by decide)) (S2 121 (by decide))) (by omega) (by omega) (by rw [S2 113 (by decide)]; exact hb) (by rw [S2 113 (by decide), S2 121 (by decide), atM_e (S2 113 (by decide)) (S2 118 (by decide)) (S2 121 (by decide))]; exact hv)) (fun r3 τ3 hp3 => (np 125 rfl ?_))
    obtain ⟨rfl, S3⟩ := hp3
    rw [S2 113 (by decide), S2 121 (by decide)]
    replace S3 : same [125, 126, 127, 128] σ τ3 := fun c hc => (S3 c hc).trans (S2 c hc)
    refine r_bz (tgt := 132) (dc dkX13_holds 43 rfl) rfl (fun h125 => ?_) (fun h125 => (np 128 rfl ?_))
    · skip
      refine r_iconst (dc dkX13_holds 46 rfl) (np 133 rfl ?_)
      exact r_zret (dc dkX13_holds 47 rfl) rfl (by first | exact Or.inl rfl | exact Or.inr rfl) (by
            refine ⟨congrArg (fun z => some (vI z)) ?_, by first | exact S3 | exact S2⟩
            rw [bI_iff (ev_2 (by show σ 113 (272 + 4 * k) = 2; omega))]
            rw [hn1] at h115
            first | exact bF (fun u => h115 u.1) | (rw [hn2] at h125; first | exact bT ⟨h115, h125⟩ | exact bF (fun u => h125 u.2)))
    refine r_iconst (dc dkX13_holds 44 rfl) (np 129 rfl ?_)
    refine r_goto (tgt := 133) (dc dkX13_holds 45 rfl) rfl ?_
    exact r_zret (dc dkX13_holds 47 rfl) rfl (by first | exact Or.inl rfl | exact Or.inr rfl) (by
          refine ⟨congrArg (fun z => some (vI z)) ?_, by first | exact S3 | exact S2⟩
          rw [bI_iff (ev_2 (by show σ 113 (272 + 4 * k) = 2; omega))]
          rw [hn1] at h115
          first | exact bF (fun u => h115 u.1) | (rw [hn2] at h125; first | exact bT ⟨h115, h125⟩ | exact bF (fun u => h125 u.2)))
  by_cases hs3 : n0 = 3
  · skip
    refine r_lookup (tgt := 134) (off := 100) (dc dkX13_holds 24 rfl) (by first | assumption | omega | decide) (by decide) (by rw [hs3]; rfl) rfl ?_
    refine r_aload_n (dc dkX13_holds 48 rfl) rfl (np 135 rfl ?_)
    refine r_iload (dc dkX13_holds 49 rfl) rfl (np 137 rfl ?_)
    refine r_iload_n (dc dkX13_holds 50 rfl) rfl (np 138 rfl ?_)
    refine r_cV2 (y' := miX13_holds) (dc dkX13_holds 51 rfl) mlX13_486 ceX13_holds ob_111 (by omega) (Nat.le_of_ble_eq_true rfl) (ih hS (by omega) (by omega) hb hv) (fun r2 τ2 hp2 => (np 141 rfl ?_))
    obtain ⟨rfl, S2⟩ := hp2
    refine r_bn (tgt := 154) (dc dkX13_holds 52 rfl) rfl (fun h141 => ?_) (fun h141 => (np 144 rfl ?_))
    · skip
      refine r_iconst (dc dkX13_holds 58 rfl) (np 155 rfl ?_)
      refine r_goto (tgt := 159) (dc dkX13_holds 59 rfl) rfl ?_
      exact r_zret (dc dkX13_holds 61 rfl) rfl (by first | exact Or.inl rfl | exact Or.inr rfl) (by
            refine ⟨congrArg (fun z => some (vI z)) ?_, by first | exact S3 | exact S2⟩
            rw [bI_iff (ev_3 (by show σ 113 (272 + 4 * k) = 3; omega))]
            rw [hn1] at h141
            first | exact bT (Or.inl h141) | (rw [hn2] at h151; first | exact bT (Or.inr h151) | exact bF (fun u => Or.elim u h141 h151)))
    refine r_aload_n (dc dkX13_holds 53 rfl) rfl (np 145 rfl ?_)
    refine r_iload (dc dkX13_holds 54 rfl) rfl (np 147 rfl ?_)
    refine r_iload_n (dc dkX13_holds 55 rfl) rfl (np 148 rfl ?_)
    refine r_cV2 (y' := miX13_holds) (dc dkX13_holds 56 rfl) mlX13_486 ceX13_holds ob_111 (by omega) (Nat.le_of_ble_eq_true rfl) (ih (okSn_e hS (S2 113 (by decide)) (S2 118 (by decide)) (S2 121 (by decide))) (by omega) (by omega) (by rw [S2 113 (by decide)]; exact hb) (by rw [S2 113 (by decide), S2 121 (by decide), atM_e (S2 113 (by decide)) (S2 118 (by decide)) (S2 121 (by decide))]; exact hv)) (fun r3 τ3 hp3 => (np 151 rfl ?_))
    obtain ⟨rfl, S3⟩ := hp3
    rw [S2 113 (by decide), S2 121 (by decide)]
    replace S3 : same [125, 126, 127, 128] σ τ3 := fun c hc => (S3 c hc).trans (S2 c hc)
    refine r_bz (tgt := 158) (dc dkX13_holds 57 rfl) rfl (fun h151 => ?_) (fun h151 => (np 154 rfl ?_))
    · skip
      refine r_iconst (dc dkX13_holds 60 rfl) (np 159 rfl ?_)
      exact r_zret (dc dkX13_holds 61 rfl) rfl (by first | exact Or.inl rfl | exact Or.inr rfl) (by
            refine ⟨congrArg (fun z => some (vI z)) ?_, by first | exact S3 | exact S2⟩
            rw [bI_iff (ev_3 (by show σ 113 (272 + 4 * k) = 3; omega))]
            rw [hn1] at h141
            first | exact bT (Or.inl h141) | (rw [hn2] at h151; first | exact bT (Or.inr h151) | exact bF (fun u => Or.elim u h141 h151)))
    refine r_iconst (dc dkX13_holds 58 rfl) (np 155 rfl ?_)
    refine r_goto (tgt := 159) (dc dkX13_holds 59 rfl) rfl ?_
    exact r_zret (dc dkX13_holds 61 rfl) rfl (by first | exact Or.inl rfl | exact Or.inr rfl) (by
          refine ⟨congrArg (fun z => some (vI z)) ?_, by first | exact S3 | exact S2⟩
          rw [bI_iff (ev_3 (by show σ 113 (272 + 4 * k) = 3; omega))]
          rw [hn1] at h141
          first | exact bT (Or.inl h141) | (rw [hn2] at h151; first | exact bT (Or.inr h151) | exact bF (fun u => Or.elim u h141 h151)))
  by_cases hs59 : n0 = 59
  · skip
    refine r_lookup (tgt := 160) (off := 126) (dc dkX13_holds 24 rfl) (by first | assumption | omega | decide) (by decide) (by rw [hs59]; rfl) rfl ?_
    refine r_aload_n (dc dkX13_holds 62 rfl) rfl (np 161 rfl ?_)
    refine r_getR (dc dkX13_holds 63 rfl) flX13_28 fd_111_20 (np 164 rfl ?_)
    refine r_aload_n (dc dkX13_holds 64 rfl) rfl (np 165 rfl ?_)
    refine r_pV0 (y' := miX13_bands) (dc dkX13_holds 65 rfl) mlX13_276 ceX13_bands ob_111 (by omega) (Nat.le_of_ble_eq_true rfl) (c_X13_bands ) (np 168 rfl ?_)
    refine r_aload_n (dc dkX13_holds 66 rfl) rfl (np 169 rfl ?_)
    refine r_getR (dc dkX13_holds 67 rfl) flX13_38 fd_111_23 (np 172 rfl ?_)
    refine r_iload (dc dkX13_holds 68 rfl) rfl (np 174 rfl ?_)
    refine r_lald (dc dkX13_holds 69 rfl) ar_121 (by omega) (np 175 rfl ?_)
    refine r_pS3 (y' := miX13_findIn) (dc dkX13_holds 70 rfl) mlX13_242 seX13_findIn (by omega) (Nat.le_of_ble_eq_true rfl) (c_X13_findIn ar_118 (by decide) (by omega) hlR (by have := hSy n1 (by omega) (by omega); constructor <;> omega)) (np 178 rfl ?_)
    have ob := fi_b (P := fun b => σ 118 b = σ 121 n1) (n := σ 113 4) (by omega)
    obtain ⟨o_, ho_⟩ : ∃ x, x = oNm σ k := ⟨_, rfl⟩
    replace ob : -1 ≤ o_ ∧ o_ < 36 ∧ (¬ o_ = -1 → 0 ≤ o_ ∧ o_ < σ 113 4) := by rw [ho_, oNm, ← hn1]; exact ob
    refine r_eqI o_ (by rw [ho_, oNm, ← hn1]) ?_
    refine r_istore (lv' := [(6, _), (5, _), (4, _), (3, _), (0, _), (1, _), (2, _)]) (dc dkX13_holds 71 rfl) (Nat.le_of_ble_eq_true rfl) rfl (np 180 rfl ?_)
    refine r_iload (dc dkX13_holds 72 rfl) rfl (np 182 rfl ?_)
    refine r_iconst (dc dkX13_holds 73 rfl) (np 183 rfl ?_)
    refine r_icmp_eq (tgt := 200) (dc dkX13_holds 74 rfl) rfl (by first | assumption | omega | decide) (by first | assumption | omega | decide) (fun h183 => ?_) (fun h183 => (np 186 rfl ?_))
    · skip
      refine r_iconst (dc dkX13_holds 82 rfl) (np 201 rfl ?_)
      exact r_zret (dc dkX13_holds 83 rfl) rfl (by first | exact Or.inl rfl | exact Or.inr rfl) (by
            refine ⟨congrArg (fun z => some (vI z)) ?_, by first | exact S2 | exact same.refl _ _⟩
            have e := evA (by omega)
            unfold atM at e
            rw [← hn0] at e
            rw [bI_iff e]
            rw [if_pos hs59, ← ho_]
            first
            | (exact bT ⟨h183, h193⟩)
            | (exact bF (fun u => u.1 h183))
            | (exact bF (fun u => h193 u.2)))
    refine r_aload_n (dc dkX13_holds 75 rfl) rfl (np 187 rfl ?_)
    refine r_iload_n (dc dkX13_holds 76 rfl) rfl (np 188 rfl ?_)
    refine r_iload (dc dkX13_holds 77 rfl) rfl (np 190 rfl ?_)
    refine r_pV2 (y' := miX13_liesIn) (dc dkX13_holds 78 rfl) mlX13_333 ceX13_liesIn ob_111 (by omega) (Nat.le_of_ble_eq_true rfl) (c_X13_liesIn hN hb.1 hb.2 (by omega) (by omega)) (np 193 rfl ?_)
    refine r_bz (tgt := 200) (dc dkX13_holds 79 rfl) rfl (fun h193 => ?_) (fun h193 => (np 196 rfl ?_))
    · skip
      refine r_iconst (dc dkX13_holds 82 rfl) (np 201 rfl ?_)
      exact r_zret (dc dkX13_holds 83 rfl) rfl (by first | exact Or.inl rfl | exact Or.inr rfl) (by
            refine ⟨congrArg (fun z => some (vI z)) ?_, by first | exact S2 | exact same.refl _ _⟩
            have e := evA (by omega)
            unfold atM at e
            rw [← hn0] at e
            rw [bI_iff e]
            rw [if_pos hs59, ← ho_]
            first
            | (exact bT ⟨h183, h193⟩)
            | (exact bF (fun u => u.1 h183))
            | (exact bF (fun u => h193 u.2)))
    refine r_iconst (dc dkX13_holds 80 rfl) (np 197 rfl ?_)
    refine r_goto (tgt := 201) (dc dkX13_holds 81 rfl) rfl ?_
    exact r_zret (dc dkX13_holds 83 rfl) rfl (by first | exact Or.inl rfl | exact Or.inr rfl) (by
          refine ⟨congrArg (fun z => some (vI z)) ?_, by first | exact S2 | exact same.refl _ _⟩
          have e := evA (by omega)
          unfold atM at e
          rw [← hn0] at e
          rw [bI_iff e]
          rw [if_pos hs59, ← ho_]
          first
          | (exact bT ⟨h183, h193⟩)
          | (exact bF (fun u => u.1 h183))
          | (exact bF (fun u => h193 u.2)))
  by_cases hs60 : n0 = 60
  · skip
    refine r_lookup (tgt := 202) (off := 168) (dc dkX13_holds 24 rfl) (by first | assumption | omega | decide) (by decide) (by rw [hs60]; rfl) rfl ?_
    refine r_aload_n (dc dkX13_holds 84 rfl) rfl (np 203 rfl ?_)
    refine r_getR (dc dkX13_holds 85 rfl) flX13_28 fd_111_20 (np 206 rfl ?_)
    refine r_aload_n (dc dkX13_holds 86 rfl) rfl (np 207 rfl ?_)
    refine r_pV0 (y' := miX13_bands) (dc dkX13_holds 87 rfl) mlX13_276 ceX13_bands ob_111 (by omega) (Nat.le_of_ble_eq_true rfl) (c_X13_bands ) (np 210 rfl ?_)
    refine r_aload_n (dc dkX13_holds 88 rfl) rfl (np 211 rfl ?_)
    refine r_getR (dc dkX13_holds 89 rfl) flX13_38 fd_111_23 (np 214 rfl ?_)
    refine r_iload (dc dkX13_holds 90 rfl) rfl (np 216 rfl ?_)
    refine r_lald (dc dkX13_holds 91 rfl) ar_121 (by omega) (np 217 rfl ?_)
    refine r_pS3 (y' := miX13_findIn) (dc dkX13_holds 92 rfl) mlX13_242 seX13_findIn (by omega) (Nat.le_of_ble_eq_true rfl) (c_X13_findIn ar_118 (by decide) (by omega) hlR (by have := hSy n1 (by omega) (by omega); constructor <;> omega)) (np 220 rfl ?_)
    have ob := fi_b (P := fun b => σ 118 b = σ 121 n1) (n := σ 113 4) (by omega)
    obtain ⟨o_, ho_⟩ : ∃ x, x = oNm σ k := ⟨_, rfl⟩
    replace ob : -1 ≤ o_ ∧ o_ < 36 ∧ (¬ o_ = -1 → 0 ≤ o_ ∧ o_ < σ 113 4) := by rw [ho_, oNm, ← hn1]; exact ob
    refine r_eqI o_ (by rw [ho_, oNm, ← hn1]) ?_
    refine r_istore (lv' := [(6, _), (5, _), (4, _), (3, _), (0, _), (1, _), (2, _)]) (dc dkX13_holds 93 rfl) (Nat.le_of_ble_eq_true rfl) rfl (np 222 rfl ?_)
    refine r_iload (dc dkX13_holds 94 rfl) rfl (np 224 rfl ?_)
    refine r_iconst (dc dkX13_holds 95 rfl) (np 225 rfl ?_)
    refine r_icmp_eq (tgt := 243) (dc dkX13_holds 96 rfl) rfl (by first | assumption | omega | decide) (by first | assumption | omega | decide) (fun h225 => ?_) (fun h225 => (np 228 rfl ?_))
    · skip
      refine r_iconst (dc dkX13_holds 105 rfl) (np 244 rfl ?_)
      exact r_zret (dc dkX13_holds 106 rfl) rfl (by first | exact Or.inl rfl | exact Or.inr rfl) (by
            refine ⟨congrArg (fun z => some (vI z)) ?_, by first | exact S2 | exact same.refl _ _⟩
            have e := evA (by omega)
            unfold atM at e
            rw [← hn0] at e
            rw [bI_iff e]
            rw [if_neg (by omega), if_pos hs60, ← ho_]
            first
            | (exact bT ⟨h225, h236⟩)
            | (exact bF (fun u => u.1 h225))
            | (exact bF (fun u => h236 u.2)))
    refine r_aload_n (dc dkX13_holds 97 rfl) rfl (np 229 rfl ?_)
    refine r_iload_n (dc dkX13_holds 98 rfl) rfl (np 230 rfl ?_)
    refine r_iload (dc dkX13_holds 99 rfl) rfl (np 232 rfl ?_)
    refine r_iconst (dc dkX13_holds 100 rfl) (np 233 rfl ?_)
    refine r_cV3 (y' := miX13_areAlike) (dc dkX13_holds 101 rfl) mlX13_352 ceX13_areAlike ob_111 (by omega) (Nat.le_of_ble_eq_true rfl) (c_X13_areAlike hN hb.1 hb.2 (by omega) (by omega) (by decide)) (fun r2 τ2 hp2 => (np 236 rfl ?_))
    obtain ⟨rfl, S2⟩ := hp2
    refine r_bz (tgt := 243) (dc dkX13_holds 102 rfl) rfl (fun h236 => ?_) (fun h236 => (np 239 rfl ?_))
    · skip
      refine r_iconst (dc dkX13_holds 105 rfl) (np 244 rfl ?_)
      exact r_zret (dc dkX13_holds 106 rfl) rfl (by first | exact Or.inl rfl | exact Or.inr rfl) (by
            refine ⟨congrArg (fun z => some (vI z)) ?_, by first | exact S2 | exact same.refl _ _⟩
            have e := evA (by omega)
            unfold atM at e
            rw [← hn0] at e
            rw [bI_iff e]
            rw [if_neg (by omega), if_pos hs60, ← ho_]
            first
            | (exact bT ⟨h225, h236⟩)
            | (exact bF (fun u => u.1 h225))
            | (exact bF (fun u => h236 u.2)))
    refine r_iconst (dc dkX13_holds 103 rfl) (np 240 rfl ?_)
    refine r_goto (tgt := 244) (dc dkX13_holds 104 rfl) rfl ?_
    exact r_zret (dc dkX13_holds 106 rfl) rfl (by first | exact Or.inl rfl | exact Or.inr rfl) (by
          refine ⟨congrArg (fun z => some (vI z)) ?_, by first | exact S2 | exact same.refl _ _⟩
          have e := evA (by omega)
          unfold atM at e
          rw [← hn0] at e
          rw [bI_iff e]
          rw [if_neg (by omega), if_pos hs60, ← ho_]
          first
          | (exact bT ⟨h225, h236⟩)
          | (exact bF (fun u => u.1 h225))
          | (exact bF (fun u => h236 u.2)))
  by_cases hs61 : n0 = 61
  · skip
    refine r_lookup (tgt := 245) (off := 211) (dc dkX13_holds 24 rfl) (by first | assumption | omega | decide) (by decide) (by rw [hs61]; rfl) rfl ?_
    refine r_aload_n (dc dkX13_holds 107 rfl) rfl (np 246 rfl ?_)
    refine r_iload_n (dc dkX13_holds 108 rfl) rfl (np 247 rfl ?_)
    refine r_pV1 (y' := miX13_bent) (dc dkX13_holds 109 rfl) mlX13_313 ceX13_bent ob_111 (by omega) (Nat.le_of_ble_eq_true rfl) (c_X13_bent hN hb.1 hb.2) (np 250 rfl ?_)
    have bb := smI_nn (f := fun i => bI (¬ sgn (tn (rP σ 113 b (i + cn σ 113 b - 1)) (rP σ 113 b i) (rP σ 113 b (i + 1))) = sgn (areaS (cn σ 113 b) (rP σ 113 b)))) (A := 1) (n := cn σ 113 b) (by omega) (fun i _ _ => bI_b _)
    replace bb : 0 ≤ bentR (cn σ 113 b) (rP σ 113 b) ∧ bentR (cn σ 113 b) (rP σ 113 b) ≤ cn σ 113 b * 1 := bb
    refine r_if_le (tgt := 257) (dc dkX13_holds 110 rfl) rfl (by first | assumption | omega | decide) (fun h250 => ?_) (fun h250 => (np 253 rfl ?_))
    · skip
      refine r_iconst (dc dkX13_holds 113 rfl) (np 258 rfl ?_)
      exact r_zret (dc dkX13_holds 114 rfl) rfl (by first | exact Or.inl rfl | exact Or.inr rfl) (by
            refine ⟨congrArg (fun z => some (vI z)) ?_, by first | exact S2 | exact same.refl _ _⟩
            have e := evA (by omega)
            unfold atM at e
            rw [← hn0] at e
            rw [bI_iff e]
            rw [if_neg (by omega), if_neg (by omega), if_pos hs61]
            first
            | (exact bT (by omega))
            | (exact bF (by omega)))
    refine r_iconst (dc dkX13_holds 111 rfl) (np 254 rfl ?_)
    refine r_goto (tgt := 258) (dc dkX13_holds 112 rfl) rfl ?_
    exact r_zret (dc dkX13_holds 114 rfl) rfl (by first | exact Or.inl rfl | exact Or.inr rfl) (by
          refine ⟨congrArg (fun z => some (vI z)) ?_, by first | exact S2 | exact same.refl _ _⟩
          have e := evA (by omega)
          unfold atM at e
          rw [← hn0] at e
          rw [bI_iff e]
          rw [if_neg (by omega), if_neg (by omega), if_pos hs61]
          first
          | (exact bT (by omega))
          | (exact bF (by omega)))
  refine r_lookup (tgt := 259) (off := 225) (dc dkX13_holds 24 rfl) (by first | assumption | omega | decide) (by decide) (by show Op.lookupswitch.offset [(1, 58), (2, 74), (3, 100), (59, 126), (60, 168), (61, 211)] 225 n0 = 225; rw [Op.lookupswitch.offset_cons, if_neg (by omega), Op.lookupswitch.offset_cons, if_neg (by omega), Op.lookupswitch.offset_cons, if_neg (by omega), Op.lookupswitch.offset_cons, if_neg (by omega), Op.lookupswitch.offset_cons, if_neg (by omega), Op.lookupswitch.offset_cons, if_neg (by omega), Op.lookupswitch.offset_nil]) rfl ?_
  refine r_aload_n (dc dkX13_holds 115 rfl) rfl (np 260 rfl ?_)
  refine r_getR (dc dkX13_holds 116 rfl) flX13_13 fd_111_15 (np 263 rfl ?_)
  refine r_iload_n (dc dkX13_holds 117 rfl) rfl (np 264 rfl ?_)
  refine r_iald (dc dkX13_holds 118 rfl) ar_113 (by omega) (np 265 rfl ?_)
  refine r_eqI n0 hn0.symm ?_
  refine r_bipush (dc dkX13_holds 119 rfl) bp_50 (np 267 rfl ?_)
  refine r_isub (dc dkX13_holds 120 rfl) (np 268 rfl ?_)
  refine r_istore (lv' := [(6, _), (5, _), (4, _), (3, _), (0, _), (1, _), (2, _)]) (dc dkX13_holds 121 rfl) (Nat.le_of_ble_eq_true rfl) rfl (np 270 rfl ?_)
  have jj335 : ∀ mm : Int, (mm = msR (cn σ 113 b) (rP σ 113 b) (n0 - 50)) → jR (9 + (f + 1)) miX13_holds (fun r τ => r = some (vI (bI (evM v (fun j => σ 113 (272 + j)) (σ 121) idn (f + 1) k))) ∧ same [125, 126, 127, 128] σ τ) 335 [(0, .ref 111), (1, vI k), (2, vI b), (3, vI (272 + 4 * k)), (4, vI n1), (5, vI n2), (6, vI (n0 - 50))] [vI mm] σ := by
    intro mm hmm
    refine r_istore (lv' := [(7, _), (0, _), (1, _), (2, _), (3, _), (4, _), (5, _), (6, _)]) (dc dkX13_holds 153 rfl) (Nat.le_of_ble_eq_true rfl) rfl (np 337 rfl ?_)
    refine r_aload_n (dc dkX13_holds 154 rfl) rfl (np 338 rfl ?_)
    refine r_getR (dc dkX13_holds 155 rfl) flX13_13 fd_111_15 (np 341 rfl ?_)
    refine r_iload_n (dc dkX13_holds 156 rfl) rfl (np 342 rfl ?_)
    refine r_iconst (dc dkX13_holds 157 rfl) (np 343 rfl ?_)
    refine r_iadd (dc dkX13_holds 158 rfl) (np 344 rfl ?_)
    refine r_iald (dc dkX13_holds 159 rfl) ar_113 (by omega) (np 345 rfl ?_)
    refine r_eqI n3 (by rw [hn3, show 272 + (4 * k + 3) = 272 + 4 * k + 3 by omega]) ?_
    refine r_bipush (dc dkX13_holds 160 rfl) bp_60 (np 347 rfl ?_)
    refine r_icmp_ne (tgt := 365) (dc dkX13_holds 161 rfl) rfl (by first | assumption | omega | decide) (by first | assumption | omega | decide) (fun h347 => ?_) (fun h347 => (np 350 rfl ?_))
    · skip
      refine r_aload_n (dc dkX13_holds 169 rfl) rfl (np 366 rfl ?_)
      refine r_getR (dc dkX13_holds 170 rfl) flX13_13 fd_111_15 (np 369 rfl ?_)
      refine r_iload_n (dc dkX13_holds 171 rfl) rfl (np 370 rfl ?_)
      refine r_iconst (dc dkX13_holds 172 rfl) (np 371 rfl ?_)
      refine r_iadd (dc dkX13_holds 173 rfl) (np 372 rfl ?_)
      refine r_iald (dc dkX13_holds 174 rfl) ar_113 (by omega) (np 373 rfl ?_)
      refine r_eqI n3 (by rw [hn3, show 272 + (4 * k + 3) = 272 + 4 * k + 3 by omega]) ?_
      refine r_bipush (dc dkX13_holds 175 rfl) bp_61 (np 375 rfl ?_)
      refine r_icmp_ne (tgt := 393) (dc dkX13_holds 176 rfl) rfl (by first | assumption | omega | decide) (by first | assumption | omega | decide) (fun h375 => ?_) (fun h375 => (np 378 rfl ?_))
      · skip
        refine r_iload (dc dkX13_holds 184 rfl) rfl (np 395 rfl ?_)
        refine r_iload (dc dkX13_holds 185 rfl) rfl (np 397 rfl ?_)
        refine r_icmp_le (tgt := 404) (dc dkX13_holds 186 rfl) rfl (by first | assumption | omega | decide) (by first | assumption | omega | decide) (fun h397 => ?_) (fun h397 => (np 400 rfl ?_))
        · skip
          refine r_iconst (dc dkX13_holds 189 rfl) (np 405 rfl ?_)
          exact r_zret (dc dkX13_holds 190 rfl) rfl (by first | exact Or.inl rfl | exact Or.inr rfl) (by
                refine ⟨congrArg (fun z => some (vI z)) ?_, by first | exact S2 | exact same.refl _ _⟩
                have e := evA (by omega)
                unfold atM at e
                rw [← hn0] at e
                rw [bI_iff e]
                rw [if_neg (by omega), if_neg (by omega), if_neg (by omega), ← hn2, ← hn3]
                first
                | (exact bT (by unfold cmpS; omega))
                | (exact bF (by unfold cmpS; omega)))
        refine r_iconst (dc dkX13_holds 187 rfl) (np 401 rfl ?_)
        refine r_goto (tgt := 405) (dc dkX13_holds 188 rfl) rfl ?_
        exact r_zret (dc dkX13_holds 190 rfl) rfl (by first | exact Or.inl rfl | exact Or.inr rfl) (by
              refine ⟨congrArg (fun z => some (vI z)) ?_, by first | exact S2 | exact same.refl _ _⟩
              have e := evA (by omega)
              unfold atM at e
              rw [← hn0] at e
              rw [bI_iff e]
              rw [if_neg (by omega), if_neg (by omega), if_neg (by omega), ← hn2, ← hn3]
              first
              | (exact bT (by unfold cmpS; omega))
              | (exact bF (by unfold cmpS; omega)))
      refine r_iload (dc dkX13_holds 177 rfl) rfl (np 380 rfl ?_)
      refine r_iload (dc dkX13_holds 178 rfl) rfl (np 382 rfl ?_)
      refine r_icmp_ne (tgt := 389) (dc dkX13_holds 179 rfl) rfl (by first | assumption | omega | decide) (by first | assumption | omega | decide) (fun h382 => ?_) (fun h382 => (np 385 rfl ?_))
      · skip
        refine r_iconst (dc dkX13_holds 182 rfl) (np 390 rfl ?_)
        refine r_goto (tgt := 405) (dc dkX13_holds 183 rfl) rfl ?_
        exact r_zret (dc dkX13_holds 190 rfl) rfl (by first | exact Or.inl rfl | exact Or.inr rfl) (by
              refine ⟨congrArg (fun z => some (vI z)) ?_, by first | exact S2 | exact same.refl _ _⟩
              have e := evA (by omega)
              unfold atM at e
              rw [← hn0] at e
              rw [bI_iff e]
              rw [if_neg (by omega), if_neg (by omega), if_neg (by omega), ← hn2, ← hn3]
              first
              | (exact bT (by unfold cmpS; omega))
              | (exact bF (by unfold cmpS; omega)))
      refine r_iconst (dc dkX13_holds 180 rfl) (np 386 rfl ?_)
      refine r_goto (tgt := 405) (dc dkX13_holds 181 rfl) rfl ?_
      exact r_zret (dc dkX13_holds 190 rfl) rfl (by first | exact Or.inl rfl | exact Or.inr rfl) (by
            refine ⟨congrArg (fun z => some (vI z)) ?_, by first | exact S2 | exact same.refl _ _⟩
            have e := evA (by omega)
            unfold atM at e
            rw [← hn0] at e
            rw [bI_iff e]
            rw [if_neg (by omega), if_neg (by omega), if_neg (by omega), ← hn2, ← hn3]
            first
            | (exact bT (by unfold cmpS; omega))
            | (exact bF (by unfold cmpS; omega)))
    refine r_iload (dc dkX13_holds 162 rfl) rfl (np 352 rfl ?_)
    refine r_iload (dc dkX13_holds 163 rfl) rfl (np 354 rfl ?_)
    refine r_icmp_ge (tgt := 361) (dc dkX13_holds 164 rfl) rfl (by first | assumption | omega | decide) (by first | assumption | omega | decide) (fun h354 => ?_) (fun h354 => (np 357 rfl ?_))
    · skip
      refine r_iconst (dc dkX13_holds 167 rfl) (np 362 rfl ?_)
      refine r_goto (tgt := 405) (dc dkX13_holds 168 rfl) rfl ?_
      exact r_zret (dc dkX13_holds 190 rfl) rfl (by first | exact Or.inl rfl | exact Or.inr rfl) (by
            refine ⟨congrArg (fun z => some (vI z)) ?_, by first | exact S2 | exact same.refl _ _⟩
            have e := evA (by omega)
            unfold atM at e
            rw [← hn0] at e
            rw [bI_iff e]
            rw [if_neg (by omega), if_neg (by omega), if_neg (by omega), ← hn2, ← hn3]
            first
            | (exact bT (by unfold cmpS; omega))
            | (exact bF (by unfold cmpS; omega)))
    refine r_iconst (dc dkX13_holds 165 rfl) (np 358 rfl ?_)
    refine r_goto (tgt := 405) (dc dkX13_holds 166 rfl) rfl ?_
    exact r_zret (dc dkX13_holds 190 rfl) rfl (by first | exact Or.inl rfl | exact Or.inr rfl) (by
          refine ⟨congrArg (fun z => some (vI z)) ?_, by first | exact S2 | exact same.refl _ _⟩
          have e := evA (by omega)
          unfold atM at e
          rw [← hn0] at e
          rw [bI_iff e]
          rw [if_neg (by omega), if_neg (by omega), if_neg (by omega), ← hn2, ← hn3]
          first
          | (exact bT (by unfold cmpS; omega))
          | (exact bF (by unfold cmpS; omega)))
  refine r_iload (dc dkX13_holds 122 rfl) rfl (np 272 rfl ?_)
  refine r_bipush (dc dkX13_holds 123 rfl) bp_12 (np 274 rfl ?_)
  refine r_icmp_ne (tgt := 285) (dc dkX13_holds 124 rfl) rfl (by first | assumption | omega | decide) (by first | assumption | omega | decide) (fun h274 => ?_) (fun h274 => (np 277 rfl ?_))
  · skip
    refine r_iload (dc dkX13_holds 129 rfl) rfl (np 287 rfl ?_)
    refine r_bipush (dc dkX13_holds 130 rfl) bp_13 (np 289 rfl ?_)
    refine r_icmp_ne (tgt := 300) (dc dkX13_holds 131 rfl) rfl (by first | assumption | omega | decide) (by first | assumption | omega | decide) (fun h289 => ?_) (fun h289 => (np 292 rfl ?_))
    · skip
      refine r_iload (dc dkX13_holds 136 rfl) rfl (np 302 rfl ?_)
      refine r_bipush (dc dkX13_holds 137 rfl) bp_14 (np 304 rfl ?_)
      refine r_icmp_ne (tgt := 315) (dc dkX13_holds 138 rfl) rfl (by first | assumption | omega | decide) (by first | assumption | omega | decide) (fun h304 => ?_) (fun h304 => (np 307 rfl ?_))
      · skip
        refine r_iload (dc dkX13_holds 143 rfl) rfl (np 317 rfl ?_)
        refine r_bipush (dc dkX13_holds 144 rfl) bp_15 (np 319 rfl ?_)
        refine r_icmp_ne (tgt := 330) (dc dkX13_holds 145 rfl) rfl (by first | assumption | omega | decide) (by first | assumption | omega | decide) (fun h319 => ?_) (fun h319 => (np 322 rfl ?_))
        · skip
          refine r_aload_n (dc dkX13_holds 150 rfl) rfl (np 331 rfl ?_)
          refine r_iload_n (dc dkX13_holds 151 rfl) rfl (np 332 rfl ?_)
          refine r_pV1 (y' := miX13_right) (dc dkX13_holds 152 rfl) mlX13_316 ceX13_right ob_111 (by omega) (Nat.le_of_ble_eq_true rfl) (c_X13_right hN hb.1 hb.2) (np 335 rfl ?_)
          refine r_pick [4, 5, 6, 3, 2, 1, 0] rfl ?_
          exact jj335 _ (by unfold msR; first | (rw [if_pos (by omega)]; done) | (rw [if_neg (by omega), if_pos (by omega)]; done) | (rw [if_neg (by omega), if_neg (by omega), if_pos (by omega)]; done) | (rw [if_neg (by omega), if_neg (by omega), if_neg (by omega), if_pos (by omega)]; done) | (rw [if_neg (by omega), if_neg (by omega), if_neg (by omega), if_neg (by omega)]; done))
        refine r_aload_n (dc dkX13_holds 146 rfl) rfl (np 323 rfl ?_)
        refine r_iload_n (dc dkX13_holds 147 rfl) rfl (np 324 rfl ?_)
        refine r_pV1 (y' := miX13_corners) (dc dkX13_holds 148 rfl) mlX13_279 ceX13_corners ob_111 (by omega) (Nat.le_of_ble_eq_true rfl) (c_X13_corners (by omega)) (np 327 rfl ?_)
        refine r_goto (tgt := 335) (dc dkX13_holds 149 rfl) rfl ?_
        refine r_pick [4, 5, 6, 3, 2, 1, 0] rfl ?_
        exact jj335 _ (by unfold msR; first | (rw [if_pos (by omega)]; done) | (rw [if_neg (by omega), if_pos (by omega)]; done) | (rw [if_neg (by omega), if_neg (by omega), if_pos (by omega)]; done) | (rw [if_neg (by omega), if_neg (by omega), if_neg (by omega), if_pos (by omega)]; done) | (rw [if_neg (by omega), if_neg (by omega), if_neg (by omega), if_neg (by omega)]; done))
      refine r_aload_n (dc dkX13_holds 139 rfl) rfl (np 308 rfl ?_)
      refine r_iload_n (dc dkX13_holds 140 rfl) rfl (np 309 rfl ?_)
      refine r_pV1 (y' := miX13_within) (dc dkX13_holds 141 rfl) mlX13_310 ceX13_within ob_111 (by omega) (Nat.le_of_ble_eq_true rfl) (c_X13_within hN hb.1 hb.2) (np 312 rfl ?_)
      refine r_goto (tgt := 335) (dc dkX13_holds 142 rfl) rfl ?_
      refine r_pick [4, 5, 6, 3, 2, 1, 0] rfl ?_
      exact jj335 _ (by unfold msR; first | (rw [if_pos (by omega)]; done) | (rw [if_neg (by omega), if_pos (by omega)]; done) | (rw [if_neg (by omega), if_neg (by omega), if_pos (by omega)]; done) | (rw [if_neg (by omega), if_neg (by omega), if_neg (by omega), if_pos (by omega)]; done) | (rw [if_neg (by omega), if_neg (by omega), if_neg (by omega), if_neg (by omega)]; done))
    refine r_aload_n (dc dkX13_holds 132 rfl) rfl (np 293 rfl ?_)
    refine r_iload_n (dc dkX13_holds 133 rfl) rfl (np 294 rfl ?_)
    refine r_pV1 (y' := miX13_onMany) (dc dkX13_holds 134 rfl) mlX13_301 ceX13_onMany ob_111 (by omega) (Nat.le_of_ble_eq_true rfl) (c_X13_onMany hN hb.1 hb.2) (np 297 rfl ?_)
    refine r_goto (tgt := 335) (dc dkX13_holds 135 rfl) rfl ?_
    refine r_pick [4, 5, 6, 3, 2, 1, 0] rfl ?_
    exact jj335 _ (by unfold msR; first | (rw [if_pos (by omega)]; done) | (rw [if_neg (by omega), if_pos (by omega)]; done) | (rw [if_neg (by omega), if_neg (by omega), if_pos (by omega)]; done) | (rw [if_neg (by omega), if_neg (by omega), if_neg (by omega), if_pos (by omega)]; done) | (rw [if_neg (by omega), if_neg (by omega), if_neg (by omega), if_neg (by omega)]; done))
  refine r_aload_n (dc dkX13_holds 125 rfl) rfl (np 278 rfl ?_)
  refine r_iload_n (dc dkX13_holds 126 rfl) rfl (np 279 rfl ?_)
  refine r_pV1 (y' := miX13_area) (dc dkX13_holds 127 rfl) mlX13_298 ceX13_area ob_111 (by omega) (Nat.le_of_ble_eq_true rfl) (c_X13_area hN hb.1 hb.2) (np 282 rfl ?_)
  refine r_goto (tgt := 335) (dc dkX13_holds 128 rfl) rfl ?_
  refine r_pick [4, 5, 6, 3, 2, 1, 0] rfl ?_
  exact jj335 _ (by unfold msR; first | (rw [if_pos (by omega)]; done) | (rw [if_neg (by omega), if_pos (by omega)]; done) | (rw [if_neg (by omega), if_neg (by omega), if_pos (by omega)]; done) | (rw [if_neg (by omega), if_neg (by omega), if_neg (by omega), if_pos (by omega)]; done) | (rw [if_neg (by omega), if_neg (by omega), if_neg (by omega), if_neg (by omega)]; done))
theorem cHo_all : ∀ f : Nat, cHo f
  | 0 => cHo_0
  | f + 1 => cHo_s (cHo_all f)
set_option maxRecDepth 100000 in
set_option maxHeartbeats 4000000 in
theorem c_X13_said {σ : jS} (hN : okN σ) (h27 : cB 1 (σ 113 270)) {v : Int → Int → Prop} {idn : Int → Int} (hS : ¬ σ 113 270 = 0 → ∃ N M, okSn σ N M ∧ (0 ≤ σ 113 271 ∧ σ 113 271 < N) ∧ ∀ b, 0 ≤ b → b < σ 113 4 → ∀ k, 0 ≤ k → k < N → 59 ≤ σ 113 (272 + 4 * k) → (v b (cdM (fun j => σ 113 (272 + j)) (σ 121) idn k) ↔ atM σ b k)) {k : Int} (hk : iR k) : Jm 50 miX13_said [.ref 111, vI k] σ (fun r τ => (∀ c, ¬ c = 111 → c ∉ [125, 126, 127, 128] → τ c = σ c) ∧ (∀ j, ¬ j = 0 → τ 111 j = σ 111 j) ∧ τ 111 0 = 0 ∧ r = some (vI (gte (σ 113 270 = 0) (-1) (nthL (saL (fun b => evM (v b) (fun j => σ 113 (272 + j)) (σ 121) idn 40 (σ 113 271)) (σ 113 4)) k)))) := by
  refine jm_ofF (Po := (fun r τ => (∀ c, ¬ c = 111 → c ∉ [125, 126, 127, 128] → τ c = σ c) ∧ (∀ j, ¬ j = 0 → τ 111 j = σ 111 j) ∧ τ 111 0 = 0 ∧ r = some (vI (gte (σ 113 270 = 0) (-1) (nthL (saL (fun b => evM (v b) (fun j => σ 113 (272 + j)) (σ 121) idn 40 (σ 113 271)) (σ 113 4)) k))))) (plainFor_of_name (by decide)) (Nat.le_of_ble_eq_true rfl) (lv := [(0, _), (1, _)]) rfl ?_
  refine r_aload_n (dc dkX13_said 0 rfl) rfl (np 1 rfl ?_)
  refine r_iconst (dc dkX13_said 1 rfl) (np 2 rfl ?_)
  refine r_pI 0 (dc dkX13_said 2 rfl) fpX13_94 fd_111_0 rfl (np 5 rfl ?_)
  refine r_abs (fun ρ => ρ = ju σ 111 0 0) rfl ?_
  intro σ0 hσ0
  have e0 : σ0 113 = σ 113 := by rw [hσ0]; exact ju_off _ _ _ _ _ (by decide)
  have hN0 := okN_c hN e0
  have e4 : σ0 113 4 = σ 113 4 := by rw [e0]
  have ec : ∀ b, cn σ0 113 b = cn σ 113 b := cn_c e0
  have eP : ∀ b, rP σ0 113 b = rP σ 113 b := rP_c2 e0
  have m1 := hN.1.2.2.2.2.1
  have w1 := hN.1.1
  have w2 := hN.1.2.1
  refine r_aload_n (dc dkX13_said 3 rfl) rfl (np 6 rfl ?_)
  refine r_getR (dc dkX13_said 4 rfl) flX13_13 fd_111_15 (np 9 rfl ?_)
  refine r_sipush (dc dkX13_said 5 rfl) sp_270 (np 12 rfl ?_)
  refine r_iald (dc dkX13_said 6 rfl) ar_113 (by omega) (np 13 rfl ?_)
  refine r_eqI _ (show σ0 113 270 = σ 113 270 by rw [e0]) ?_
  refine r_if_ne (tgt := 18) (dc dkX13_said 7 rfl) rfl (by first | assumption | omega | decide) (fun h13 => ?_) (fun h13 => (np 16 rfl ?_))
  · skip
    obtain ⟨N, M, hSn, hT, hv⟩ := hS h13
    have z0 : σ0 111 0 = 0 := by rw [hσ0, ju_at]
    have o0 : ∀ c, ¬ c = 111 → σ0 c = σ c := fun c hc => by rw [hσ0, ju_off _ _ _ _ _ hc]
    have n40 := hSn.2.1
    refine r_iconst (dc dkX13_said 10 rfl) (np 19 rfl ?_)
    refine r_istore_n (lv' := [(2, _), (0, _), (1, _)]) (dc dkX13_said 11 rfl) (Nat.le_of_ble_eq_true rfl) rfl (np 20 rfl ?_)
    refine r_iconst (dc dkX13_said 12 rfl) (np 21 rfl ?_)
    refine r_istore_n (lv' := [(3, _), (2, _), (0, _), (1, _)]) (dc dkX13_said 13 rfl) (Nat.le_of_ble_eq_true rfl) rfl (np 22 rfl ?_)
    refine r_pick [2, 3, 1, 0] (lv' := [(0, _), (1, _), (2, _), (3, _)]) rfl ?_
    refine jlp3 (P := fun (n : Int) (i : Int) (τ : jS) => jR _ _ _ 22 [(0, .ref 111), (1, vI k), (2, vI n), (3, vI i)] [] τ) (I := fun (n : Int) (i : Int) (τ : jS) => (0 ≤ i ∧ i ≤ σ 113 4) ∧ same [125, 126, 127, 128] σ0 τ ∧ n = (saL (fun b => evM (v b) (fun j => σ 113 (272 + j)) (σ 121) idn 40 (σ 113 271)) i).length ∧ ¬ (0 ≤ k ∧ k < n)) (fun (n : Int) (i : Int) (τ : jS) => (σ 113 4 - i).toNat) ?_ _ _ _ ⟨by omega, same.refl _ _, rfl, by omega⟩
    intro n i τ hI22 ih22
    obtain ⟨_, S, L1, L2⟩ := hI22
    refine r_iload_n (dc dkX13_said 14 rfl) rfl (np 23 rfl ?_)
    refine r_aload_n (dc dkX13_said 15 rfl) rfl (np 24 rfl ?_)
    refine r_pV0 (y' := miX13_bands) (dc dkX13_said 16 rfl) mlX13_276 ceX13_bands ob_111 (Nat.le_of_ble_eq_true rfl) (Nat.le_of_ble_eq_true rfl) (c_X13_bands ) (np 27 rfl ?_)
    refine r_eqI _ (show τ 113 4 = σ 113 4 by rw [S 113 (by decide), e0]) ?_
    refine r_icmp_ge (tgt := 65) (dc dkX13_said 17 rfl) rfl (by first | assumption | omega | decide) (by first | assumption | omega | decide) (fun h27 => ?_) (fun h27 => (np 30 rfl ?_))
    · skip
      refine r_iload_n (dc dkX13_said 35 rfl) rfl (np 66 rfl ?_)
      refine r_iconst (dc dkX13_said 36 rfl) (np 67 rfl ?_)
      refine r_icmp_ne (tgt := 74) (dc dkX13_said 37 rfl) rfl (by first | assumption | omega | decide) (by first | assumption | omega | decide) (fun h67 => ?_) (fun h67 => (np 70 rfl ?_))
      · skip
        refine r_iconst (dc dkX13_said 40 rfl) (np 75 rfl ?_)
        exact r_iret (dc dkX13_said 41 rfl) rfl ⟨fun c hc h2 => by rw [S c h2, o0 c hc], fun j hj => by rw [S 111 (by decide), hσ0, ju_ne (by omega)], by rw [S 111 (by decide), z0], congrArg (fun z => some (vI z)) (by rw [show i = σ 113 4 by omega] at L1; rw [gte_f h13, nthL_end L1 L2]; first | (rw [if_pos (by omega)]; done) | (rw [if_neg (by omega)]; done))⟩
      refine r_iload_n (dc dkX13_said 38 rfl) rfl (np 71 rfl ?_)
      refine r_goto (tgt := 75) (dc dkX13_said 39 rfl) rfl ?_
      exact r_iret (dc dkX13_said 41 rfl) rfl ⟨fun c hc h2 => by rw [S c h2, o0 c hc], fun j hj => by rw [S 111 (by decide), hσ0, ju_ne (by omega)], by rw [S 111 (by decide), z0], congrArg (fun z => some (vI z)) (by rw [show i = σ 113 4 by omega] at L1; rw [gte_f h13, nthL_end L1 L2]; first | (rw [if_pos (by omega)]; done) | (rw [if_neg (by omega)]; done))⟩
    refine r_aload_n (dc dkX13_said 18 rfl) rfl (np 31 rfl ?_)
    refine r_aload_n (dc dkX13_said 19 rfl) rfl (np 32 rfl ?_)
    refine r_getR (dc dkX13_said 20 rfl) flX13_13 fd_111_15 (np 35 rfl ?_)
    refine r_sipush (dc dkX13_said 21 rfl) sp_271 (np 38 rfl ?_)
    refine r_iald (dc dkX13_said 22 rfl) ar_113 (by omega) (np 39 rfl ?_)
    refine r_eqI (σ 113 271) (by rw [S 113 (by decide), e0]) ?_
    have t1 : τ 113 = σ 113 := by rw [S 113 (by decide), e0]
    have t2 : τ 118 = σ 118 := by rw [S 118 (by decide), o0 118 (by decide)]
    have t3 : τ 121 = σ 121 := by rw [S 121 (by decide), o0 121 (by decide)]
    refine r_iload_n (dc dkX13_said 23 rfl) rfl (np 40 rfl ?_)
    refine r_cV2 (y' := miX13_holds) (dc dkX13_said 24 rfl) mlX13_486 ceX13_holds ob_111 (Nat.le_of_ble_eq_true rfl) (Nat.le_of_ble_eq_true rfl) (cHo_all 40 (okSn_e hSn t1 t2 t3) hT (by show σ 113 271 < (40 : Int); omega) (by rw [t1]; omega) (v := v i) (idn := idn) (by rw [t1, t3, atM_e t1 t2 t3]; exact fun k k0 k1 => hv i (by omega) (by omega) k k0 (by omega))) (fun r2 τ2 hp2 => (np 43 rfl ?_))
    obtain ⟨rfl, S2⟩ := hp2
    replace S2 : same [125, 126, 127, 128] σ0 τ2 := fun c hc => (S2 c hc).trans (S c hc)
    rw [t1, t3]
    refine r_bn (tgt := 49) (dc dkX13_said 25 rfl) rfl (fun h43 => ?_) (fun h43 => (np 46 rfl ?_))
    · skip
      have nb2 := sa_len (Q := (fun b => evM (v b) (fun j => σ 113 (272 + j)) (σ 121) idn 40 (σ 113 271))) (n := i) (by omega)
      rw [← Int.ofNat_le, ← L1] at nb2
      refine r_iload_n (dc dkX13_said 27 rfl) rfl (np 50 rfl ?_)
      refine r_iload_n (dc dkX13_said 28 rfl) rfl (np 51 rfl ?_)
      refine r_icmp_ne (tgt := 56) (dc dkX13_said 29 rfl) rfl (by first | assumption | omega | decide) (by first | assumption | omega | decide) (fun h51 => ?_) (fun h51 => (np 54 rfl ?_))
      · skip
        refine r_iinc (lv' := [(2, _), (0, _), (1, _), (3, _)]) (dc dkX13_said 32 rfl) (Nat.le_of_ble_eq_true rfl) rfl rfl (np 59 rfl ?_)
        refine r_iinc (lv' := [(3, _), (2, _), (0, _), (1, _)]) (dc dkX13_said 33 rfl) (Nat.le_of_ble_eq_true rfl) rfl rfl (np 62 rfl ?_)
        refine r_goto (tgt := 22) (dc dkX13_said 34 rfl) rfl ?_
        refine r_pick [2, 3, 1, 0] rfl ?_
        exact ih22 _ _ _ (by
              refine ⟨by omega, S2, ?_⟩
              unfold saL
              rw [fl_s _ (by omega)]
              first
              | (rw [lif_f h43, List.append_nil]; exact ⟨L1, L2⟩)
              | (rw [lif_t h43]; exact fnd_s L1 L2 (by omega))) (by omega)
      refine r_iload_n (dc dkX13_said 30 rfl) rfl (np 55 rfl ?_)
      exact r_iret (dc dkX13_said 31 rfl) rfl ⟨fun c hc h2 => by rw [S2 c h2, o0 c hc], fun j hj => by rw [S2 111 (by decide), hσ0, ju_ne (by omega)], by rw [S2 111 (by decide), z0], congrArg (fun z => some (vI z)) (by rw [gte_f h13]; exact (nthL_at (sa_at (Q := (fun b => evM (v b) (fun j => σ 113 (272 + j)) (σ 121) idn 40 (σ 113 271))) (i := i) (n := σ 113 4) ⟨by omega, by omega⟩ h43) (by rw [← L1]; omega)).symm)⟩
    refine r_goto (tgt := 59) (dc dkX13_said 26 rfl) rfl ?_
    refine r_iinc (lv' := [(3, _), (0, _), (1, _), (2, _)]) (dc dkX13_said 33 rfl) (Nat.le_of_ble_eq_true rfl) rfl rfl (np 62 rfl ?_)
    refine r_goto (tgt := 22) (dc dkX13_said 34 rfl) rfl ?_
    refine r_pick [1, 2, 3, 0] rfl ?_
    exact ih22 _ _ _ (by
          refine ⟨by omega, S2, ?_⟩
          unfold saL
          rw [fl_s _ (by omega)]
          first
          | (rw [lif_f h43, List.append_nil]; exact ⟨L1, L2⟩)
          | (rw [lif_t h43]; exact fnd_s L1 L2 (by omega))) (by omega)
  refine r_iconst (dc dkX13_said 8 rfl) (np 17 rfl ?_)
  exact r_iret (dc dkX13_said 9 rfl) rfl ⟨fun c hc _ => by rw [hσ0, ju_off _ _ _ _ _ hc], fun j hj => by rw [hσ0, ju_ne (by omega)], by rw [hσ0, ju_at], congrArg (fun z => some (vI z)) (gte_t h13).symm⟩
