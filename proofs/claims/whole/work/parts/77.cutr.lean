/-- the rows of places along a band, in the reference -/
def AR3 (σ : jS) (N : Int) (pl : Int → Int) : Prop := ∀ q, 0 ≤ q → q < N → isPg (pl q) ∧ σ 131 q = pl q % 10 ∧ σ 132 q = pl q / 10 ∧ σ 133 q = smI (fun r => sh (pl r) (pl (r + 1))) q
theorem AR3_c {σ τ : jS} {N : Int} {pl : Int → Int} (h : AR3 σ N pl) (e1 : τ 131 = σ 131) (e2 : τ 132 = σ 132) (e3 : τ 133 = σ 133) : AR3 τ N pl := by
  unfold AR3
  rw [e1, e2, e3]; exact h
theorem alP_at {n : Int} {P : Int → Int} {i s : Int} (hi : 0 ≤ i ∧ i < n) (hs : 0 ≤ s ∧ s < pts (P i) (P (i + 1))) : alP n P ((fl (ALs P) i ++ fl (fun s => [ALf (P i) (P (i + 1)) s]) s).length : Nat) = ALf (P i) (P (i + 1)) s := by
  have h : (fl (ALs P) i ++ fl (fun s => [ALf (P i) (P (i + 1)) s]) s) ++ [ALf (P i) (P (i + 1)) s] <+: ALL n P := by
    refine List.IsPrefix.trans ?_ (fl_pre hi.1 hi.2)
    rw [List.append_assoc]
    refine pre_in ?_
    exact fl_pre (f := fun s => [ALf (P i) (P (i + 1)) s]) hs.1 hs.2
  obtain ⟨R, hR⟩ := h
  unfold alP
  rw [← hR, Int.toNat_natCast]
  simp
theorem fl1_l {f : Int → Int} : ∀ n : Nat, (flN (fun s => [f s]) n).length = n
  | 0 => rfl
  | n + 1 => by rw [flN, List.length_append, fl1_l n]; rfl
theorem ALN_b {n : Int} {P : Int → Int} (hp : ∀ i, 0 ≤ i → isPg (P i)) : ∀ i : Nat, (flN (ALs P) i).length ≤ 9 * i
  | 0 => by simp [flN]
  | i + 1 => by
    rw [flN, List.length_append]
    have h1 := ALN_b hp (n := n) i
    have h2 : (ALs P i).length = (pts (P i) (P (i + 1))).toNat := by unfold ALs fl; exact fl1_l _
    have h3 := pts_b (hp i (by omega)) (hp (i + 1) (by omega))
    omega
/-- what the reference asks of a cut -/
def QKr (n : Int) (P pl : Int → Int) (i j : Int) : Prop := 2 * ((prS pl i j).natAbs : Int) = ((areaS n P).natAbs : Int) ∧ (∀ k, 0 ≤ k → k < n → ¬ mt (pl i) (pl j) (P k) (P (k + 1)) = 1 ∧ ¬ (¬ (P k = pl i ∨ P k = pl j) ∧ onS (P k) (pl i) (pl j)) ∧ ¬ onC (pl i % 10 + pl j % 10) (pl i / 10 + pl j / 10) (2 * (P k % 10)) (2 * (P k / 10)) (2 * (P (k + 1) % 10)) (2 * (P (k + 1) / 10))) ∧ encRB 2 n P (pl i % 10 + pl j % 10) (pl i / 10 + pl j / 10)
set_option maxRecDepth 100000 in
set_option maxHeartbeats 4000000 in
theorem c_X13_layAlong {σ : jS} (hN : okN σ) {b : Int} (h0 : 0 ≤ b) (h1 : b < σ 113 4) : Jm 4 miX13_layAlong [.ref 111, vI b] σ (fun r τ => r = some (vI (alN (cn σ 113 b) (rP σ 113 b))) ∧ mdT [] [131, 132, 133] σ τ ∧ AR3 τ (alN (cn σ 113 b) (rP σ 113 b)) (alP (cn σ 113 b) (rP σ 113 b))) := by
  have m1 := hN.1.2.2.2.2.1
  have nb := (hN.2 b h0 h1).1
  have pg : ∀ i, isPg (rP σ 113 b i) := fun i => rP_p (hN.2 b h0 h1) i
  refine jm_ofF (Po := (fun r τ => r = some (vI (alN (cn σ 113 b) (rP σ 113 b))) ∧ mdT [] [131, 132, 133] σ τ ∧ AR3 τ (alN (cn σ 113 b) (rP σ 113 b)) (alP (cn σ 113 b) (rP σ 113 b)))) (plainFor_of_name (by decide)) (Nat.le_of_ble_eq_true rfl) (lv := [(0, _), (1, _)]) rfl ?_
  refine r_iconst (dc dkX13_layAlong 0 rfl) (np 1 rfl ?_)
  refine r_istore_n (lv' := [(2, _), (0, _), (1, _)]) (dc dkX13_layAlong 1 rfl) (Nat.le_of_ble_eq_true rfl) rfl (np 2 rfl ?_)
  refine r_iconst (dc dkX13_layAlong 2 rfl) (np 3 rfl ?_)
  refine r_istore_n (lv' := [(3, _), (2, _), (0, _), (1, _)]) (dc dkX13_layAlong 3 rfl) (Nat.le_of_ble_eq_true rfl) rfl (np 4 rfl ?_)
  refine r_pick [2, 3, 1, 0] (lv' := [(0, _), (1, _), (2, _), (3, _)]) rfl ?_
  refine jlp3 (P := fun (N : Int) (i : Int) (τ : jS) => jR _ _ _ 4 [(0, .ref 111), (1, vI b), (2, vI N), (3, vI i)] [] τ) (I := fun (N : Int) (i : Int) (τ : jS) => (0 ≤ i ∧ i ≤ (cn σ 113 b)) ∧ mdT [] [131, 132, 133] σ τ ∧ N = (fl (ALs (rP σ 113 b)) i).length ∧ AR3 τ N (alP (cn σ 113 b) (rP σ 113 b))) (fun (N : Int) (i : Int) (τ : jS) => ((cn σ 113 b) - i).toNat) ?_ _ _ _ ⟨by omega, mdT.refl _ _ _, rfl, fun q q0 q1 => by omega⟩
  intro N i τ hI4 ih4
  have S := hI4.2.1
  have e13 : τ 113 = σ 113 := S.1 113 (by decide) (by decide)
  have hNt := okN_c hN e13
  have ec := cn_c e13 b
  have eP := rP_c2 e13 b
  have b4 : b < τ 113 4 := by rw [e13]; exact h1
  refine r_iload_n (dc dkX13_layAlong 4 rfl) rfl (np 5 rfl ?_)
  refine r_aload_n (dc dkX13_layAlong 5 rfl) rfl (np 6 rfl ?_)
  refine r_iload_n (dc dkX13_layAlong 6 rfl) rfl (np 7 rfl ?_)
  refine r_pV1 (y' := miX13_corners) (dc dkX13_layAlong 7 rfl) mlX13_279 ceX13_corners ob_111 (Nat.le_of_ble_eq_true rfl) (Nat.le_of_ble_eq_true rfl) (c_X13_corners (by omega)) (np 10 rfl ?_)
  refine r_eqI _ ec ?_
  refine r_icmp_ge (tgt := 177) (dc dkX13_layAlong 8 rfl) rfl (by first | assumption | decide | omega) (by first | assumption | decide | omega) (fun h10 => ?_) (fun h10 => (np 13 rfl ?_))
  · skip
    refine r_iload_n (dc dkX13_layAlong 113 rfl) rfl (np 178 rfl ?_)
    exact r_iret (dc dkX13_layAlong 114 rfl) rfl (by have T := hI4.2.2.1; have T2 := hI4.2.2.2; rw [show i = (cn σ 113 b) by omega] at T; have e : N = alN (cn σ 113 b) (rP σ 113 b) := T; rw [e] at T2; exact ⟨congrArg (fun z => some (vI z)) e, S, T2⟩)
  have p1 := pg i
  have p2 := pg (i + 1)
  have pb := pts_b p1 p2
  refine r_aload_n (dc dkX13_layAlong 9 rfl) rfl (np 14 rfl ?_)
  refine r_iload_n (dc dkX13_layAlong 10 rfl) rfl (np 15 rfl ?_)
  refine r_iload_n (dc dkX13_layAlong 11 rfl) rfl (np 16 rfl ?_)
  refine r_iconst (dc dkX13_layAlong 12 rfl) (np 17 rfl ?_)
  refine r_iadd (dc dkX13_layAlong 13 rfl) (np 18 rfl ?_)
  refine r_pV2 (y' := miX13_x) (dc dkX13_layAlong 14 rfl) mlX13_285 ceX13_x ob_111 (Nat.le_of_ble_eq_true rfl) (Nat.le_of_ble_eq_true rfl) (c_X13_x hNt h0 b4 (by omega)) (np 21 rfl ?_)
  refine r_aload_n (dc dkX13_layAlong 15 rfl) rfl (np 22 rfl ?_)
  refine r_iload_n (dc dkX13_layAlong 16 rfl) rfl (np 23 rfl ?_)
  refine r_iload_n (dc dkX13_layAlong 17 rfl) rfl (np 24 rfl ?_)
  refine r_pV2 (y' := miX13_x) (dc dkX13_layAlong 18 rfl) mlX13_285 ceX13_x ob_111 (Nat.le_of_ble_eq_true rfl) (Nat.le_of_ble_eq_true rfl) (c_X13_x hNt h0 b4 (by omega)) (np 27 rfl ?_)
  refine r_isub (dc dkX13_layAlong 19 rfl) (np 28 rfl ?_)
  refine r_eqI (rP σ 113 b (i + 1) % 10 - rP σ 113 b i % 10) (by rw [eP]) ?_
  refine r_istore (lv' := [(4, _), (0, _), (1, _), (2, _), (3, _)]) (dc dkX13_layAlong 20 rfl) (Nat.le_of_ble_eq_true rfl) rfl (np 30 rfl ?_)
  refine r_aload_n (dc dkX13_layAlong 21 rfl) rfl (np 31 rfl ?_)
  refine r_iload_n (dc dkX13_layAlong 22 rfl) rfl (np 32 rfl ?_)
  refine r_iload_n (dc dkX13_layAlong 23 rfl) rfl (np 33 rfl ?_)
  refine r_iconst (dc dkX13_layAlong 24 rfl) (np 34 rfl ?_)
  refine r_iadd (dc dkX13_layAlong 25 rfl) (np 35 rfl ?_)
  refine r_pV2 (y' := miX13_y) (dc dkX13_layAlong 26 rfl) mlX13_289 ceX13_y ob_111 (Nat.le_of_ble_eq_true rfl) (Nat.le_of_ble_eq_true rfl) (c_X13_y hNt h0 b4 (by omega)) (np 38 rfl ?_)
  refine r_aload_n (dc dkX13_layAlong 27 rfl) rfl (np 39 rfl ?_)
  refine r_iload_n (dc dkX13_layAlong 28 rfl) rfl (np 40 rfl ?_)
  refine r_iload_n (dc dkX13_layAlong 29 rfl) rfl (np 41 rfl ?_)
  refine r_pV2 (y' := miX13_y) (dc dkX13_layAlong 30 rfl) mlX13_289 ceX13_y ob_111 (Nat.le_of_ble_eq_true rfl) (Nat.le_of_ble_eq_true rfl) (c_X13_y hNt h0 b4 (by omega)) (np 44 rfl ?_)
  refine r_isub (dc dkX13_layAlong 31 rfl) (np 45 rfl ?_)
  refine r_eqI (rP σ 113 b (i + 1) / 10 - rP σ 113 b i / 10) (by rw [eP]) ?_
  refine r_istore (lv' := [(5, _), (4, _), (0, _), (1, _), (2, _), (3, _)]) (dc dkX13_layAlong 32 rfl) (Nat.le_of_ble_eq_true rfl) rfl (np 47 rfl ?_)
  refine r_iload (dc dkX13_layAlong 33 rfl) rfl (np 49 rfl ?_)
  refine r_iload (dc dkX13_layAlong 34 rfl) rfl (np 51 rfl ?_)
  refine r_pS2 (y' := miX13_common) (dc dkX13_layAlong 35 rfl) mlX13_295 seX13_common (Nat.le_of_ble_eq_true rfl) (Nat.le_of_ble_eq_true rfl) (c_X13_common (by omega) (by omega)) (np 54 rfl ?_)
  refine r_eqI (pts (rP σ 113 b i) (rP σ 113 b (i + 1))) (gd_neg _ _ _ _) ?_
  refine r_istore (lv' := [(6, _), (5, _), (4, _), (0, _), (1, _), (2, _), (3, _)]) (dc dkX13_layAlong 36 rfl) (Nat.le_of_ble_eq_true rfl) rfl (np 56 rfl ?_)
  refine r_iconst (dc dkX13_layAlong 37 rfl) (np 57 rfl ?_)
  refine r_istore (lv' := [(7, _), (6, _), (5, _), (4, _), (0, _), (1, _), (2, _), (3, _)]) (dc dkX13_layAlong 38 rfl) (Nat.le_of_ble_eq_true rfl) rfl (np 59 rfl ?_)
  refine r_pick [4, 5, 6, 7, 3, 2, 1, 0] (lv' := [(0, _), (1, _), (2, _), (3, _), (4, _), (5, _), (6, _), (7, _)]) rfl ?_
  refine jlp3 (P := fun (N : Int) (s : Int) (τ : jS) => jR _ _ _ 59 [(0, .ref 111), (1, vI b), (2, vI N), (3, vI i), (4, vI (rP σ 113 b (i + 1) % 10 - rP σ 113 b i % 10)), (5, vI (rP σ 113 b (i + 1) / 10 - rP σ 113 b i / 10)), (6, vI (pts (rP σ 113 b i) (rP σ 113 b (i + 1)))), (7, vI s)] [] τ) (I := fun (N : Int) (s : Int) (τ : jS) => (0 ≤ s ∧ s ≤ pts (rP σ 113 b i) (rP σ 113 b (i + 1))) ∧ mdT [] [131, 132, 133] σ τ ∧ N = (fl (ALs (rP σ 113 b)) i ++ fl (fun s => [ALf (rP σ 113 b i) (rP σ 113 b (i + 1)) s]) s).length ∧ AR3 τ N (alP (cn σ 113 b) (rP σ 113 b))) (fun (N : Int) (s : Int) (τ : jS) => (pts (rP σ 113 b i) (rP σ 113 b (i + 1)) - s).toNat) ?_ _ _ _ ⟨by omega, S, by rw [fl_0, List.append_nil]; exact hI4.2.2.1, hI4.2.2.2⟩
  intro N s τ hI59 ih59
  have S := hI59.2.1
  have e13 : τ 113 = σ 113 := S.1 113 (by decide) (by decide)
  have hNt := okN_c hN e13
  have ec := cn_c e13 b
  have eP := rP_c2 e13 b
  have b4 : b < τ 113 4 := by rw [e13]; exact h1
  refine r_iload (dc dkX13_layAlong 39 rfl) rfl (np 61 rfl ?_)
  refine r_iload (dc dkX13_layAlong 40 rfl) rfl (np 63 rfl ?_)
  refine r_icmp_ge (tgt := 171) (dc dkX13_layAlong 41 rfl) rfl (by first | assumption | decide | omega) (by first | assumption | decide | omega) (fun h63 => ?_) (fun h63 => (np 66 rfl ?_))
  · skip
    refine r_iinc (lv' := [(3, _), (0, _), (1, _), (2, _), (4, _), (5, _), (6, _), (7, _)]) (dc dkX13_layAlong 111 rfl) (Nat.le_of_ble_eq_true rfl) rfl rfl (np 174 rfl ?_)
    refine r_goto (tgt := 4) (dc dkX13_layAlong 112 rfl) rfl ?_
    refine r_pick [1, 2, 3, 0] rfl ?_
    exact ih4 _ _ _ ⟨by omega, S, by rw [fl_s _ (by omega)]; have T := hI59.2.2.1; rw [show s = pts (rP σ 113 b i) (rP σ 113 b (i + 1)) by omega] at T; exact T, hI59.2.2.2⟩ (by omega)
  have AL := ALf_p p1 p2 (s := s) (by omega)
  have eL : (alP (cn σ 113 b) (rP σ 113 b)) N = ALf (rP σ 113 b i) (rP σ 113 b (i + 1)) s := by rw [hI59.2.2.1]; exact alP_at (by omega) (by omega)
  have lb := ALN_b (n := 0) (P := (rP σ 113 b)) (fun i _ => pg i) i.toNat
  have lb2 := fl1_l (f := fun s => ALf (rP σ 113 b i) (rP σ 113 b (i + 1)) s) s.toNat
  have nB : 0 ≤ N ∧ N ≤ 72 := by
    have := hI59.2.2.1
    rw [List.length_append, show fl (ALs (rP σ 113 b)) i = flN (ALs (rP σ 113 b)) i.toNat from rfl, show fl (fun s => [ALf (rP σ 113 b i) (rP σ 113 b (i + 1)) s]) s = flN (fun s => [ALf (rP σ 113 b i) (rP σ 113 b (i + 1)) s]) s.toNat from rfl] at this
    omega
  refine r_aload_n (dc dkX13_layAlong 42 rfl) rfl (np 67 rfl ?_)
  refine r_getR (dc dkX13_layAlong 43 rfl) flX13_69 fd_111_38 (np 70 rfl ?_)
  refine r_iload_n (dc dkX13_layAlong 44 rfl) rfl (np 71 rfl ?_)
  refine r_aload_n (dc dkX13_layAlong 45 rfl) rfl (np 72 rfl ?_)
  refine r_iload_n (dc dkX13_layAlong 46 rfl) rfl (np 73 rfl ?_)
  refine r_iload_n (dc dkX13_layAlong 47 rfl) rfl (np 74 rfl ?_)
  refine r_pV2 (y' := miX13_x) (dc dkX13_layAlong 48 rfl) mlX13_285 ceX13_x ob_111 (Nat.le_of_ble_eq_true rfl) (Nat.le_of_ble_eq_true rfl) (c_X13_x hNt h0 b4 (by omega)) (np 77 rfl ?_)
  refine r_eqI (rP σ 113 b i % 10) (by rw [eP]) ?_
  refine r_iload (dc dkX13_layAlong 49 rfl) rfl (np 79 rfl ?_)
  refine r_iload (dc dkX13_layAlong 50 rfl) rfl (np 81 rfl ?_)
  refine r_idiv (dc dkX13_layAlong 51 rfl) (by first | assumption | decide | omega) (by first | assumption | decide | omega) (np 82 rfl ?_)
  refine r_iload (dc dkX13_layAlong 52 rfl) rfl (np 84 rfl ?_)
  refine r_imul (dc dkX13_layAlong 53 rfl) (np 85 rfl ?_)
  refine r_iadd (dc dkX13_layAlong 54 rfl) (np 86 rfl ?_)
  refine r_eqI (rP σ 113 b i % 10 + (rP σ 113 b (i + 1) % 10 - rP σ 113 b i % 10).tdiv (pts (rP σ 113 b i) (rP σ 113 b (i + 1))) * s) rfl ?_
  refine r_iast (dc dkX13_layAlong 55 rfl) ar_131 (by omega) (np 87 rfl ?_)
  refine r_abs (fun ρ => ρ = ju τ 131 N (rP σ 113 b i % 10 + (rP σ 113 b (i + 1) % 10 - rP σ 113 b i % 10).tdiv (pts (rP σ 113 b i) (rP σ 113 b (i + 1))) * s)) rfl ?_
  intro τa ea
  have Sa : mdT [] [131, 132, 133] σ τa := by rw [ea]; exact S.row (by decide) (by decide)
  have e13a : τa 113 = σ 113 := Sa.1 113 (by decide) (by decide)
  have hNa := okN_c hN e13a
  have b4a : b < τa 113 4 := by rw [e13a]; exact h1
  refine r_aload_n (dc dkX13_layAlong 56 rfl) rfl (np 88 rfl ?_)
  refine r_getR (dc dkX13_layAlong 57 rfl) flX13_72 fd_111_39 (np 91 rfl ?_)
  refine r_iload_n (dc dkX13_layAlong 58 rfl) rfl (np 92 rfl ?_)
  refine r_aload_n (dc dkX13_layAlong 59 rfl) rfl (np 93 rfl ?_)
  refine r_iload_n (dc dkX13_layAlong 60 rfl) rfl (np 94 rfl ?_)
  refine r_iload_n (dc dkX13_layAlong 61 rfl) rfl (np 95 rfl ?_)
  refine r_pV2 (y' := miX13_y) (dc dkX13_layAlong 62 rfl) mlX13_289 ceX13_y ob_111 (Nat.le_of_ble_eq_true rfl) (Nat.le_of_ble_eq_true rfl) (c_X13_y hNa h0 b4a (by omega)) (np 98 rfl ?_)
  refine r_eqI (rP σ 113 b i / 10) (by rw [rP_c2 e13a b]) ?_
  refine r_iload (dc dkX13_layAlong 63 rfl) rfl (np 100 rfl ?_)
  refine r_iload (dc dkX13_layAlong 64 rfl) rfl (np 102 rfl ?_)
  refine r_idiv (dc dkX13_layAlong 65 rfl) (by first | assumption | decide | omega) (by first | assumption | decide | omega) (np 103 rfl ?_)
  refine r_iload (dc dkX13_layAlong 66 rfl) rfl (np 105 rfl ?_)
  refine r_imul (dc dkX13_layAlong 67 rfl) (np 106 rfl ?_)
  refine r_iadd (dc dkX13_layAlong 68 rfl) (np 107 rfl ?_)
  refine r_eqI (rP σ 113 b i / 10 + (rP σ 113 b (i + 1) / 10 - rP σ 113 b i / 10).tdiv (pts (rP σ 113 b i) (rP σ 113 b (i + 1))) * s) rfl ?_
  refine r_iast (dc dkX13_layAlong 69 rfl) ar_132 (by omega) (np 108 rfl ?_)
  refine r_abs (fun ρ => ρ = ju τa 132 N (rP σ 113 b i / 10 + (rP σ 113 b (i + 1) / 10 - rP σ 113 b i / 10).tdiv (pts (rP σ 113 b i) (rP σ 113 b (i + 1))) * s)) rfl ?_
  intro τb eb
  have Sb : mdT [] [131, 132, 133] σ τb := by rw [eb]; exact Sa.row (by decide) (by decide)
  have A := hI59.2.2.2
  have b1 : ∀ q, 0 ≤ q → q ≤ N → τb 131 q = (alP (cn σ 113 b) (rP σ 113 b)) q % 10 := fun q q0 q1 => by
    rw [eb, ju_off _ _ _ _ _ (by decide), ea]
    by_cases c : q = N
    · rw [c, ju_at, eL, AL.2.1]; rfl
    · rw [ju_ne (by omega)]; exact (A q q0 (by omega)).2.1
  have b2 : ∀ q, 0 ≤ q → q ≤ N → τb 132 q = (alP (cn σ 113 b) (rP σ 113 b)) q / 10 := fun q q0 q1 => by
    rw [eb]
    by_cases c : q = N
    · rw [c, ju_at, eL, AL.2.2]; rfl
    · rw [ju_ne (by omega), ea, ju_off _ _ _ _ _ (by decide)]; exact (A q q0 (by omega)).2.2.1
  have b3 : τb 133 = τ 133 := by rw [eb, ju_off _ _ _ _ _ (by decide), ea, ju_off _ _ _ _ _ (by decide)]
  refine r_aload_n (dc dkX13_layAlong 70 rfl) rfl (np 109 rfl ?_)
  refine r_getR (dc dkX13_layAlong 71 rfl) flX13_75 fd_111_40 (np 112 rfl ?_)
  refine r_iload_n (dc dkX13_layAlong 72 rfl) rfl (np 113 rfl ?_)
  refine r_iload_n (dc dkX13_layAlong 73 rfl) rfl (np 114 rfl ?_)
  have jj161 : ∀ v : Int, (v = smI (fun r => sh ((alP (cn σ 113 b) (rP σ 113 b)) r) ((alP (cn σ 113 b) (rP σ 113 b)) (r + 1))) N) → jR 4 miX13_layAlong (fun r τ => r = some (vI (alN (cn σ 113 b) (rP σ 113 b))) ∧ mdT [] [131, 132, 133] σ τ ∧ AR3 τ (alN (cn σ 113 b) (rP σ 113 b)) (alP (cn σ 113 b) (rP σ 113 b))) 161 [(0, .ref 111), (1, vI b), (2, vI N), (3, vI i), (4, vI (rP σ 113 b (i + 1) % 10 - rP σ 113 b i % 10)), (5, vI (rP σ 113 b (i + 1) / 10 - rP σ 113 b i / 10)), (6, vI (pts (rP σ 113 b i) (rP σ 113 b (i + 1)))), (7, vI s)] [vI v, vI N, .ref 133] τb := by
    intro v hv
    refine r_iast (dc dkX13_layAlong 107 rfl) ar_133 (by omega) (np 162 rfl ?_)
    refine r_iinc (lv' := [(2, _), (0, _), (1, _), (3, _), (4, _), (5, _), (6, _), (7, _)]) (dc dkX13_layAlong 108 rfl) (Nat.le_of_ble_eq_true rfl) rfl rfl (np 165 rfl ?_)
    refine r_iinc (lv' := [(7, _), (2, _), (0, _), (1, _), (3, _), (4, _), (5, _), (6, _)]) (dc dkX13_layAlong 109 rfl) (Nat.le_of_ble_eq_true rfl) rfl rfl (np 168 rfl ?_)
    refine r_goto (tgt := 59) (dc dkX13_layAlong 110 rfl) rfl ?_
    refine r_pick [2, 3, 1, 4, 5, 6, 7, 0] rfl ?_
    exact ih59 _ _ _ (by
          refine ⟨by omega, Sb.row (by decide) (by decide), ?_, fun q q0 q1 => ?_⟩
          · rw [fl_s _ (by omega), ← List.append_assoc, List.length_append, List.length_cons, List.length_nil]
            have := hI59.2.2.1
            omega
          · rw [ju_off _ _ _ _ _ (by decide), ju_off _ _ _ _ _ (by decide), b1 q q0 (by omega), b2 q q0 (by omega)]
            by_cases c : q = N
            · rw [c, ju_at, eL]; exact ⟨AL.1, rfl, rfl, hv⟩
            · rw [ju_ne (by omega), b3]
              have := A q q0 (by omega)
              exact ⟨this.1, rfl, rfl, this.2.2.2⟩) (by omega)
  refine r_if_ne (tgt := 121) (dc dkX13_layAlong 74 rfl) rfl (by first | assumption | decide | omega) (fun h114 => ?_) (fun h114 => (np 117 rfl ?_))
  · skip
    refine r_aload_n (dc dkX13_layAlong 77 rfl) rfl (np 122 rfl ?_)
    refine r_getR (dc dkX13_layAlong 78 rfl) flX13_75 fd_111_40 (np 125 rfl ?_)
    refine r_iload_n (dc dkX13_layAlong 79 rfl) rfl (np 126 rfl ?_)
    refine r_iconst (dc dkX13_layAlong 80 rfl) (np 127 rfl ?_)
    refine r_isub (dc dkX13_layAlong 81 rfl) (np 128 rfl ?_)
    refine r_iald (dc dkX13_layAlong 82 rfl) ar_133 (by omega) (np 129 rfl ?_)
    refine r_aload_n (dc dkX13_layAlong 83 rfl) rfl (np 130 rfl ?_)
    refine r_getR (dc dkX13_layAlong 84 rfl) flX13_69 fd_111_38 (np 133 rfl ?_)
    refine r_iload_n (dc dkX13_layAlong 85 rfl) rfl (np 134 rfl ?_)
    refine r_iconst (dc dkX13_layAlong 86 rfl) (np 135 rfl ?_)
    refine r_isub (dc dkX13_layAlong 87 rfl) (np 136 rfl ?_)
    refine r_iald (dc dkX13_layAlong 88 rfl) ar_131 (by omega) (np 137 rfl ?_)
    refine r_aload_n (dc dkX13_layAlong 89 rfl) rfl (np 138 rfl ?_)
    refine r_getR (dc dkX13_layAlong 90 rfl) flX13_72 fd_111_39 (np 141 rfl ?_)
    refine r_iload_n (dc dkX13_layAlong 91 rfl) rfl (np 142 rfl ?_)
    refine r_iald (dc dkX13_layAlong 92 rfl) ar_132 (by omega) (np 143 rfl ?_)
    refine r_imul (dc dkX13_layAlong 93 rfl) (np 144 rfl ?_)
    refine r_iadd (dc dkX13_layAlong 94 rfl) (np 145 rfl ?_)
    refine r_aload_n (dc dkX13_layAlong 95 rfl) rfl (np 146 rfl ?_)
    refine r_getR (dc dkX13_layAlong 96 rfl) flX13_69 fd_111_38 (np 149 rfl ?_)
    refine r_iload_n (dc dkX13_layAlong 97 rfl) rfl (np 150 rfl ?_)
    refine r_iald (dc dkX13_layAlong 98 rfl) ar_131 (by omega) (np 151 rfl ?_)
    refine r_aload_n (dc dkX13_layAlong 99 rfl) rfl (np 152 rfl ?_)
    refine r_getR (dc dkX13_layAlong 100 rfl) flX13_72 fd_111_39 (np 155 rfl ?_)
    refine r_iload_n (dc dkX13_layAlong 101 rfl) rfl (np 156 rfl ?_)
    refine r_iconst (dc dkX13_layAlong 102 rfl) (np 157 rfl ?_)
    refine r_isub (dc dkX13_layAlong 103 rfl) (np 158 rfl ?_)
    refine r_iald (dc dkX13_layAlong 104 rfl) ar_132 (by omega) (np 159 rfl ?_)
    refine r_imul (dc dkX13_layAlong 105 rfl) (np 160 rfl ?_)
    refine r_isub (dc dkX13_layAlong 106 rfl) (np 161 rfl ?_)
    refine r_pick [0, 1, 2, 3, 4, 5, 6, 7] rfl ?_
    exact jj161 _ (by
          first
          | (rw [show N = 0 by omega]; rfl)
          | (have z := smI_s (fun r => sh ((alP (cn σ 113 b) (rP σ 113 b)) r) ((alP (cn σ 113 b) (rP σ 113 b)) (r + 1))) (show 0 ≤ N - 1 by omega)
             rw [show N - 1 + 1 = N by omega] at z
             rw [b1 (N - 1) (by omega) (by omega), b1 N (by omega) (by omega), b2 (N - 1) (by omega) (by omega), b2 N (by omega) (by omega), b3, (A (N - 1) (by omega) (by omega)).2.2.2, z]
             unfold sh
             omega))
  refine r_iconst (dc dkX13_layAlong 75 rfl) (np 118 rfl ?_)
  refine r_goto (tgt := 161) (dc dkX13_layAlong 76 rfl) rfl ?_
  refine r_pick [0, 1, 2, 3, 4, 5, 6, 7] rfl ?_
  exact jj161 _ (by
        first
        | (rw [show N = 0 by omega]; rfl)
        | (have z := smI_s (fun r => sh ((alP (cn σ 113 b) (rP σ 113 b)) r) ((alP (cn σ 113 b) (rP σ 113 b)) (r + 1))) (show 0 ≤ N - 1 by omega)
           rw [show N - 1 + 1 = N by omega] at z
           rw [b1 (N - 1) (by omega) (by omega), b1 N (by omega) (by omega), b2 (N - 1) (by omega) (by omega), b2 N (by omega) (by omega), b3, (A (N - 1) (by omega) (by omega)).2.2.2, z]
           unfold sh
           omega))
theorem alN_b {n : Int} {P : Int → Int} (hn : 0 ≤ n ∧ n ≤ 8) (hp : ∀ i, 0 ≤ i → isPg (P i)) : 0 ≤ alN n P ∧ alN n P ≤ 72 := by
  have h := ALN_b (n := 0) hp n.toNat
  have e : alN n P = ((flN (ALs P) n.toNat).length : Int) := rfl
  omega
set_option maxRecDepth 100000 in
set_option maxHeartbeats 4000000 in
theorem c_X13_isCut {σ : jS} (hN : okN σ) {b : Int} (h0 : 0 ≤ b) (h1 : b < σ 113 4) {N i j : Int} {pl : Int → Int} (hN2 : cB 72 N) (hA : AR3 σ N pl) (hi : 0 ≤ i) (hij : i < j) (hj : j < N) : Jp 6 miX13_isCut [.ref 111, vI b, vI i, vI j] σ (vI (bI (QKr (cn σ 113 b) (rP σ 113 b) pl i j))) := by
  have m1 := hN.1.2.2.2.2.1
  have nb := (hN.2 b h0 h1).1
  have pg : ∀ i, isPg (rP σ 113 b i) := fun i => rP_p (hN.2 b h0 h1) i
  obtain ⟨g1, x1, y1, s1⟩ := hA i hi (by omega)
  obtain ⟨g2, x2, y2, s2⟩ := hA j (by omega) hj
  have pS : ∀ x, 0 ≤ x → x < N → -(x * 81) ≤ smI (fun r => sh (pl r) (pl (r + 1))) x ∧ smI (fun r => sh (pl r) (pl (r + 1))) x ≤ x * 81 := fun x w0 w1 => smI_b w0 (fun q q0 q1 => sh_b (hA q q0 (by omega)).1 (hA (q + 1) (by omega) (by omega)).1)
  have x3 := pS i hi (by omega)
  have x4 := pS j (by omega) hj
  have x5 := sh_b g2 g1
  have x7 : -20000 ≤ prS pl i j ∧ prS pl i j ≤ 20000 := by unfold prS; omega
  have ab := smI_b (f := fun i => sh (rP σ 113 b i) (rP σ 113 b (i + 1))) (A := 81) (n := cn σ 113 b) (by omega) (fun i i0 i1 => sh_b (pg i) (pg (i + 1)))
  replace ab : -(cn σ 113 b * 81) ≤ areaS (cn σ 113 b) (rP σ 113 b) ∧ areaS (cn σ 113 b) (rP σ 113 b) ≤ cn σ 113 b * 81 := ab
  refine jm_ofF (Po := (jP (vI (bI (QKr (cn σ 113 b) (rP σ 113 b) pl i j))) σ)) (plainFor_of_name (by decide)) (Nat.le_of_ble_eq_true rfl) (lv := [(0, _), (1, _), (2, _), (3, _)]) rfl ?_
  refine r_aload_n (dc dkX13_isCut 0 rfl) rfl (np 1 rfl ?_)
  refine r_getR (dc dkX13_isCut 1 rfl) flX13_69 fd_111_38 (np 4 rfl ?_)
  refine r_iload_n (dc dkX13_isCut 2 rfl) rfl (np 5 rfl ?_)
  refine r_iald (dc dkX13_isCut 3 rfl) ar_131 (by omega) (np 6 rfl ?_)
  refine r_eqI _ x1 ?_
  refine r_istore (lv' := [(4, _), (0, _), (1, _), (2, _), (3, _)]) (dc dkX13_isCut 4 rfl) (Nat.le_of_ble_eq_true rfl) rfl (np 8 rfl ?_)
  refine r_aload_n (dc dkX13_isCut 5 rfl) rfl (np 9 rfl ?_)
  refine r_getR (dc dkX13_isCut 6 rfl) flX13_72 fd_111_39 (np 12 rfl ?_)
  refine r_iload_n (dc dkX13_isCut 7 rfl) rfl (np 13 rfl ?_)
  refine r_iald (dc dkX13_isCut 8 rfl) ar_132 (by omega) (np 14 rfl ?_)
  refine r_eqI _ y1 ?_
  refine r_istore (lv' := [(5, _), (4, _), (0, _), (1, _), (2, _), (3, _)]) (dc dkX13_isCut 9 rfl) (Nat.le_of_ble_eq_true rfl) rfl (np 16 rfl ?_)
  refine r_aload_n (dc dkX13_isCut 10 rfl) rfl (np 17 rfl ?_)
  refine r_getR (dc dkX13_isCut 11 rfl) flX13_69 fd_111_38 (np 20 rfl ?_)
  refine r_iload_n (dc dkX13_isCut 12 rfl) rfl (np 21 rfl ?_)
  refine r_iald (dc dkX13_isCut 13 rfl) ar_131 (by omega) (np 22 rfl ?_)
  refine r_eqI _ x2 ?_
  refine r_istore (lv' := [(6, _), (5, _), (4, _), (0, _), (1, _), (2, _), (3, _)]) (dc dkX13_isCut 14 rfl) (Nat.le_of_ble_eq_true rfl) rfl (np 24 rfl ?_)
  refine r_aload_n (dc dkX13_isCut 15 rfl) rfl (np 25 rfl ?_)
  refine r_getR (dc dkX13_isCut 16 rfl) flX13_72 fd_111_39 (np 28 rfl ?_)
  refine r_iload_n (dc dkX13_isCut 17 rfl) rfl (np 29 rfl ?_)
  refine r_iald (dc dkX13_isCut 18 rfl) ar_132 (by omega) (np 30 rfl ?_)
  refine r_eqI _ y2 ?_
  refine r_istore (lv' := [(7, _), (6, _), (5, _), (4, _), (0, _), (1, _), (2, _), (3, _)]) (dc dkX13_isCut 19 rfl) (Nat.le_of_ble_eq_true rfl) rfl (np 32 rfl ?_)
  refine r_aload_n (dc dkX13_isCut 20 rfl) rfl (np 33 rfl ?_)
  refine r_getR (dc dkX13_isCut 21 rfl) flX13_75 fd_111_40 (np 36 rfl ?_)
  refine r_iload_n (dc dkX13_isCut 22 rfl) rfl (np 37 rfl ?_)
  refine r_iald (dc dkX13_isCut 23 rfl) ar_133 (by omega) (np 38 rfl ?_)
  refine r_eqI _ s2 ?_
  refine r_aload_n (dc dkX13_isCut 24 rfl) rfl (np 39 rfl ?_)
  refine r_getR (dc dkX13_isCut 25 rfl) flX13_75 fd_111_40 (np 42 rfl ?_)
  refine r_iload_n (dc dkX13_isCut 26 rfl) rfl (np 43 rfl ?_)
  refine r_iald (dc dkX13_isCut 27 rfl) ar_133 (by omega) (np 44 rfl ?_)
  refine r_eqI _ s1 ?_
  refine r_isub (dc dkX13_isCut 28 rfl) (np 45 rfl ?_)
  refine r_iload (dc dkX13_isCut 29 rfl) rfl (np 47 rfl ?_)
  refine r_iload (dc dkX13_isCut 30 rfl) rfl (np 49 rfl ?_)
  refine r_imul (dc dkX13_isCut 31 rfl) (np 50 rfl ?_)
  refine r_iadd (dc dkX13_isCut 32 rfl) (np 51 rfl ?_)
  refine r_iload (dc dkX13_isCut 33 rfl) rfl (np 53 rfl ?_)
  refine r_iload (dc dkX13_isCut 34 rfl) rfl (np 55 rfl ?_)
  refine r_imul (dc dkX13_isCut 35 rfl) (np 56 rfl ?_)
  refine r_isub (dc dkX13_isCut 36 rfl) (np 57 rfl ?_)
  refine r_eqI (prS pl i j) (by unfold prS sh; omega) ?_
  refine r_pS1 (y' := miX13_size) (dc dkX13_isCut 37 rfl) mlX13_105 seX13_size (Nat.le_of_ble_eq_true rfl) (Nat.le_of_ble_eq_true rfl) (c_X13_size (by omega)) (np 60 rfl ?_)
  refine r_istore (lv' := [(8, _), (7, _), (6, _), (5, _), (4, _), (0, _), (1, _), (2, _), (3, _)]) (dc dkX13_isCut 38 rfl) (Nat.le_of_ble_eq_true rfl) rfl (np 62 rfl ?_)
  refine r_iconst (dc dkX13_isCut 39 rfl) (np 63 rfl ?_)
  refine r_iload (dc dkX13_isCut 40 rfl) rfl (np 65 rfl ?_)
  refine r_imul (dc dkX13_isCut 41 rfl) (np 66 rfl ?_)
  refine r_aload_n (dc dkX13_isCut 42 rfl) rfl (np 67 rfl ?_)
  refine r_iload_n (dc dkX13_isCut 43 rfl) rfl (np 68 rfl ?_)
  refine r_pV1 (y' := miX13_area) (dc dkX13_isCut 44 rfl) mlX13_298 ceX13_area ob_111 (Nat.le_of_ble_eq_true rfl) (Nat.le_of_ble_eq_true rfl) (c_X13_area hN h0 h1) (np 71 rfl ?_)
  refine r_icmp_eq (tgt := 76) (dc dkX13_isCut 45 rfl) rfl (by first | assumption | decide | omega) (by first | assumption | decide | omega) (fun h71 => ?_) (fun h71 => (np 74 rfl ?_))
  · skip
    refine r_iconst (dc dkX13_isCut 48 rfl) (np 77 rfl ?_)
    refine r_istore (lv' := [(9, _), (8, _), (7, _), (6, _), (5, _), (4, _), (0, _), (1, _), (2, _), (3, _)]) (dc dkX13_isCut 49 rfl) (Nat.le_of_ble_eq_true rfl) rfl (np 79 rfl ?_)
    refine r_pick [6, 7, 8, 9, 5, 4, 3, 2, 1, 0] (lv' := [(0, _), (1, _), (2, _), (3, _), (4, _), (5, _), (6, _), (7, _), (8, _), (9, _)]) rfl ?_
    refine jlp1 (P := fun (k : Int) => jR _ _ _ 79 [(0, .ref 111), (1, vI b), (2, vI i), (3, vI j), (4, vI (pl i % 10)), (5, vI (pl i / 10)), (6, vI (pl j % 10)), (7, vI (pl j / 10)), (8, vI ((prS pl i j).natAbs : Int)), (9, vI k)] [] σ) (I := fun (k : Int) => (0 ≤ k ∧ k ≤ (cn σ 113 b)) ∧ ∀ x, 0 ≤ x → x < k → (¬ mt (pl i) (pl j) (rP σ 113 b x) (rP σ 113 b (x + 1)) = 1 ∧ ¬ (¬ (rP σ 113 b x = pl i ∨ rP σ 113 b x = pl j) ∧ onS (rP σ 113 b x) (pl i) (pl j)) ∧ ¬ onC (pl i % 10 + pl j % 10) (pl i / 10 + pl j / 10) (2 * (rP σ 113 b x % 10)) (2 * (rP σ 113 b x / 10)) (2 * (rP σ 113 b (x + 1) % 10)) (2 * (rP σ 113 b (x + 1) / 10)))) (fun (k : Int) => ((cn σ 113 b) - k).toNat) ?_ _ ⟨by omega, fun x x0 x1 => by omega⟩
    intro k hI79 ih79
    refine r_iload (dc dkX13_isCut 50 rfl) rfl (np 81 rfl ?_)
    refine r_aload_n (dc dkX13_isCut 51 rfl) rfl (np 82 rfl ?_)
    refine r_iload_n (dc dkX13_isCut 52 rfl) rfl (np 83 rfl ?_)
    refine r_pV1 (y' := miX13_corners) (dc dkX13_isCut 53 rfl) mlX13_279 ceX13_corners ob_111 (Nat.le_of_ble_eq_true rfl) (Nat.le_of_ble_eq_true rfl) (c_X13_corners (by omega)) (np 86 rfl ?_)
    refine r_icmp_ge (tgt := 260) (dc dkX13_isCut 54 rfl) rfl (by first | assumption | decide | omega) (by first | assumption | decide | omega) (fun h86 => ?_) (fun h86 => (np 89 rfl ?_))
    · skip
      refine r_aload_n (dc dkX13_isCut 150 rfl) rfl (np 261 rfl ?_)
      refine r_iload_n (dc dkX13_isCut 151 rfl) rfl (np 262 rfl ?_)
      refine r_iload (dc dkX13_isCut 152 rfl) rfl (np 264 rfl ?_)
      refine r_iload (dc dkX13_isCut 153 rfl) rfl (np 266 rfl ?_)
      refine r_iadd (dc dkX13_isCut 154 rfl) (np 267 rfl ?_)
      refine r_iload (dc dkX13_isCut 155 rfl) rfl (np 269 rfl ?_)
      refine r_iload (dc dkX13_isCut 156 rfl) rfl (np 271 rfl ?_)
      refine r_iadd (dc dkX13_isCut 157 rfl) (np 272 rfl ?_)
      refine r_iconst (dc dkX13_isCut 158 rfl) (np 273 rfl ?_)
      refine r_pV4 (y' := miX13_encloses) (dc dkX13_isCut 159 rfl) mlX13_326 ceX13_encloses ob_111 (Nat.le_of_ble_eq_true rfl) (Nat.le_of_ble_eq_true rfl) (c_X13_encloses hN h0 h1 (Or.inr rfl) (by omega) (by omega)) (np 276 rfl ?_)
      exact r_zret (dc dkX13_isCut 160 rfl) rfl (bI_01 _) ⟨congrArg (fun z => some (vI z)) (bI_iff ⟨fun z => ⟨h71, fun x x0 x1 => hI79.2 x x0 (by omega), z⟩, fun z => z.2.2⟩), rfl⟩
    have p1 := pg k
    have p2 := pg (k + 1)
    have mb := mt_b (pl i) (pl j) (rP σ 113 b k) (rP σ 113 b (k + 1))
    refine r_aload_n (dc dkX13_isCut 55 rfl) rfl (np 90 rfl ?_)
    refine r_iload_n (dc dkX13_isCut 56 rfl) rfl (np 91 rfl ?_)
    refine r_iload (dc dkX13_isCut 57 rfl) rfl (np 93 rfl ?_)
    refine r_pV2 (y' := miX13_x) (dc dkX13_isCut 58 rfl) mlX13_285 ceX13_x ob_111 (Nat.le_of_ble_eq_true rfl) (Nat.le_of_ble_eq_true rfl) (c_X13_x hN h0 h1 (by omega)) (np 96 rfl ?_)
    refine r_istore (lv' := [(10, _), (0, _), (1, _), (2, _), (3, _), (4, _), (5, _), (6, _), (7, _), (8, _), (9, _)]) (dc dkX13_isCut 59 rfl) (Nat.le_of_ble_eq_true rfl) rfl (np 98 rfl ?_)
    refine r_aload_n (dc dkX13_isCut 60 rfl) rfl (np 99 rfl ?_)
    refine r_iload_n (dc dkX13_isCut 61 rfl) rfl (np 100 rfl ?_)
    refine r_iload (dc dkX13_isCut 62 rfl) rfl (np 102 rfl ?_)
    refine r_pV2 (y' := miX13_y) (dc dkX13_isCut 63 rfl) mlX13_289 ceX13_y ob_111 (Nat.le_of_ble_eq_true rfl) (Nat.le_of_ble_eq_true rfl) (c_X13_y hN h0 h1 (by omega)) (np 105 rfl ?_)
    refine r_istore (lv' := [(11, _), (10, _), (0, _), (1, _), (2, _), (3, _), (4, _), (5, _), (6, _), (7, _), (8, _), (9, _)]) (dc dkX13_isCut 64 rfl) (Nat.le_of_ble_eq_true rfl) rfl (np 107 rfl ?_)
    refine r_iload (dc dkX13_isCut 65 rfl) rfl (np 109 rfl ?_)
    refine r_iload (dc dkX13_isCut 66 rfl) rfl (np 111 rfl ?_)
    refine r_iload (dc dkX13_isCut 67 rfl) rfl (np 113 rfl ?_)
    refine r_iload (dc dkX13_isCut 68 rfl) rfl (np 115 rfl ?_)
    refine r_iload (dc dkX13_isCut 69 rfl) rfl (np 117 rfl ?_)
    refine r_iload (dc dkX13_isCut 70 rfl) rfl (np 119 rfl ?_)
    refine r_aload_n (dc dkX13_isCut 71 rfl) rfl (np 120 rfl ?_)
    refine r_iload_n (dc dkX13_isCut 72 rfl) rfl (np 121 rfl ?_)
    refine r_iload (dc dkX13_isCut 73 rfl) rfl (np 123 rfl ?_)
    refine r_iconst (dc dkX13_isCut 74 rfl) (np 124 rfl ?_)
    refine r_iadd (dc dkX13_isCut 75 rfl) (np 125 rfl ?_)
    refine r_pV2 (y' := miX13_x) (dc dkX13_isCut 76 rfl) mlX13_285 ceX13_x ob_111 (Nat.le_of_ble_eq_true rfl) (Nat.le_of_ble_eq_true rfl) (c_X13_x hN h0 h1 (by omega)) (np 128 rfl ?_)
    refine r_aload_n (dc dkX13_isCut 77 rfl) rfl (np 129 rfl ?_)
    refine r_iload_n (dc dkX13_isCut 78 rfl) rfl (np 130 rfl ?_)
    refine r_iload (dc dkX13_isCut 79 rfl) rfl (np 132 rfl ?_)
    refine r_iconst (dc dkX13_isCut 80 rfl) (np 133 rfl ?_)
    refine r_iadd (dc dkX13_isCut 81 rfl) (np 134 rfl ?_)
    refine r_pV2 (y' := miX13_y) (dc dkX13_isCut 82 rfl) mlX13_289 ceX13_y ob_111 (Nat.le_of_ble_eq_true rfl) (Nat.le_of_ble_eq_true rfl) (c_X13_y hN h0 h1 (by omega)) (np 137 rfl ?_)
    refine r_pS8 (y' := miX13_meet) (dc dkX13_isCut 83 rfl) mlX13_214 seX13_meet (Nat.le_of_ble_eq_true rfl) (Nat.le_of_ble_eq_true rfl) (c_X13_meet (by omega)) (np 140 rfl ?_)
    refine r_eqI (mt (pl i) (pl j) (rP σ 113 b k) (rP σ 113 b (k + 1))) rfl ?_
    refine r_iconst (dc dkX13_isCut 84 rfl) (np 141 rfl ?_)
    refine r_icmp_ne (tgt := 146) (dc dkX13_isCut 85 rfl) rfl (by first | assumption | decide | omega) (by first | assumption | decide | omega) (fun h141 => ?_) (fun h141 => (np 144 rfl ?_))
    · skip
      have jj179 : ∀ g : Int, ((g = 1 ∧ (rP σ 113 b k = pl i ∨ rP σ 113 b k = pl j)) ∨ (g = 0 ∧ ¬ (rP σ 113 b k = pl i ∨ rP σ 113 b k = pl j))) → jR 6 miX13_isCut (jP (vI (bI (QKr (cn σ 113 b) (rP σ 113 b) pl i j))) σ) 179 [(0, .ref 111), (1, vI b), (2, vI i), (3, vI j), (4, vI (pl i % 10)), (5, vI (pl i / 10)), (6, vI (pl j % 10)), (7, vI (pl j / 10)), (8, vI ((prS pl i j).natAbs : Int)), (9, vI k), (10, vI (rP σ 113 b k % 10)), (11, vI (rP σ 113 b k / 10))] [vI g] σ := by
        intro g hg
        refine r_istore (lv' := [(12, _), (0, _), (1, _), (2, _), (3, _), (4, _), (5, _), (6, _), (7, _), (8, _), (9, _), (10, _), (11, _)]) (dc dkX13_isCut 103 rfl) (Nat.le_of_ble_eq_true rfl) rfl (np 181 rfl ?_)
        have jj206 : (¬ (¬ (rP σ 113 b k = pl i ∨ rP σ 113 b k = pl j) ∧ onS (rP σ 113 b k) (pl i) (pl j))) → jR 6 miX13_isCut (jP (vI (bI (QKr (cn σ 113 b) (rP σ 113 b) pl i j))) σ) 206 [(0, .ref 111), (1, vI b), (2, vI i), (3, vI j), (4, vI (pl i % 10)), (5, vI (pl i / 10)), (6, vI (pl j % 10)), (7, vI (pl j / 10)), (8, vI ((prS pl i j).natAbs : Int)), (9, vI k), (10, vI (rP σ 113 b k % 10)), (11, vI (rP σ 113 b k / 10))] [] σ := by
          intro hc
          refine r_iload (dc dkX13_isCut 116 rfl) rfl (np 208 rfl ?_)
          refine r_iload (dc dkX13_isCut 117 rfl) rfl (np 210 rfl ?_)
          refine r_iadd (dc dkX13_isCut 118 rfl) (np 211 rfl ?_)
          refine r_iload (dc dkX13_isCut 119 rfl) rfl (np 213 rfl ?_)
          refine r_iload (dc dkX13_isCut 120 rfl) rfl (np 215 rfl ?_)
          refine r_iadd (dc dkX13_isCut 121 rfl) (np 216 rfl ?_)
          refine r_iconst (dc dkX13_isCut 122 rfl) (np 217 rfl ?_)
          refine r_iload (dc dkX13_isCut 123 rfl) rfl (np 219 rfl ?_)
          refine r_imul (dc dkX13_isCut 124 rfl) (np 220 rfl ?_)
          refine r_iconst (dc dkX13_isCut 125 rfl) (np 221 rfl ?_)
          refine r_iload (dc dkX13_isCut 126 rfl) rfl (np 223 rfl ?_)
          refine r_imul (dc dkX13_isCut 127 rfl) (np 224 rfl ?_)
          refine r_iconst (dc dkX13_isCut 128 rfl) (np 225 rfl ?_)
          refine r_aload_n (dc dkX13_isCut 129 rfl) rfl (np 226 rfl ?_)
          refine r_iload_n (dc dkX13_isCut 130 rfl) rfl (np 227 rfl ?_)
          refine r_iload (dc dkX13_isCut 131 rfl) rfl (np 229 rfl ?_)
          refine r_iconst (dc dkX13_isCut 132 rfl) (np 230 rfl ?_)
          refine r_iadd (dc dkX13_isCut 133 rfl) (np 231 rfl ?_)
          refine r_pV2 (y' := miX13_x) (dc dkX13_isCut 134 rfl) mlX13_285 ceX13_x ob_111 (Nat.le_of_ble_eq_true rfl) (Nat.le_of_ble_eq_true rfl) (c_X13_x hN h0 h1 (by omega)) (np 234 rfl ?_)
          refine r_imul (dc dkX13_isCut 135 rfl) (np 235 rfl ?_)
          refine r_iconst (dc dkX13_isCut 136 rfl) (np 236 rfl ?_)
          refine r_aload_n (dc dkX13_isCut 137 rfl) rfl (np 237 rfl ?_)
          refine r_iload_n (dc dkX13_isCut 138 rfl) rfl (np 238 rfl ?_)
          refine r_iload (dc dkX13_isCut 139 rfl) rfl (np 240 rfl ?_)
          refine r_iconst (dc dkX13_isCut 140 rfl) (np 241 rfl ?_)
          refine r_iadd (dc dkX13_isCut 141 rfl) (np 242 rfl ?_)
          refine r_pV2 (y' := miX13_y) (dc dkX13_isCut 142 rfl) mlX13_289 ceX13_y ob_111 (Nat.le_of_ble_eq_true rfl) (Nat.le_of_ble_eq_true rfl) (c_X13_y hN h0 h1 (by omega)) (np 245 rfl ?_)
          refine r_imul (dc dkX13_isCut 143 rfl) (np 246 rfl ?_)
          refine r_pS6 (y' := miX13_isOnSide) (dc dkX13_isCut 144 rfl) mlX13_199 seX13_isOnSide (Nat.le_of_ble_eq_true rfl) (Nat.le_of_ble_eq_true rfl) (c_X13_isOnSide (by omega)) (np 249 rfl ?_)
          refine r_bz (tgt := 254) (dc dkX13_isCut 145 rfl) rfl (fun h249 => ?_) (fun h249 => (np 252 rfl ?_))
          · skip
            refine r_iinc (lv' := [(9, _), (0, _), (1, _), (2, _), (3, _), (4, _), (5, _), (6, _), (7, _), (8, _), (10, _), (11, _)]) (dc dkX13_isCut 148 rfl) (Nat.le_of_ble_eq_true rfl) rfl rfl (np 257 rfl ?_)
            refine r_goto (tgt := 79) (dc dkX13_isCut 149 rfl) rfl ?_
            refine r_pick [1, 2, 3, 4, 5, 6, 7, 8, 9, 0] rfl ?_
            exact ih79 _ ⟨by omega, fun x x0 x1 => by rcases (show x < k ∨ x = k by omega) with z | z; exact hI79.2 x x0 z; subst z; exact ⟨h141, hc, h249⟩⟩ (by omega)
          refine r_iconst (dc dkX13_isCut 146 rfl) (np 253 rfl ?_)
          exact r_zret (dc dkX13_isCut 147 rfl) rfl (by first | exact Or.inl rfl | exact Or.inr rfl) ⟨congrArg (fun z => some (vI z)) ((bI_f (fun z => (z.2.1 k (by omega) (by omega)).2.2 h249)).symm), rfl⟩
        refine r_iload (dc dkX13_isCut 104 rfl) rfl (np 183 rfl ?_)
        refine r_if_ne (tgt := 206) (dc dkX13_isCut 105 rfl) rfl (by first | assumption | decide | omega) (fun h183 => ?_) (fun h183 => (np 186 rfl ?_))
        · skip
          refine r_pick [1, 2, 3, 4, 5, 6, 7, 8, 9, 10, 11, 12] rfl ?_
          exact jj206 (by first | exact (fun z => h201 z.2) | exact (fun z => z.1 (by omega)))
        refine r_iload (dc dkX13_isCut 106 rfl) rfl (np 188 rfl ?_)
        refine r_iload (dc dkX13_isCut 107 rfl) rfl (np 190 rfl ?_)
        refine r_iload (dc dkX13_isCut 108 rfl) rfl (np 192 rfl ?_)
        refine r_iload (dc dkX13_isCut 109 rfl) rfl (np 194 rfl ?_)
        refine r_iload (dc dkX13_isCut 110 rfl) rfl (np 196 rfl ?_)
        refine r_iload (dc dkX13_isCut 111 rfl) rfl (np 198 rfl ?_)
        refine r_pS6 (y' := miX13_isOnSide) (dc dkX13_isCut 112 rfl) mlX13_199 seX13_isOnSide (Nat.le_of_ble_eq_true rfl) (Nat.le_of_ble_eq_true rfl) (c_X13_isOnSide (by omega)) (np 201 rfl ?_)
        refine r_eqI (bI (onS (rP σ 113 b k) (pl i) (pl j))) rfl ?_
        refine r_bz (tgt := 206) (dc dkX13_isCut 113 rfl) rfl (fun h201 => ?_) (fun h201 => (np 204 rfl ?_))
        · skip
          refine r_pick [1, 2, 3, 4, 5, 6, 7, 8, 9, 10, 11, 12] rfl ?_
          exact jj206 (by first | exact (fun z => h201 z.2) | exact (fun z => z.1 (by omega)))
        refine r_iconst (dc dkX13_isCut 114 rfl) (np 205 rfl ?_)
        exact r_zret (dc dkX13_isCut 115 rfl) rfl (by first | exact Or.inl rfl | exact Or.inr rfl) ⟨congrArg (fun z => some (vI z)) ((bI_f (fun z => (z.2.1 k (by omega) (by omega)).2.1 ⟨by omega, h201⟩)).symm), rfl⟩
      refine r_iload (dc dkX13_isCut 88 rfl) rfl (np 148 rfl ?_)
      refine r_iload (dc dkX13_isCut 89 rfl) rfl (np 150 rfl ?_)
      refine r_icmp_ne (tgt := 160) (dc dkX13_isCut 90 rfl) rfl (by first | assumption | decide | omega) (by first | assumption | decide | omega) (fun h150 => ?_) (fun h150 => (np 153 rfl ?_))
      · skip
        refine r_iload (dc dkX13_isCut 94 rfl) rfl (np 162 rfl ?_)
        refine r_iload (dc dkX13_isCut 95 rfl) rfl (np 164 rfl ?_)
        refine r_icmp_ne (tgt := 178) (dc dkX13_isCut 96 rfl) rfl (by first | assumption | decide | omega) (by first | assumption | decide | omega) (fun h164 => ?_) (fun h164 => (np 167 rfl ?_))
        · skip
          refine r_iconst (dc dkX13_isCut 102 rfl) (np 179 rfl ?_)
          refine r_pick [2, 3, 4, 5, 6, 7, 8, 9, 10, 11, 1, 0] rfl ?_
          exact jj179 _ (by omega)
        refine r_iload (dc dkX13_isCut 97 rfl) rfl (np 169 rfl ?_)
        refine r_iload (dc dkX13_isCut 98 rfl) rfl (np 171 rfl ?_)
        refine r_icmp_ne (tgt := 178) (dc dkX13_isCut 99 rfl) rfl (by first | assumption | decide | omega) (by first | assumption | decide | omega) (fun h171 => ?_) (fun h171 => (np 174 rfl ?_))
        · skip
          refine r_iconst (dc dkX13_isCut 102 rfl) (np 179 rfl ?_)
          refine r_pick [2, 3, 4, 5, 6, 7, 8, 9, 10, 11, 1, 0] rfl ?_
          exact jj179 _ (by omega)
        refine r_iconst (dc dkX13_isCut 100 rfl) (np 175 rfl ?_)
        refine r_goto (tgt := 179) (dc dkX13_isCut 101 rfl) rfl ?_
        refine r_pick [2, 3, 4, 5, 6, 7, 8, 9, 10, 11, 1, 0] rfl ?_
        exact jj179 _ (by omega)
      refine r_iload (dc dkX13_isCut 91 rfl) rfl (np 155 rfl ?_)
      refine r_iload (dc dkX13_isCut 92 rfl) rfl (np 157 rfl ?_)
      refine r_icmp_eq (tgt := 174) (dc dkX13_isCut 93 rfl) rfl (by first | assumption | decide | omega) (by first | assumption | decide | omega) (fun h157 => ?_) (fun h157 => (np 160 rfl ?_))
      · skip
        refine r_iconst (dc dkX13_isCut 100 rfl) (np 175 rfl ?_)
        refine r_goto (tgt := 179) (dc dkX13_isCut 101 rfl) rfl ?_
        refine r_pick [2, 3, 4, 5, 6, 7, 8, 9, 10, 11, 1, 0] rfl ?_
        exact jj179 _ (by omega)
      refine r_iload (dc dkX13_isCut 94 rfl) rfl (np 162 rfl ?_)
      refine r_iload (dc dkX13_isCut 95 rfl) rfl (np 164 rfl ?_)
      refine r_icmp_ne (tgt := 178) (dc dkX13_isCut 96 rfl) rfl (by first | assumption | decide | omega) (by first | assumption | decide | omega) (fun h164 => ?_) (fun h164 => (np 167 rfl ?_))
      · skip
        refine r_iconst (dc dkX13_isCut 102 rfl) (np 179 rfl ?_)
        refine r_pick [2, 3, 4, 5, 6, 7, 8, 9, 10, 11, 1, 0] rfl ?_
        exact jj179 _ (by omega)
      refine r_iload (dc dkX13_isCut 97 rfl) rfl (np 169 rfl ?_)
      refine r_iload (dc dkX13_isCut 98 rfl) rfl (np 171 rfl ?_)
      refine r_icmp_ne (tgt := 178) (dc dkX13_isCut 99 rfl) rfl (by first | assumption | decide | omega) (by first | assumption | decide | omega) (fun h171 => ?_) (fun h171 => (np 174 rfl ?_))
      · skip
        refine r_iconst (dc dkX13_isCut 102 rfl) (np 179 rfl ?_)
        refine r_pick [2, 3, 4, 5, 6, 7, 8, 9, 10, 11, 1, 0] rfl ?_
        exact jj179 _ (by omega)
      refine r_iconst (dc dkX13_isCut 100 rfl) (np 175 rfl ?_)
      refine r_goto (tgt := 179) (dc dkX13_isCut 101 rfl) rfl ?_
      refine r_pick [2, 3, 4, 5, 6, 7, 8, 9, 10, 11, 1, 0] rfl ?_
      exact jj179 _ (by omega)
    refine r_iconst (dc dkX13_isCut 86 rfl) (np 145 rfl ?_)
    exact r_zret (dc dkX13_isCut 87 rfl) rfl (by first | exact Or.inl rfl | exact Or.inr rfl) ⟨congrArg (fun z => some (vI z)) ((bI_f (fun z => (z.2.1 k (by omega) (by omega)).1 h141)).symm), rfl⟩
  refine r_iconst (dc dkX13_isCut 46 rfl) (np 75 rfl ?_)
  exact r_zret (dc dkX13_isCut 47 rfl) rfl (by first | exact Or.inl rfl | exact Or.inr rfl) ⟨congrArg (fun z => some (vI z)) ((bI_f (fun z => h71 z.1)).symm), rfl⟩
set_option maxRecDepth 100000 in
set_option maxHeartbeats 4000000 in
theorem c_X13_cuts {σ : jS} (hN : okN σ) {b k : Int} (hb : iR b) (hk : iR k) : Jm 7 miX13_cuts [.ref 111, vI b, vI k] σ (fun r τ => r = some (vI (gte (0 ≤ b ∧ b < σ 113 4) (nthL (PL2 (alP (cn σ 113 b) (rP σ 113 b)) (QKr (cn σ 113 b) (rP σ 113 b) (alP (cn σ 113 b) (rP σ 113 b))) (alN (cn σ 113 b) (rP σ 113 b))) k) (-1))) ∧ mdT [0] [131, 132, 133] σ τ ∧ τ 111 0 = 0) := by
  refine jm_ofF (Po := (fun r τ => r = some (vI (gte (0 ≤ b ∧ b < σ 113 4) (nthL (PL2 (alP (cn σ 113 b) (rP σ 113 b)) (QKr (cn σ 113 b) (rP σ 113 b) (alP (cn σ 113 b) (rP σ 113 b))) (alN (cn σ 113 b) (rP σ 113 b))) k) (-1))) ∧ mdT [0] [131, 132, 133] σ τ ∧ τ 111 0 = 0)) (plainFor_of_name (by decide)) (Nat.le_of_ble_eq_true rfl) (lv := [(0, _), (1, _), (2, _)]) rfl ?_
  refine r_aload_n (dc dkX13_cuts 0 rfl) rfl (np 1 rfl ?_)
  refine r_iconst (dc dkX13_cuts 1 rfl) (np 2 rfl ?_)
  refine r_pI 0 (dc dkX13_cuts 2 rfl) fpX13_94 fd_111_0 rfl (np 5 rfl ?_)
  refine r_abs (fun ρ => ρ = ju σ 111 0 0) rfl ?_
  intro σ0 hσ0
  have e0 : σ0 113 = σ 113 := by rw [hσ0]; exact ju_off _ _ _ _ _ (by decide)
  have hN0 := okN_c hN e0
  have e4 : σ0 113 4 = σ 113 4 := by rw [e0]
  have ec : ∀ b, cn σ0 113 b = cn σ 113 b := cn_c e0
  have eP : ∀ b, rP σ0 113 b = rP σ 113 b := rP_c2 e0
  have m1 := hN.1.2.2.2.2.1
  have w1 := hN.1.1
  have w2 := hN.1.2.1
  refine r_aload_n (dc dkX13_cuts 3 rfl) rfl (np 6 rfl ?_)
  refine r_iload_n (dc dkX13_cuts 4 rfl) rfl (np 7 rfl ?_)
  refine r_pV1 (y' := miX13_isBand) (dc dkX13_cuts 5 rfl) mlX13_304 ceX13_isBand ob_111 (Nat.le_of_ble_eq_true rfl) (Nat.le_of_ble_eq_true rfl) (c_X13_isBand hN0 (by omega)) (np 10 rfl ?_)
  refine r_bn (tgt := 15) (dc dkX13_cuts 6 rfl) rfl (fun h10 => ?_) (fun h10 => (np 13 rfl ?_))
  · skip
    rw [e4] at h10
    have nb := (hN.2 b h10.1 h10.2).1
    have pg : ∀ i, isPg (rP σ 113 b i) := fun i => rP_p (hN.2 b h10.1 h10.2) i
    have aB := alN_b (P := rP σ 113 b) (show 0 ≤ cn σ 113 b ∧ cn σ 113 b ≤ 8 by omega) (fun i _ => pg i)
    have z0 : σ0 111 0 = 0 := by rw [hσ0, ju_at]
    have M0 : mdT [0] [131, 132, 133] σ σ0 := by rw [hσ0]; exact (mdT.refl _ _ _).put (by decide)
    refine r_aload_n (dc dkX13_cuts 9 rfl) rfl (np 16 rfl ?_)
    refine r_iload_n (dc dkX13_cuts 10 rfl) rfl (np 17 rfl ?_)
    refine r_cV1 (y' := miX13_layAlong) (dc dkX13_cuts 11 rfl) mlX13_414 ceX13_layAlong ob_111 (Nat.le_of_ble_eq_true rfl) (Nat.le_of_ble_eq_true rfl) (c_X13_layAlong hN0 h10.1 (by omega)) (fun r τ hp => (np 20 rfl ?_))
    obtain ⟨rfl, S, A⟩ := hp
    rw [ec b, eP b] at A
    refine r_eqI (alN (cn σ 113 b) (rP σ 113 b)) (by rw [ec b, eP b]) ?_
    have e13 : τ 113 = σ 113 := by rw [S.1 113 (by decide) (by decide), e0]
    have hNt := okN_c hN e13
    refine r_istore_n (lv' := [(3, _), (0, _), (1, _), (2, _)]) (dc dkX13_cuts 12 rfl) (Nat.le_of_ble_eq_true rfl) rfl (np 21 rfl ?_)
    refine r_iconst (dc dkX13_cuts 13 rfl) (np 22 rfl ?_)
    refine r_istore (lv' := [(4, _), (3, _), (0, _), (1, _), (2, _)]) (dc dkX13_cuts 14 rfl) (Nat.le_of_ble_eq_true rfl) rfl (np 24 rfl ?_)
    refine r_iconst (dc dkX13_cuts 15 rfl) (np 25 rfl ?_)
    refine r_istore (lv' := [(5, _), (4, _), (3, _), (0, _), (1, _), (2, _)]) (dc dkX13_cuts 16 rfl) (Nat.le_of_ble_eq_true rfl) rfl (np 27 rfl ?_)
    refine r_pick [3, 4, 5, 2, 1, 0] (lv' := [(0, _), (1, _), (2, _), (3, _), (4, _), (5, _)]) rfl ?_
    refine jlp2 (P := fun (n : Int) (i : Int) => jR _ _ _ 27 [(0, .ref 111), (1, vI b), (2, vI k), (3, vI (alN (cn σ 113 b) (rP σ 113 b))), (4, vI n), (5, vI i)] [] τ) (I := fun (n : Int) (i : Int) => (0 ≤ i ∧ i ≤ (alN (cn σ 113 b) (rP σ 113 b))) ∧ n = (fl (F2 (alP (cn σ 113 b) (rP σ 113 b)) (QKr (cn σ 113 b) (rP σ 113 b) (alP (cn σ 113 b) (rP σ 113 b))) (alN (cn σ 113 b) (rP σ 113 b))) i).length ∧ ¬ (0 ≤ k ∧ k < n)) (fun (n : Int) (i : Int) => ((alN (cn σ 113 b) (rP σ 113 b)) - i).toNat) ?_ _ _ ⟨by omega, rfl, by omega⟩
    intro n i hI27 ih27
    refine r_iload (dc dkX13_cuts 17 rfl) rfl (np 29 rfl ?_)
    refine r_iload_n (dc dkX13_cuts 18 rfl) rfl (np 30 rfl ?_)
    refine r_icmp_ge (tgt := 122) (dc dkX13_cuts 19 rfl) rfl (by first | assumption | decide | omega) (by first | assumption | decide | omega) (fun h30 => ?_) (fun h30 => (np 33 rfl ?_))
    · skip
      refine r_iload_n (dc dkX13_cuts 68 rfl) rfl (np 123 rfl ?_)
      refine r_iconst (dc dkX13_cuts 69 rfl) (np 124 rfl ?_)
      refine r_icmp_ne (tgt := 132) (dc dkX13_cuts 70 rfl) rfl (by first | assumption | decide | omega) (by first | assumption | decide | omega) (fun h124 => ?_) (fun h124 => (np 127 rfl ?_))
      · skip
        refine r_iconst (dc dkX13_cuts 73 rfl) (np 133 rfl ?_)
        exact r_iret (dc dkX13_cuts 74 rfl) rfl ⟨congrArg (fun z => some (vI z)) (by rw [show i = (alN (cn σ 113 b) (rP σ 113 b)) by omega] at hI27; rw [gte_t h10, nthL_end (T := PL2 _ _ _) hI27.2.1 hI27.2.2]; first | (rw [if_pos (by omega)]; done) | (rw [if_neg (by omega)]; done)), M0.tr (S.wide (by decide) (by decide)), by rw [S.2 0 (by decide), z0]⟩
      refine r_iload (dc dkX13_cuts 71 rfl) rfl (np 129 rfl ?_)
      refine r_goto (tgt := 133) (dc dkX13_cuts 72 rfl) rfl ?_
      exact r_iret (dc dkX13_cuts 74 rfl) rfl ⟨congrArg (fun z => some (vI z)) (by rw [show i = (alN (cn σ 113 b) (rP σ 113 b)) by omega] at hI27; rw [gte_t h10, nthL_end (T := PL2 _ _ _) hI27.2.1 hI27.2.2]; first | (rw [if_pos (by omega)]; done) | (rw [if_neg (by omega)]; done)), M0.tr (S.wide (by decide) (by decide)), by rw [S.2 0 (by decide), z0]⟩
    refine r_iload (dc dkX13_cuts 20 rfl) rfl (np 35 rfl ?_)
    refine r_iconst (dc dkX13_cuts 21 rfl) (np 36 rfl ?_)
    refine r_iadd (dc dkX13_cuts 22 rfl) (np 37 rfl ?_)
    refine r_istore (lv' := [(6, _), (0, _), (1, _), (2, _), (3, _), (4, _), (5, _)]) (dc dkX13_cuts 23 rfl) (Nat.le_of_ble_eq_true rfl) rfl (np 39 rfl ?_)
    refine r_pick [1, 2, 3, 4, 5, 6, 0] (lv' := [(0, _), (1, _), (2, _), (3, _), (4, _), (5, _), (6, _)]) rfl ?_
    refine jlp2 (P := fun (n : Int) (j : Int) => jR _ _ _ 39 [(0, .ref 111), (1, vI b), (2, vI k), (3, vI (alN (cn σ 113 b) (rP σ 113 b))), (4, vI n), (5, vI i), (6, vI j)] [] τ) (I := fun (n : Int) (j : Int) => (i + 1 ≤ j ∧ j ≤ (alN (cn σ 113 b) (rP σ 113 b))) ∧ n = (fl (F2 (alP (cn σ 113 b) (rP σ 113 b)) (QKr (cn σ 113 b) (rP σ 113 b) (alP (cn σ 113 b) (rP σ 113 b))) (alN (cn σ 113 b) (rP σ 113 b))) i ++ fl (H2 (alP (cn σ 113 b) (rP σ 113 b)) (QKr (cn σ 113 b) (rP σ 113 b) (alP (cn σ 113 b) (rP σ 113 b))) i) j).length ∧ ¬ (0 ≤ k ∧ k < n)) (fun (n : Int) (j : Int) => ((alN (cn σ 113 b) (rP σ 113 b)) - j).toNat) ?_ _ _ ⟨by omega, by rw [H2_0, List.append_nil]; exact hI27.2.1, hI27.2.2⟩
    intro n j hI39 ih39
    refine r_iload (dc dkX13_cuts 24 rfl) rfl (np 41 rfl ?_)
    refine r_iload_n (dc dkX13_cuts 25 rfl) rfl (np 42 rfl ?_)
    refine r_icmp_ge (tgt := 116) (dc dkX13_cuts 26 rfl) rfl (by first | assumption | decide | omega) (by first | assumption | decide | omega) (fun h42 => ?_) (fun h42 => (np 45 rfl ?_))
    · skip
      refine r_iinc (lv' := [(5, _), (0, _), (1, _), (2, _), (3, _), (4, _), (6, _)]) (dc dkX13_cuts 66 rfl) (Nat.le_of_ble_eq_true rfl) rfl rfl (np 119 rfl ?_)
      refine r_goto (tgt := 27) (dc dkX13_cuts 67 rfl) rfl ?_
      refine r_pick [1, 2, 3, 4, 5, 0] rfl ?_
      exact ih27 _ _ ⟨by omega, by rw [fl_s _ (by omega)]; rw [show j = (alN (cn σ 113 b) (rP σ 113 b)) by omega] at hI39; exact hI39.2.1, hI39.2.2⟩ (by omega)
    refine r_aload_n (dc dkX13_cuts 27 rfl) rfl (np 46 rfl ?_)
    refine r_iload_n (dc dkX13_cuts 28 rfl) rfl (np 47 rfl ?_)
    refine r_iload (dc dkX13_cuts 29 rfl) rfl (np 49 rfl ?_)
    refine r_iload (dc dkX13_cuts 30 rfl) rfl (np 51 rfl ?_)
    refine r_pV3 (y' := miX13_isCut) (dc dkX13_cuts 31 rfl) mlX13_417 ceX13_isCut ob_111 (Nat.le_of_ble_eq_true rfl) (Nat.le_of_ble_eq_true rfl) (c_X13_isCut hNt h10.1 (by rw [e13]; exact h10.2) aB A (by omega) (by omega) (by omega)) (np 54 rfl ?_)
    refine r_eqI (bI (QKr (cn σ 113 b) (rP σ 113 b) (alP (cn σ 113 b) (rP σ 113 b)) i j)) (by rw [cn_c e13 b, rP_c2 e13 b]) ?_
    refine r_bn (tgt := 60) (dc dkX13_cuts 32 rfl) rfl (fun h54 => ?_) (fun h54 => (np 57 rfl ?_))
    · skip
      have nb2 := L2_len (pl := (alP (cn σ 113 b) (rP σ 113 b))) (Q := (QKr (cn σ 113 b) (rP σ 113 b) (alP (cn σ 113 b) (rP σ 113 b)))) (m := (alN (cn σ 113 b) (rP σ 113 b))) (i := i) (j := j) (by omega) (by omega) (by omega)
      rw [← Int.ofNat_le, ← hI39.2.1] at nb2
      have q1 := A i (by omega) (by omega)
      have q2 := A j (by omega) (by omega)
      refine r_iload (dc dkX13_cuts 34 rfl) rfl (np 62 rfl ?_)
      refine r_iload_n (dc dkX13_cuts 35 rfl) rfl (np 63 rfl ?_)
      refine r_icmp_ne (tgt := 107) (dc dkX13_cuts 36 rfl) rfl (by first | assumption | decide | omega) (by first | assumption | decide | omega) (fun h63 => ?_) (fun h63 => (np 66 rfl ?_))
      · skip
        refine r_iinc (lv' := [(4, _), (0, _), (1, _), (2, _), (3, _), (5, _), (6, _)]) (dc dkX13_cuts 63 rfl) (Nat.le_of_ble_eq_true rfl) rfl rfl (np 110 rfl ?_)
        refine r_iinc (lv' := [(6, _), (4, _), (0, _), (1, _), (2, _), (3, _), (5, _)]) (dc dkX13_cuts 64 rfl) (Nat.le_of_ble_eq_true rfl) rfl rfl (np 113 rfl ?_)
        refine r_goto (tgt := 39) (dc dkX13_cuts 65 rfl) rfl ?_
        refine r_pick [2, 3, 4, 5, 1, 6, 0] rfl ?_
        exact ih39 _ _ (by
              refine ⟨by omega, ?_⟩
              rw [fl_s _ (by omega)]
              first
              | (rw [H2_f h54, List.append_nil]; exact hI39.2)
              | (rw [H2_t (by omega) h54, ← List.append_assoc]; exact fnd_s hI39.2.1 hI39.2.2 (by omega))) (by omega)
      refine r_bipush (dc dkX13_cuts 37 rfl) bp_100 (np 68 rfl ?_)
      refine r_bipush (dc dkX13_cuts 38 rfl) bp_10 (np 70 rfl ?_)
      refine r_aload_n (dc dkX13_cuts 39 rfl) rfl (np 71 rfl ?_)
      refine r_getR (dc dkX13_cuts 40 rfl) flX13_72 fd_111_39 (np 74 rfl ?_)
      refine r_iload (dc dkX13_cuts 41 rfl) rfl (np 76 rfl ?_)
      refine r_iald (dc dkX13_cuts 42 rfl) ar_132 (by omega) (np 77 rfl ?_)
      refine r_imul (dc dkX13_cuts 43 rfl) (np 78 rfl ?_)
      refine r_aload_n (dc dkX13_cuts 44 rfl) rfl (np 79 rfl ?_)
      refine r_getR (dc dkX13_cuts 45 rfl) flX13_69 fd_111_38 (np 82 rfl ?_)
      refine r_iload (dc dkX13_cuts 46 rfl) rfl (np 84 rfl ?_)
      refine r_iald (dc dkX13_cuts 47 rfl) ar_131 (by omega) (np 85 rfl ?_)
      refine r_iadd (dc dkX13_cuts 48 rfl) (np 86 rfl ?_)
      refine r_imul (dc dkX13_cuts 49 rfl) (np 87 rfl ?_)
      refine r_bipush (dc dkX13_cuts 50 rfl) bp_10 (np 89 rfl ?_)
      refine r_aload_n (dc dkX13_cuts 51 rfl) rfl (np 90 rfl ?_)
      refine r_getR (dc dkX13_cuts 52 rfl) flX13_72 fd_111_39 (np 93 rfl ?_)
      refine r_iload (dc dkX13_cuts 53 rfl) rfl (np 95 rfl ?_)
      refine r_iald (dc dkX13_cuts 54 rfl) ar_132 (by omega) (np 96 rfl ?_)
      refine r_imul (dc dkX13_cuts 55 rfl) (np 97 rfl ?_)
      refine r_iadd (dc dkX13_cuts 56 rfl) (np 98 rfl ?_)
      refine r_aload_n (dc dkX13_cuts 57 rfl) rfl (np 99 rfl ?_)
      refine r_getR (dc dkX13_cuts 58 rfl) flX13_69 fd_111_38 (np 102 rfl ?_)
      refine r_iload (dc dkX13_cuts 59 rfl) rfl (np 104 rfl ?_)
      refine r_iald (dc dkX13_cuts 60 rfl) ar_131 (by omega) (np 105 rfl ?_)
      refine r_iadd (dc dkX13_cuts 61 rfl) (np 106 rfl ?_)
      exact r_iret (dc dkX13_cuts 62 rfl) rfl ⟨congrArg (fun z => some (vI z)) (by rw [gte_t h10, nthL_at (PL2_at (by omega) (by omega) h54) (by rw [← hI39.2.1]; omega)]; omega), M0.tr (S.wide (by decide) (by decide)), by rw [S.2 0 (by decide), z0]⟩
    refine r_goto (tgt := 110) (dc dkX13_cuts 33 rfl) rfl ?_
    refine r_iinc (lv' := [(6, _), (0, _), (1, _), (2, _), (3, _), (4, _), (5, _)]) (dc dkX13_cuts 64 rfl) (Nat.le_of_ble_eq_true rfl) rfl rfl (np 113 rfl ?_)
    refine r_goto (tgt := 39) (dc dkX13_cuts 65 rfl) rfl ?_
    refine r_pick [1, 2, 3, 4, 5, 6, 0] rfl ?_
    exact ih39 _ _ (by
          refine ⟨by omega, ?_⟩
          rw [fl_s _ (by omega)]
          first
          | (rw [H2_f h54, List.append_nil]; exact hI39.2)
          | (rw [H2_t (by omega) h54, ← List.append_assoc]; exact fnd_s hI39.2.1 hI39.2.2 (by omega))) (by omega)
  refine r_iconst (dc dkX13_cuts 7 rfl) (np 14 rfl ?_)
  exact r_iret (dc dkX13_cuts 8 rfl) rfl ⟨congrArg (fun z => some (vI z)) (by rw [e4] at h10; rw [gte_f h10]), by rw [hσ0]; exact (mdT.refl _ _ _).put (by decide), by rw [hσ0, ju_at]⟩
