section
variable {t : Int → Int} {L m : Int} {R : Int × Int} {D N : Int → Int}
theorem bn_e3 (h : ¬ (bnC t L m R D N).1.1 = 0) : bnR t L m R D N = (bnC t L m R D N).1 := by
  have e1 : bn1 t L m R D N = (bnC t L m R D N).1 := by rw [bn1, gte_flR h]
  rw [bnR, e1, gte_flR h]
theorem bn_e2 (h : ¬ (nm1 t L m (bn0 t L m R D) (D 4) N).1 = 0) : bnR t L m R D N = nm1 t L m (bn0 t L m R D) (D 4) N := by
  have e : (bnC t L m R D N).1 = nm1 t L m (bn0 t L m R D) (D 4) N := by rw [bnC, coF_e h]
  rw [bn_e3 (by rw [e]; exact h), e]
theorem bn_e1 (h : ¬ (bn0 t L m R D).1 = 0) : bnR t L m R D N = bn0 t L m R D := by
  have e : nm1 t L m (bn0 t L m R D) (D 4) N = bn0 t L m R D := nm1_e h
  rw [bn_e2 (by rw [e]; exact h), e]
theorem n5_ne {R : Int × Int} (h : n5 R) : ¬ R.1 = 5 := h
end
/-- the reference's wrong() of a row is the rows' -/
theorem wr_114 {σ : jS} {E : Int → Int} {b : Int} (hE : ∀ j, 0 ≤ j → j < 241 → σ 114 j = E j) (hb : 0 ≤ b ∧ b < 8) (hw : E 0 ≤ 10) (hh : E 1 ≤ 10) (hn : 3 ≤ E (105 + 17 * b) ∧ E (105 + 17 * b) ≤ 8) (ho : ∀ o, 0 ≤ o → o < b → 3 ≤ E (105 + 17 * o) ∧ E (105 + 17 * o) ≤ 8) : wrF (cn σ 114 b) (cP σ 114 b) (pkR σ 114) (σ 114 2) b b (cn σ 114) (rP σ 114) = wrD E b b := by
  have e0 := hE 0 (by decide) (by decide)
  have e1 := hE 1 (by decide) (by decide)
  have en : cn σ 114 b = E (105 + 17 * b) := hE _ (by omega) (by omega)
  have hP : cP σ 114 b = cP (dS E) 0 b := by
    funext i
    have i1 := Int.emod_nonneg i (show E (105 + 17 * b) ≠ 0 by omega)
    have i2 := Int.emod_lt_of_pos i (show 0 < E (105 + 17 * b) by omega)
    unfold cP plc xa ya
    rw [en]
    show (if 0 ≤ σ 114 (105 + 17 * b + 1 + 2 * (i % E (105 + 17 * b))) ∧ 0 ≤ σ 114 (105 + 17 * b + 2 + 2 * (i % E (105 + 17 * b))) ∧ σ 114 (105 + 17 * b + 1 + 2 * (i % E (105 + 17 * b))) < σ 114 0 ∧ σ 114 (105 + 17 * b + 2 + 2 * (i % E (105 + 17 * b))) < σ 114 1 then _ else _) = _
    rw [hE (105 + 17 * b + 1 + 2 * (i % E (105 + 17 * b))) (by omega) (by omega), hE (105 + 17 * b + 2 + 2 * (i % E (105 + 17 * b))) (by omega) (by omega), e0, e1]
    rfl
  have hk : pkR σ 114 = pkR (dS E) 0 := by
    funext p
    unfold pkR
    rw [e0, e1]
    show (if 0 ≤ p ∧ p % 10 < E 0 ∧ p / 10 < E 1 then (if σ 114 (5 + p) = 0 then (1 : Int) else 0) else -1) = (if 0 ≤ p ∧ p % 10 < E 0 ∧ p / 10 < E 1 then (if E (5 + p) = 0 then 1 else 0) else -1)
    split
    · rw [hE (5 + p) (by omega) (by omega)]
    · rfl
  unfold wrD
  rw [hP, hk, hE 2 (by decide) (by decide), en]
  apply wrF_c
  apply E5_c
  · intro o o0 o1; exact Iff.rfl
  · intro o o0 o1 _
    exact (hE _ (by omega) (by omega)).symm
  · intro o o0 o1 _
    have q := ho o o0 o1
    funext i
    have i1 := Int.emod_nonneg i (show E (105 + 17 * o) ≠ 0 by omega)
    have i2 := Int.emod_lt_of_pos i (show 0 < E (105 + 17 * o) by omega)
    show 10 * E (105 + 17 * o + 2 + 2 * (i % E (105 + 17 * o))) + E (105 + 17 * o + 1 + 2 * (i % E (105 + 17 * o))) = 10 * σ 114 (105 + 17 * o + 2 + 2 * (i % σ 114 (105 + 17 * o))) + σ 114 (105 + 17 * o + 1 + 2 * (i % σ 114 (105 + 17 * o)))
    rw [hE (105 + 17 * o) (by omega) (by omega), hE (105 + 17 * o + 2 + 2 * (i % E (105 + 17 * o))) (by omega) (by omega), hE (105 + 17 * o + 1 + 2 * (i % E (105 + 17 * o))) (by omega) (by omega)]
set_option maxRecDepth 100000 in
set_option maxHeartbeats 4000000 in
theorem c_X13_readBand {σ : jS} {t : Int → Int} {L m q : Int} (hM : md t L m q σ) {D : Int → Int} (hE : eqD σ D) {N : Int → Int} (hN : σ 119 = N) (hl : ∀ j, 0 ≤ j → j < 8 → lR (N j)) (hk : tK t L m q = 103) (hV : okV D) (hw : okT2 D) : Jm 8 miX13_readBand [.ref 111] σ (fun r τ => r = some (vI (bI ((bnR t L m (0, q) D N).1 = 0))) ∧ mdT [5, 6, 7, 8, 9, 10, 11, 12, 13, 14] [114, 119] σ τ ∧ mR t L m (bnR t L m (0, q) D N) τ ∧ ((bnR t L m (0, q) D N).1 = 0 → eqD τ (bnD t L m (0, q) D N) ∧ τ 119 = bnN t L m (0, q) D N) ∧ (∀ j, 0 ≤ j → j < 8 → lR (τ 119 j)) ∧ τ 111 12 = (if (bnR t L m (0, q) D N).1 = 5 then bnW t L m (0, q) D N else σ 111 12)) := by
  have e4 := hE 4 (by decide) (by decide)
  have v4 := hV.2.2.2.1
  have hw2 := hw
  unfold okT2 at hw2
  have n00 : n5 (0, q) := n5_0
  have hGc := bnC_G (t := t) (L := L) (m := m) (R := (0, q)) (D := D) (N := N) v4.1
  have fr := bnC_f (t := t) (L := L) (m := m) (R := (0, q)) (D := D) (N := N) v4.1
  have n51 : n5 (bn1 t L m (0, q) D N) := n5_bn1 n00
  refine jm_ofF (Po := (fun r τ => r = some (vI (bI ((bnR t L m (0, q) D N).1 = 0))) ∧ mdT [5, 6, 7, 8, 9, 10, 11, 12, 13, 14] [114, 119] σ τ ∧ mR t L m (bnR t L m (0, q) D N) τ ∧ ((bnR t L m (0, q) D N).1 = 0 → eqD τ (bnD t L m (0, q) D N) ∧ τ 119 = bnN t L m (0, q) D N) ∧ (∀ j, 0 ≤ j → j < 8 → lR (τ 119 j)) ∧ τ 111 12 = (if (bnR t L m (0, q) D N).1 = 5 then bnW t L m (0, q) D N else σ 111 12))) (plainFor_of_name (by decide)) (Nat.le_of_ble_eq_true rfl) (lv := [(0, _)]) rfl ?_
  refine r_aload_n (dc dkX13_readBand 0 rfl) rfl (np 1 rfl ?_)
  refine r_getR (dc dkX13_readBand 1 rfl) flX13_16 fd_111_16 (np 4 rfl ?_)
  refine r_iconst (dc dkX13_readBand 2 rfl) (np 5 rfl ?_)
  refine r_iald (dc dkX13_readBand 3 rfl) ar_114 (by omega) (np 6 rfl ?_)
  refine r_eqI (D 4) e4 ?_
  refine r_istore_n (lv' := [(1, _), (0, _)]) (dc dkX13_readBand 4 rfl) (Nat.le_of_ble_eq_true rfl) rfl (np 7 rfl ?_)
  refine r_iload_n (dc dkX13_readBand 5 rfl) rfl (np 8 rfl ?_)
  refine r_bipush (dc dkX13_readBand 6 rfl) bp_8 (np 10 rfl ?_)
  refine r_icmp_ne (tgt := 19) (dc dkX13_readBand 7 rfl) rfl (by first | assumption | decide | omega) (by first | assumption | decide | omega) (fun h10 => ?_) (fun h10 => (np 13 rfl ?_))
  · skip
    refine r_aload_n (dc dkX13_readBand 12 rfl) rfl (np 20 rfl ?_)
    refine r_cV0 (y' := miX13_go) (dc dkX13_readBand 13 rfl) mlX13_179 ceX13_go ob_111 (Nat.le_of_ble_eq_true rfl) (Nat.le_of_ble_eq_true rfl) (c_X13_go hM) (fun r τ2 hp2 => (np 23 rfl ?_))
    obtain ⟨rfl, hs2, hM2⟩ := hp2
    have x0 : bn0 t L m (0, q) D = (0, tN t L m q) := by rw [bn0, gte_f (by omega), stR_y rfl]
    have E2 := eqD_s hE hs2
    have R2 : (bn0 t L m (0, q) D).1 = 0 := by rw [x0]
    replace hM2 : md t L m (bn0 t L m (0, q) D).2 τ2 := by rw [x0]; exact hM2
    have F119 : τ2 119 = N := by rw [hs2.1 119 (by decide)]; exact hN
    have fr2 : mdT [5, 6, 7, 8, 9, 10, 11, 12, 13, 14] [114, 119] σ τ2 := mdT.of hs2 (by decide)
    have w2 : τ2 111 12 = σ 111 12 := hs2.2 12 (by decide)
    refine r_aload_n (dc dkX13_readBand 14 rfl) rfl (np 24 rfl ?_)
    refine r_pV0 (y' := miX13_isName) (dc dkX13_readBand 15 rfl) mlX13_238 ceX13_isName ob_111 (Nat.le_of_ble_eq_true rfl) (Nat.le_of_ble_eq_true rfl) (c_X13_isName hM2) (np 27 rfl ?_)
    refine r_bn (tgt := 36) (dc dkX13_readBand 16 rfl) rfl (fun h27 => ?_) (fun h27 => (np 30 rfl ?_))
    · skip
      have k3 : tK t L m (bn0 t L m (0, q) D).2 = 3 := h27
      have hwq : τ2 111 13 = wQ t L m (bn0 t L m (0, q) D).2 := hM2.2.2.2.2.2.2.2.2.2.2.1 (Or.inl k3)
      have wb := wQ_b hM2.2.2.2.2.2.1.2 (Or.inl k3)
      have wl : lR (wQ t L m (bn0 t L m (0, q) D).2) := ⟨by omega, by omega⟩
      refine r_aload_n (dc dkX13_readBand 21 rfl) rfl (np 37 rfl ?_)
      refine r_getR (dc dkX13_readBand 22 rfl) flX13_32 fd_111_21 (np 40 rfl ?_)
      refine r_iload_n (dc dkX13_readBand 23 rfl) rfl (np 41 rfl ?_)
      refine r_aload_n (dc dkX13_readBand 24 rfl) rfl (np 42 rfl ?_)
      refine r_gL 13 (dc dkX13_readBand 25 rfl) flX13_133 fd_111_13 rfl (np 45 rfl ?_)
      refine r_pS3 (y' := miX13_findIn) (dc dkX13_readBand 26 rfl) mlX13_242 seX13_findIn (Nat.le_of_ble_eq_true rfl) (Nat.le_of_ble_eq_true rfl) (c_X13_findIn ar_119 (by decide) (by omega) (by rw [F119]; exact hl) (by rw [hwq]; exact ⟨by omega, by omega⟩)) (np 48 rfl ?_)
      refine r_iconst (dc dkX13_readBand 27 rfl) (np 49 rfl ?_)
      have fs := fi_spec (fun b => τ2 119 b = τ2 111 13) (n := D 4) v4.1
      rw [F119, hwq] at fs
      have hE0 : ∀ _ : Unit, (fi (fun b => τ2 119 b = τ2 111 13) (D 4) = -1 ↔ ¬ ∃ b, 0 ≤ b ∧ b < D 4 ∧ N b = wQ t L m (bn0 t L m (0, q) D).2) := by
        intro _
        rw [F119, hwq]
        rcases fs with g | g
        · exact ⟨fun _ ⟨b, p0, p1, p2⟩ => g.2 b p0 p1 p2, fun _ => g.1⟩
        · exact ⟨fun z => by omega, fun z => absurd ⟨_, g.1, g.2.1, g.2.2.1⟩ z⟩
      have hfr : iR (fi (fun b => τ2 119 b = τ2 111 13) (D 4)) := by rw [F119, hwq]; omega
      refine r_icmp_eq (tgt := 58) (dc dkX13_readBand 28 rfl) rfl (by first | assumption | decide | omega) (by first | assumption | decide | omega) (fun h49 => ?_) (fun h49 => (np 52 rfl ?_))
      · skip
        refine r_aload_n (dc dkX13_readBand 33 rfl) rfl (np 59 rfl ?_)
        refine r_getR (dc dkX13_readBand 34 rfl) flX13_32 fd_111_21 (np 62 rfl ?_)
        refine r_iload_n (dc dkX13_readBand 35 rfl) rfl (np 63 rfl ?_)
        refine r_aload_n (dc dkX13_readBand 36 rfl) rfl (np 64 rfl ?_)
        refine r_gL 13 (dc dkX13_readBand 37 rfl) flX13_133 fd_111_13 rfl (np 67 rfl ?_)
        refine r_last (dc dkX13_readBand 38 rfl) ar_119 (by omega) (np 68 rfl ?_)
        refine r_aload_n (dc dkX13_readBand 39 rfl) rfl (np 69 rfl ?_)
        refine r_cV0 (y' := miX13_go) (dc dkX13_readBand 40 rfl) mlX13_179 ceX13_go ob_111 (Nat.le_of_ble_eq_true rfl) (Nat.le_of_ble_eq_true rfl) (c_goR R2 (md_ju hM2 (by decide) (by decide))) (fun r τ3 hp3 => (np 72 rfl ?_))
        obtain ⟨rfl, hs3, hM3⟩ := hp3
        have hn1 : nm1 t L m (bn0 t L m (0, q) D) (D 4) N = stR t L m (bn0 t L m (0, q) D) := by rw [nm1, gte_t ⟨R2, k3⟩, gte_f ((hE0 ()).mp h49)]
        refine r_bipush (dc dkX13_readBand 41 rfl) bp_105 (np 74 rfl ?_)
        refine r_bipush (dc dkX13_readBand 42 rfl) bp_17 (np 76 rfl ?_)
        refine r_iload_n (dc dkX13_readBand 43 rfl) rfl (np 77 rfl ?_)
        refine r_imul (dc dkX13_readBand 44 rfl) (np 78 rfl ?_)
        refine r_iadd (dc dkX13_readBand 45 rfl) (np 79 rfl ?_)
        refine r_eqI (105 + 17 * D 4) (by omega) ?_
        refine r_istore_n (lv' := [(2, _), (1, _), (0, _)]) (dc dkX13_readBand 46 rfl) (Nat.le_of_ble_eq_true rfl) rfl (np 80 rfl ?_)
        refine r_aload_n (dc dkX13_readBand 47 rfl) rfl (np 81 rfl ?_)
        refine r_getR (dc dkX13_readBand 48 rfl) flX13_16 fd_111_16 (np 84 rfl ?_)
        refine r_iload_n (dc dkX13_readBand 49 rfl) rfl (np 85 rfl ?_)
        refine r_iconst (dc dkX13_readBand 50 rfl) (np 86 rfl ?_)
        refine r_iast (dc dkX13_readBand 51 rfl) ar_114 (by omega) (np 87 rfl ?_)
        refine r_pick [2, 1, 0] (lv' := [(0, _), (1, _), (2, _)]) rfl ?_
        refine jlp1 (P := fun (τ : jS) => jR _ _ _ 87 [(0, .ref 111), (1, vI (D 4)), (2, vI (105 + 17 * D 4))] [] τ) (I := fun (τ : jS) => ∃ (n : Int) (Rc : Int × Int) (Dc : Int → Int), Rc.1 = 0 ∧ md t L m Rc.2 τ ∧ eqD τ Dc ∧ Dc (105 + 17 * D 4) = n ∧ (0 ≤ n ∧ n ≤ 8) ∧ (Dc 0 = D 0 ∧ Dc 1 = D 1 ∧ n5 Rc) ∧ bnC t L m (0, q) D N = coF t L m (105 + 17 * D 4) (9 - n).toNat n Rc Dc ∧ mdT [5, 6, 7, 8, 9, 10, 11, 12, 13, 14] [114, 119] σ τ ∧ τ 119 = bnN t L m (0, q) D N ∧ τ 111 12 = σ 111 12) (fun (τ : jS) => (9 - τ 114 (105 + 17 * D 4)).toNat) ?_ _ (by
              have hR3 : (nm1 t L m (bn0 t L m (0, q) D) (D 4) N).1 = 0 := by rw [hn1, stR_f]; exact R2
              refine ⟨0, nm1 t L m (bn0 t L m (0, q) D) (D 4) N, up D (105 + 17 * D 4) 0, hR3, by rw [hn1]; exact md_ju (hM3.1 (by rw [stR_f]; exact R2)) (by decide) (by decide), ?_, up_at _ _ _, by omega, ⟨up_ne (by omega), up_ne (by omega), n5_nm1 (n5_bn0 n00)⟩, rfl, ?_, ?_, ?_⟩
              · exact eqD_up (fun j j0 j1 => by rw [hs3.1 114 (by decide), ju_off _ _ _ _ _ (by decide)]; exact E2 j j0 j1) _ _
              · exact ((fr2.row (by decide) (by decide)).trS hs3 (by decide)).row (by decide) (by decide)
              · rw [ju_off _ _ _ _ _ (by decide), hs3.1 119 (by decide), ju_up, F119, hwq]
                rfl
              · rw [ju_ne (by omega), hs3.2 12 (by decide), ju_ne (by omega)]; exact w2)
        intro τ hI87 ih87
        obtain ⟨n, Rc, Dc, hRc, hMc, hEc, hDn, hnb, hDc, hF, frc, h119, h12⟩ := hI87
        have g4c := hEc (105 + 17 * D 4) (by omega) (by omega)
        have m7 := hMc.2.2.2.2.2.2.2.2.1
        have kmb := kM_b (t := t) (L := L) (m := m) (q := Rc.2)
        have tkb := tK_b (t := t) (L := L) (m := m) (p := Rc.2)
        have km3 : τ 111 7 = 3 ↔ tK t L m Rc.2 = 2 := by rw [m7]; unfold kM; split <;> (try split) <;> (try split) <;> (try split) <;> omega
        have hl2 : ∀ j, 0 ≤ j → j < 8 → lR (τ 119 j) := fun j j0 j1 => by
          rw [h119]
          unfold bnN
          by_cases hj : j = D 4
          · rw [hj, up_at]; exact wl
          · rw [up_ne hj]; exact hl j j0 j1
        refine r_aload_n (dc dkX13_readBand 52 rfl) rfl (np 88 rfl ?_)
        have jj105 : ¬ (¬ Rc.1 = 0 ∨ (3 ≤ n ∧ ¬ tK t L m Rc.2 = 2)) → jR 8 miX13_readBand (fun r τ => r = some (vI (bI ((bnR t L m (0, q) D N).1 = 0))) ∧ mdT [5, 6, 7, 8, 9, 10, 11, 12, 13, 14] [114, 119] σ τ ∧ mR t L m (bnR t L m (0, q) D N) τ ∧ ((bnR t L m (0, q) D N).1 = 0 → eqD τ (bnD t L m (0, q) D N) ∧ τ 119 = bnN t L m (0, q) D N) ∧ (∀ j, 0 ≤ j → j < 8 → lR (τ 119 j)) ∧ τ 111 12 = (if (bnR t L m (0, q) D N).1 = 5 then bnW t L m (0, q) D N else σ 111 12)) 105 [(0, .ref 111), (1, vI (D 4)), (2, vI (105 + 17 * D 4))] [] τ := by
          intro hno
          have hK : (9 - n).toNat = (8 - n).toNat + 1 := by omega
          refine r_aload_n (dc dkX13_readBand 62 rfl) rfl (np 106 rfl ?_)
          refine r_iconst (dc dkX13_readBand 63 rfl) (np 107 rfl ?_)
          refine r_aload_n (dc dkX13_readBand 64 rfl) rfl (np 108 rfl ?_)
          refine r_getR (dc dkX13_readBand 65 rfl) flX13_16 fd_111_16 (np 111 rfl ?_)
          refine r_iconst (dc dkX13_readBand 66 rfl) (np 112 rfl ?_)
          refine r_iald (dc dkX13_readBand 67 rfl) ar_114 (by omega) (np 113 rfl ?_)
          refine r_iconst (dc dkX13_readBand 68 rfl) (np 114 rfl ?_)
          refine r_isub (dc dkX13_readBand 69 rfl) (np 115 rfl ?_)
          refine r_eqI (Dc 0 - 1) (by rw [hEc 0 (by decide) (by decide)]) ?_
          refine r_cV2 (y' := miX13_isNumber) (dc dkX13_readBand 70 rfl) mlX13_175 ceX13_isNumber ob_111 (Nat.le_of_ble_eq_true rfl) (Nat.le_of_ble_eq_true rfl) (c_ckR hRc hMc (by decide) (by omega)) (fun r τ4 hp4 => (np 118 rfl ?_))
          obtain ⟨rfl, hs4, hM4, ht4⟩ := hp4
          refine r_bn (tgt := 123) (dc dkX13_readBand 71 rfl) rfl (fun h118 => ?_) (fun h118 => (np 121 rfl ?_))
          · skip
            obtain ⟨k1, k2, k3, k4⟩ := ckR_f h118
            have E4 := eqD_s hEc hs4
            have g4 := E4 (105 + 17 * D 4) (by omega) (by omega)
            refine r_aload_n (dc dkX13_readBand 74 rfl) rfl (np 124 rfl ?_)
            refine r_getR (dc dkX13_readBand 75 rfl) flX13_16 fd_111_16 (np 127 rfl ?_)
            refine r_iload_n (dc dkX13_readBand 76 rfl) rfl (np 128 rfl ?_)
            refine r_iald (dc dkX13_readBand 77 rfl) ar_114 (by omega) (np 129 rfl ?_)
            refine r_bipush (dc dkX13_readBand 78 rfl) bp_8 (np 131 rfl ?_)
            refine r_icmp_ne (tgt := 140) (dc dkX13_readBand 79 rfl) rfl (by first | assumption | decide | omega) (by first | assumption | decide | omega) (fun h131 => ?_) (fun h131 => (np 134 rfl ?_))
            · skip
              have n8 : n < 8 := by omega
              refine r_iload_n (dc dkX13_readBand 84 rfl) rfl (np 141 rfl ?_)
              refine r_iconst (dc dkX13_readBand 85 rfl) (np 142 rfl ?_)
              refine r_iadd (dc dkX13_readBand 86 rfl) (np 143 rfl ?_)
              refine r_iconst (dc dkX13_readBand 87 rfl) (np 144 rfl ?_)
              refine r_aload_n (dc dkX13_readBand 88 rfl) rfl (np 145 rfl ?_)
              refine r_getR (dc dkX13_readBand 89 rfl) flX13_16 fd_111_16 (np 148 rfl ?_)
              refine r_iload_n (dc dkX13_readBand 90 rfl) rfl (np 149 rfl ?_)
              refine r_iald (dc dkX13_readBand 91 rfl) ar_114 (by omega) (np 150 rfl ?_)
              refine r_imul (dc dkX13_readBand 92 rfl) (np 151 rfl ?_)
              refine r_iadd (dc dkX13_readBand 93 rfl) (np 152 rfl ?_)
              refine r_eqI ((105 + 17 * D 4) + 1 + 2 * n) (by rw [g4, hDn]) ?_
              refine r_istore_n (lv' := [(3, _), (0, _), (1, _), (2, _)]) (dc dkX13_readBand 94 rfl) (Nat.le_of_ble_eq_true rfl) rfl (np 153 rfl ?_)
              refine r_aload_n (dc dkX13_readBand 95 rfl) rfl (np 154 rfl ?_)
              refine r_getR (dc dkX13_readBand 96 rfl) flX13_16 fd_111_16 (np 157 rfl ?_)
              refine r_iload_n (dc dkX13_readBand 97 rfl) rfl (np 158 rfl ?_)
              refine r_aload_n (dc dkX13_readBand 98 rfl) rfl (np 159 rfl ?_)
              refine r_gI 14 (dc dkX13_readBand 99 rfl) flX13_172 fd_111_14 rfl (np 162 rfl ?_)
              refine r_iast (dc dkX13_readBand 100 rfl) ar_114 (by omega) (np 163 rfl ?_)
              refine r_aload_n (dc dkX13_readBand 101 rfl) rfl (np 164 rfl ?_)
              refine r_cV0 (y' := miX13_go) (dc dkX13_readBand 102 rfl) mlX13_179 ceX13_go ob_111 (Nat.le_of_ble_eq_true rfl) (Nat.le_of_ble_eq_true rfl) (c_goR h118 (md_ju (hM4.1 h118) (by decide) (by decide))) (fun r τ5 hp5 => (np 167 rfl ?_))
              obtain ⟨rfl, hs5, hM5⟩ := hp5
              have hc1e : co1 t L m n Rc Dc = stR t L m (ckR t L m 0 (Dc 0 - 1) Rc) := by rw [co1, gte_f (by omega)]
              rw [← hc1e] at hM5
              have hc1 : (co1 t L m n Rc Dc).1 = 0 := by rw [hc1e, stR_f]; exact h118
              have E5 := eqD_s (eqD_up E4 (105 + 17 * D 4 + 1 + 2 * n) (τ4 111 14)) hs5
              refine r_aload_n (dc dkX13_readBand 103 rfl) rfl (np 168 rfl ?_)
              refine r_iconst (dc dkX13_readBand 104 rfl) (np 169 rfl ?_)
              refine r_aload_n (dc dkX13_readBand 105 rfl) rfl (np 170 rfl ?_)
              refine r_getR (dc dkX13_readBand 106 rfl) flX13_16 fd_111_16 (np 173 rfl ?_)
              refine r_iconst (dc dkX13_readBand 107 rfl) (np 174 rfl ?_)
              refine r_iald (dc dkX13_readBand 108 rfl) ar_114 (by omega) (np 175 rfl ?_)
              refine r_iconst (dc dkX13_readBand 109 rfl) (np 176 rfl ?_)
              refine r_isub (dc dkX13_readBand 110 rfl) (np 177 rfl ?_)
              refine r_eqI (Dc 1 - 1) (by rw [E5 1 (by decide) (by decide), up_ne (by omega)]) ?_
              refine r_cV2 (y' := miX13_readNumber) (dc dkX13_readBand 111 rfl) mlX13_235 ceX13_readNumber ob_111 (Nat.le_of_ble_eq_true rfl) (Nat.le_of_ble_eq_true rfl) (c_nmR hc1 (hM5.1 hc1) (by decide) (by omega)) (fun r τ6 hp6 => (np 180 rfl ?_))
              obtain ⟨rfl, hs6, hM6, ht6⟩ := hp6
              change jR _ _ _ _ _ [vI (bI ((co2 t L m n Rc Dc).1 = 0))] _
              change mR t L m (co2 t L m n Rc Dc) τ6 at hM6
              change (co2 t L m n Rc Dc).1 = 0 → _ at ht6
              refine r_bn (tgt := 185) (dc dkX13_readBand 112 rfl) rfl (fun h180 => ?_) (fun h180 => (np 183 rfl ?_))
              · skip
                refine r_aload_n (dc dkX13_readBand 115 rfl) rfl (np 186 rfl ?_)
                refine r_getR (dc dkX13_readBand 116 rfl) flX13_16 fd_111_16 (np 189 rfl ?_)
                refine r_iload_n (dc dkX13_readBand 117 rfl) rfl (np 190 rfl ?_)
                refine r_iconst (dc dkX13_readBand 118 rfl) (np 191 rfl ?_)
                refine r_iadd (dc dkX13_readBand 119 rfl) (np 192 rfl ?_)
                refine r_eqI ((105 + 17 * D 4) + 2 + 2 * n) (by omega) ?_
                refine r_aload_n (dc dkX13_readBand 120 rfl) rfl (np 193 rfl ?_)
                refine r_gI 14 (dc dkX13_readBand 121 rfl) flX13_172 fd_111_14 rfl (np 196 rfl ?_)
                refine r_iast (dc dkX13_readBand 122 rfl) ar_114 (by omega) (np 197 rfl ?_)
                refine r_aload_n (dc dkX13_readBand 123 rfl) rfl (np 198 rfl ?_)
                refine r_getR (dc dkX13_readBand 124 rfl) flX13_16 fd_111_16 (np 201 rfl ?_)
                refine r_iload_n (dc dkX13_readBand 125 rfl) rfl (np 202 rfl ?_)
                refine r_dup2 (dc dkX13_readBand 126 rfl) ⟨rfl, rfl⟩ (np 203 rfl ?_)
                refine r_iald (dc dkX13_readBand 127 rfl) ar_114 (by omega) (np 204 rfl ?_)
                refine r_iconst (dc dkX13_readBand 128 rfl) (np 205 rfl ?_)
                refine r_iadd (dc dkX13_readBand 129 rfl) (np 206 rfl ?_)
                refine r_iast (dc dkX13_readBand 130 rfl) ar_114 (by omega) (np 207 rfl ?_)
                refine r_goto (tgt := 87) (dc dkX13_readBand 131 rfl) rfl ?_
                refine r_pick [1, 2, 3] rfl ?_
                exact ih87 _ (by
                      refine ⟨n + 1, co2 t L m n Rc Dc, coD t L m (105 + 17 * D 4) n Rc Dc, h180, md_ju (md_ju (hM6.1 h180) (by decide) (by decide)) (by decide) (by decide), ?_, up_at _ _ _, by omega, ?_, ?_, ?_, ?_, ?_⟩
                      · unfold coD
                        have a4 := ht4 h118
                        have a6 := ht6 h180
                        have E6 := eqD_s E5 hs6
                        rw [← a4, ← a6]
                        have z : ju τ6 114 (105 + 17 * D 4 + 2 + 2 * n) (τ6 111 14) 114 (105 + 17 * D 4) + 1 = n + 1 := by rw [ju_ne (by omega), E6 (105 + 17 * D 4) (by omega) (by omega), up_ne (by omega), hDn]
                        rw [z]
                        exact eqD_up (eqD_up E6 _ _) _ _
                      · unfold coD
                        rw [up_ne (by omega), up_ne (by omega), up_ne (by omega), up_ne (by omega), up_ne (by omega), up_ne (by omega)]
                        exact ⟨hDc.1, hDc.2.1, n5_co2 hDc.2.2⟩
                      · rw [hF, hK, coF, gte_f hno, gte_t h180, show (9 - (n + 1)).toNat = (8 - n).toNat by omega]
                      · exact (((((frc.trS hs4 (by decide)).row (by decide) (by decide)).trS hs5 (by decide)).trS hs6 (by decide)).row (by decide) (by decide)).row (by decide) (by decide)
                      · rw [ju_off _ _ _ _ _ (by decide), ju_off _ _ _ _ _ (by decide), hs6.1 119 (by decide), hs5.1 119 (by decide), ju_off _ _ _ _ _ (by decide), hs4.1 119 (by decide)]; exact h119
                      · rw [ju_ne (by omega), ju_ne (by omega), hs6.2 12 (by decide), hs5.2 12 (by decide), ju_ne (by omega), hs4.2 12 (by decide)]; exact h12) (by
                      have E6 := eqD_s E5 hs6
                      have z : ju τ6 114 (105 + 17 * D 4 + 2 + 2 * n) (τ6 111 14) 114 (105 + 17 * D 4) + 1 = n + 1 := by rw [ju_ne (by omega), E6 (105 + 17 * D 4) (by omega) (by omega), up_ne (by omega), hDn]
                      rw [ju_at, z]
                      omega)
              refine r_iconst (dc dkX13_readBand 113 rfl) (np 184 rfl ?_)
              exact r_zret (dc dkX13_readBand 114 rfl) rfl (by first | exact Or.inl rfl | exact Or.inr rfl) (by
                  have xx : bnR t L m (0, q) D N = co2 t L m n Rc Dc := by
                    have x3 : (bnC t L m (0, q) D N).1 = co2 t L m n Rc Dc := by rw [hF, hK, coF, gte_f hno, gte_f h180]
                    rw [bn_e3 (by rw [x3]; exact h180), x3]
                  have n5c : ¬ (co2 t L m n Rc Dc).1 = 5 := n5_co2 hDc.2.2
                  rw [xx]
                  refine ⟨by rw [bI_f h180], (((frc.trS hs4 (by decide)).row (by decide) (by decide)).trS hs5 (by decide)).trS hs6 (by decide), hM6, fun z => absurd z h180, (fun j j0 j1 => by rw [hs6.1 119 (by decide), hs5.1 119 (by decide), ju_off _ _ _ _ _ (by decide), hs4.1 119 (by decide)]; exact hl2 j j0 j1), ?_⟩
                  rw [if_neg (by first | exact n5c | omega)]
                  exact (by rw [hs6.2 12 (by decide), hs5.2 12 (by decide), ju_ne (by omega), hs4.2 12 (by decide)]; exact h12))
            refine r_aload_n (dc dkX13_readBand 80 rfl) rfl (np 135 rfl ?_)
            refine r_iconst (dc dkX13_readBand 81 rfl) (np 136 rfl ?_)
            refine r_cV1 (y' := miX13_bad) (dc dkX13_readBand 82 rfl) mlX13_165 ceX13_bad ob_111 (Nat.le_of_ble_eq_true rfl) (Nat.le_of_ble_eq_true rfl) (c_bdR h118 (hM4.1 h118) (by decide) (fun z => by rw [k4] at z; have := k1.2; omega)) (fun r τ5 hp5 => (np 139 rfl ?_))
            obtain ⟨rfl, hs5, hM5⟩ := hp5
            exact r_zret (dc dkX13_readBand 83 rfl) rfl (by first | exact Or.inl rfl | exact Or.inr rfl) (by
                have xx : bnR t L m (0, q) D N = flR t L m 4 (ckR t L m 0 (Dc 0 - 1) Rc) := by
                  have x0 : ¬ (flR t L m 4 (ckR t L m 0 (Dc 0 - 1) Rc)).1 = 0 := flR_f (by decide)
                  have x1 : co1 t L m n Rc Dc = flR t L m 4 (ckR t L m 0 (Dc 0 - 1) Rc) := by rw [co1, gte_t (by omega), stR_n x0]
                  have x2 : co2 t L m n Rc Dc = flR t L m 4 (ckR t L m 0 (Dc 0 - 1) Rc) := by rw [co2, x1, nmR_e x0]
                  have x3 : (bnC t L m (0, q) D N).1 = flR t L m 4 (ckR t L m 0 (Dc 0 - 1) Rc) := by rw [hF, hK, coF, gte_f hno, x2, gte_f x0]
                  rw [bn_e3 (by rw [x3]; exact x0), x3]
                have n5c : ¬ (flR t L m 4 (ckR t L m 0 (Dc 0 - 1) Rc)).1 = 5 := n5_fl (by decide) (n5_ck hDc.2.2)
                rw [xx]
                refine ⟨by rw [bI_f (flR_f (by decide))], (frc.trS hs4 (by decide)).trS hs5 (by decide), hM5, fun z => absurd z (flR_f (by decide)), (fun j j0 j1 => by rw [hs5.1 119 (by decide), hs4.1 119 (by decide)]; exact hl2 j j0 j1), ?_⟩
                rw [if_neg (by first | exact n5c | omega)]
                exact (hs5.2 12 (by decide)).trans ((hs4.2 12 (by decide)).trans h12))
          refine r_iconst (dc dkX13_readBand 72 rfl) (np 122 rfl ?_)
          exact r_zret (dc dkX13_readBand 73 rfl) rfl (by first | exact Or.inl rfl | exact Or.inr rfl) (by
              have xx : bnR t L m (0, q) D N = ckR t L m 0 (Dc 0 - 1) Rc := by
                have x1 : co1 t L m n Rc Dc = ckR t L m 0 (Dc 0 - 1) Rc := by rw [co1, flR_n h118]; by_cases z : 8 ≤ n; rw [gte_t z, stR_n h118]; rw [gte_f z, stR_n h118]
                have x2 : co2 t L m n Rc Dc = ckR t L m 0 (Dc 0 - 1) Rc := by rw [co2, x1, nmR_e h118]
                have x3 : (bnC t L m (0, q) D N).1 = ckR t L m 0 (Dc 0 - 1) Rc := by rw [hF, hK, coF, gte_f hno, x2, gte_f h118]
                rw [bn_e3 (by rw [x3]; exact h118), x3]
              have n5c : ¬ (ckR t L m 0 (Dc 0 - 1) Rc).1 = 5 := n5_ck hDc.2.2
              rw [xx]
              refine ⟨by rw [bI_f h118], frc.trS hs4 (by decide), hM4, fun z => absurd z h118, (fun j j0 j1 => by rw [hs4.1 119 (by decide)]; exact hl2 j j0 j1), ?_⟩
              rw [if_neg (by first | exact n5c | omega)]
              exact (hs4.2 12 (by decide)).trans h12)
        refine r_getR (dc dkX13_readBand 53 rfl) flX13_16 fd_111_16 (np 91 rfl ?_)
        refine r_iload_n (dc dkX13_readBand 54 rfl) rfl (np 92 rfl ?_)
        refine r_iald (dc dkX13_readBand 55 rfl) ar_114 (by omega) (np 93 rfl ?_)
        refine r_iconst (dc dkX13_readBand 56 rfl) (np 94 rfl ?_)
        refine r_icmp_lt (tgt := 105) (dc dkX13_readBand 57 rfl) rfl (by first | assumption | decide | omega) (by first | assumption | decide | omega) (fun h94 => ?_) (fun h94 => (np 97 rfl ?_))
        · skip
          refine r_pick [0, 1, 2] rfl ?_
          exact jj105 (by omega)
        refine r_aload_n (dc dkX13_readBand 58 rfl) rfl (np 98 rfl ?_)
        refine r_gI 7 (dc dkX13_readBand 59 rfl) flX13_120 fd_111_7 rfl (np 101 rfl ?_)
        refine r_iconst (dc dkX13_readBand 60 rfl) (np 102 rfl ?_)
        refine r_icmp_ne (tgt := 210) (dc dkX13_readBand 61 rfl) rfl (by first | assumption | decide | omega) (by first | assumption | decide | omega) (fun h102 => ?_) (fun h102 => (np 105 rfl ?_))
        · skip
          have hK : (9 - n).toNat = (8 - n).toNat + 1 := by omega
          have hCe : bnC t L m (0, q) D N = (Rc, Dc, n) := by rw [hF, hK, coF, gte_t (Or.inr ⟨by omega, by omega⟩)]
          refine r_aload_n (dc dkX13_readBand 132 rfl) rfl (np 211 rfl ?_)
          refine r_bipush (dc dkX13_readBand 133 rfl) bp_59 (np 213 rfl ?_)
          refine r_pV1 (y' := miX13_isSign) (dc dkX13_readBand 134 rfl) mlX13_182 ceX13_isSign ob_111 (Nat.le_of_ble_eq_true rfl) (Nat.le_of_ble_eq_true rfl) (c_X13_isSign hMc (by decide)) (np 216 rfl ?_)
          refine r_bn (tgt := 225) (dc dkX13_readBand 135 rfl) rfl (fun h216 => ?_) (fun h216 => (np 219 rfl ?_))
          · skip
            have hc0 : (bnC t L m (0, q) D N).1 = Rc := by rw [hCe]
            have hb1 : bn1 t L m (0, q) D N = Rc := by rw [bn1, hc0, gte_t ⟨hRc, h216⟩]
            have hcG : coG (105 + 17 * D 4) n (up D (105 + 17 * D 4) 0) Dc := by have := hGc.1; rw [hCe] at this; exact this
            obtain ⟨g1, g2, g3⟩ := hcG
            rw [up_ne (by omega), up_ne (by omega)] at g1
            have fr0 : ∀ j, (j < 105 + 17 * D 4 ∨ 105 + 17 * D 4 + 17 ≤ j) → Dc j = D j := fun j hj => by have := fr j hj; rw [hCe] at this; exact this
            have c0 := fr0 0 (by omega)
            have c1 := fr0 1 (by omega)
            have cv : ∀ o, 0 ≤ o → o < D 4 → gB Dc o := fun o o0 o1 => gB_c c0 c1 (by omega) (by omega) (fun p p0 p1 => fr0 _ (by omega)) (fun j j0 j1 => fr0 j (by omega)) (hV.2.2.2.2.2.2 o o0 o1)
            have okHc : okH τ 114 := by
              refine ⟨by rw [hEc 0 (by decide) (by decide), c0]; omega, by rw [hEc 1 (by decide) (by decide), c1]; omega, by rw [hEc 2 (by decide) (by decide), fr0 2 (by omega)]; exact hV.2.1, by rw [hEc 3 (by decide) (by decide), fr0 3 (by omega)]; exact hV.2.2.1, by rw [hEc 4 (by decide) (by decide), fr0 4 (by omega)]; exact hV.2.2.2.1, fun j j0 j1 => by rw [hEc (5 + j) (by omega) (by omega), fr0 (5 + j) (by omega)]; exact (hV.2.2.2.2.1 j j0 j1).1⟩
            have g4 := hEc (105 + 17 * D 4) (by omega) (by omega)
            have hcc : ∀ i, 0 ≤ i → i < cn τ 114 (D 4) → (-1000 ≤ xa τ 114 (D 4) i ∧ xa τ 114 (D 4) i ≤ 1000) ∧ (-1000 ≤ ya τ 114 (D 4) i ∧ ya τ 114 (D 4) i ≤ 1000) := by
              intro i i0 i1
              have i2 : i < n := by
                have : cn τ 114 (D 4) = n := by show τ 114 (105 + 17 * D 4) = n; omega
                omega
              have q1 := g1 i i0 i2
              show (-1000 ≤ τ 114 (105 + 17 * D 4 + 1 + 2 * i) ∧ τ 114 (105 + 17 * D 4 + 1 + 2 * i) ≤ 1000) ∧ (-1000 ≤ τ 114 (105 + 17 * D 4 + 2 + 2 * i) ∧ τ 114 (105 + 17 * D 4 + 2 + 2 * i) ≤ 1000)
              rw [hEc (105 + 17 * D 4 + 1 + 2 * i) (by omega) (by omega), hEc (105 + 17 * D 4 + 2 + 2 * i) (by omega) (by omega)]
              omega
            have hoc : ∀ o, 0 ≤ o → o < D 4 → ¬ o = D 4 → vB τ 114 o := by
              intro o o0 o1 _
              have q0 := cv o o0 o1
              refine ⟨by show 3 ≤ τ 114 (105 + 17 * o) ∧ τ 114 (105 + 17 * o) ≤ 8; rw [hEc (105 + 17 * o) (by omega) (by omega)]; exact q0.1, fun i i0 i1 => ?_⟩
              have i2 : i < Dc (105 + 17 * o) := by have : cn τ 114 o = Dc (105 + 17 * o) := hEc _ (by omega) (by omega); omega
              have q1 := q0.2.1 i i0 i2
              have q2 := q0.1
              show cB 9 (τ 114 (105 + 17 * o + 1 + 2 * i)) ∧ cB 9 (τ 114 (105 + 17 * o + 2 + 2 * i))
              rw [hEc (105 + 17 * o + 1 + 2 * i) (by omega) (by omega), hEc (105 + 17 * o + 2 + 2 * i) (by omega) (by omega)]
              omega
            have hWe : wrF (cn τ 114 (D 4)) (cP τ 114 (D 4)) (pkR τ 114) (τ 114 2) (D 4) (D 4) (cn τ 114) (rP τ 114) = bnW t L m (0, q) D N := by
              rw [wr_114 hEc (by omega) (by omega) (by omega) (by omega) (fun o o0 o1 => (cv o o0 o1).1), bnW, hCe]
            have hWb : cB 5 (bnW t L m (0, q) D N) := by
              rw [← hWe]
              have := wrA_b (cn τ 114 (D 4)) (cP τ 114 (D 4)) (pkR τ 114)
              unfold wrF bite
              split
              · omega
              · split <;> omega
            refine r_aload_n (dc dkX13_readBand 140 rfl) rfl (np 226 rfl ?_)
            refine r_getR (dc dkX13_readBand 141 rfl) flX13_16 fd_111_16 (np 229 rfl ?_)
            refine r_iload_n (dc dkX13_readBand 142 rfl) rfl (np 230 rfl ?_)
            refine r_iload_n (dc dkX13_readBand 143 rfl) rfl (np 231 rfl ?_)
            refine r_pS3 (y' := miX13_wrong) (dc dkX13_readBand 144 rfl) mlX13_246 seX13_wrong (Nat.le_of_ble_eq_true rfl) (Nat.le_of_ble_eq_true rfl) (c_X13_wrong ar_114 (by decide) okHc (by omega) (by omega) (by show 3 ≤ τ 114 (105 + 17 * D 4) ∧ τ 114 (105 + 17 * D 4) ≤ 8; omega) hcc hoc) (np 234 rfl ?_)
            refine r_eqI (bnW t L m (0, q) D N) hWe ?_
            refine r_istore_n (lv' := [(3, _), (0, _), (1, _), (2, _)]) (dc dkX13_readBand 145 rfl) (Nat.le_of_ble_eq_true rfl) rfl (np 235 rfl ?_)
            refine r_iload_n (dc dkX13_readBand 146 rfl) rfl (np 236 rfl ?_)
            refine r_if_le (tgt := 250) (dc dkX13_readBand 147 rfl) rfl (by first | assumption | decide | omega) (fun h236 => ?_) (fun h236 => (np 239 rfl ?_))
            · skip
              refine r_aload_n (dc dkX13_readBand 155 rfl) rfl (np 251 rfl ?_)
              refine r_getR (dc dkX13_readBand 156 rfl) flX13_16 fd_111_16 (np 254 rfl ?_)
              refine r_iconst (dc dkX13_readBand 157 rfl) (np 255 rfl ?_)
              refine r_dup2 (dc dkX13_readBand 158 rfl) ⟨rfl, rfl⟩ (np 256 rfl ?_)
              refine r_iald (dc dkX13_readBand 159 rfl) ar_114 (by omega) (np 257 rfl ?_)
              refine r_iconst (dc dkX13_readBand 160 rfl) (np 258 rfl ?_)
              refine r_iadd (dc dkX13_readBand 161 rfl) (np 259 rfl ?_)
              refine r_iast (dc dkX13_readBand 162 rfl) ar_114 (by omega) (np 260 rfl ?_)
              refine r_iconst (dc dkX13_readBand 163 rfl) (np 261 rfl ?_)
              exact r_zret (dc dkX13_readBand 164 rfl) rfl (by first | exact Or.inl rfl | exact Or.inr rfl) (by
                  have xx : bnR t L m (0, q) D N = Rc := by rw [bnR, hb1, gte_t (by omega)]
                  rw [xx]
                  refine ⟨by rw [bI_t hRc], frc.row (by decide) (by decide), ⟨fun _ => md_ju hMc (by decide) (by decide), fun z => absurd hRc z⟩, fun _ => ⟨?_, ?_⟩, fun j j0 j1 => by rw [ju_off _ _ _ _ _ (by decide)]; exact hl2 j j0 j1, ?_⟩
                  · unfold bnD
                    have z : τ 114 4 + 1 = D 4 + 1 := by rw [hEc 4 (by decide) (by decide), fr0 4 (by omega)]
                    rw [hCe, z]
                    exact eqD_up hEc _ _
                  · rw [ju_off _ _ _ _ _ (by decide)]; exact h119
                  · rw [if_neg (by omega), ju_ne (by decide)]; exact h12)
            refine r_aload_n (dc dkX13_readBand 148 rfl) rfl (np 240 rfl ?_)
            refine r_iload_n (dc dkX13_readBand 149 rfl) rfl (np 241 rfl ?_)
            refine r_pI 12 (dc dkX13_readBand 150 rfl) fpX13_249 fd_111_12 rfl (np 244 rfl ?_)
            refine r_aload_n (dc dkX13_readBand 151 rfl) rfl (np 245 rfl ?_)
            refine r_iconst (dc dkX13_readBand 152 rfl) (np 246 rfl ?_)
            refine r_cV1 (y' := miX13_bad) (dc dkX13_readBand 153 rfl) mlX13_165 ceX13_bad ob_111 (Nat.le_of_ble_eq_true rfl) (Nat.le_of_ble_eq_true rfl) (c_bdR hRc (md_t hMc ((mdS.refl [12] _).put (by decide)) (by decide) (by decide) (by decide) (by decide) (by decide) (by decide) (by decide) (by decide) (by decide)) (by decide) (fun z => by omega)) (fun r τ4 hp4 => (np 249 rfl ?_))
            obtain ⟨rfl, hs4, hM4⟩ := hp4
            exact r_zret (dc dkX13_readBand 154 rfl) rfl (by first | exact Or.inl rfl | exact Or.inr rfl) (by
                have xx : bnR t L m (0, q) D N = flR t L m 5 Rc := by rw [bnR, hb1, gte_f (by omega)]
                rw [xx]
                refine ⟨by rw [bI_f (flR_f (by decide))], (frc.put (by decide)).trS hs4 (by decide), hM4, fun z => absurd z (flR_f (by decide)), fun j j0 j1 => by rw [hs4.1 119 (by decide), ju_off _ _ _ _ _ (by decide)]; exact hl2 j j0 j1, ?_⟩
                rw [flR_y hRc, if_pos rfl, hs4.2 12 (by decide), ju_at])
          refine r_aload_n (dc dkX13_readBand 136 rfl) rfl (np 220 rfl ?_)
          refine r_iconst (dc dkX13_readBand 137 rfl) (np 221 rfl ?_)
          refine r_cV1 (y' := miX13_bad) (dc dkX13_readBand 138 rfl) mlX13_165 ceX13_bad ob_111 (Nat.le_of_ble_eq_true rfl) (Nat.le_of_ble_eq_true rfl) (c_bdR hRc hMc (by decide) (fun _ => rfl)) (fun r τ4 hp4 => (np 224 rfl ?_))
          obtain ⟨rfl, hs4, hM4⟩ := hp4
          exact r_zret (dc dkX13_readBand 139 rfl) rfl (by first | exact Or.inl rfl | exact Or.inr rfl) (by
              have xx : bnR t L m (0, q) D N = flR t L m 1 Rc := by
                have x0 : ¬ (flR t L m 1 Rc).1 = 0 := flR_f (by decide)
                have c0 : (bnC t L m (0, q) D N).1 = Rc := by rw [hCe]
                have x1 : bn1 t L m (0, q) D N = flR t L m 1 Rc := by rw [bn1, c0, gte_f (fun z => h216 z.2)]
                rw [bnR, x1, gte_flR x0]
              have n5c : ¬ (flR t L m 1 Rc).1 = 5 := n5_fl (by decide) hDc.2.2
              rw [xx]
              refine ⟨by rw [bI_f (flR_f (by decide))], frc.trS hs4 (by decide), hM4, fun z => absurd z (flR_f (by decide)), (fun j j0 j1 => by rw [hs4.1 119 (by decide)]; exact hl2 j j0 j1), ?_⟩
              rw [if_neg (by first | exact n5c | omega)]
              exact (hs4.2 12 (by decide)).trans h12)
        refine r_pick [0, 1, 2] rfl ?_
        exact jj105 (by omega)
      refine r_aload_n (dc dkX13_readBand 29 rfl) rfl (np 53 rfl ?_)
      refine r_iconst (dc dkX13_readBand 30 rfl) (np 54 rfl ?_)
      refine r_cV1 (y' := miX13_bad) (dc dkX13_readBand 31 rfl) mlX13_165 ceX13_bad ob_111 (Nat.le_of_ble_eq_true rfl) (Nat.le_of_ble_eq_true rfl) (c_bdR R2 hM2 (by decide) (fun z => by omega)) (fun r τ3 hp3 => (np 57 rfl ?_))
      obtain ⟨rfl, hs3, hM3⟩ := hp3
      exact r_zret (dc dkX13_readBand 32 rfl) rfl (by first | exact Or.inl rfl | exact Or.inr rfl) (by
          have xx : bnR t L m (0, q) D N = flR t L m 3 (bn0 t L m (0, q) D) := by
            have x2 : ¬ (flR t L m 3 (bn0 t L m (0, q) D)).1 = 0 := flR_f (by decide)
            have x0 : nm1 t L m (bn0 t L m (0, q) D) (D 4) N = flR t L m 3 (bn0 t L m (0, q) D) := by rw [nm1, gte_t ⟨R2, k3⟩, gte_t (Classical.byContradiction (fun z => h49 ((hE0 ()).mpr z))), stR_n x2]
            rw [bn_e2 (by rw [x0]; exact x2), x0]
          have n5c : ¬ (flR t L m 3 (bn0 t L m (0, q) D)).1 = 5 := n5_fl (by decide) (n5_bn0 n00)
          rw [xx]
          refine ⟨by rw [bI_f (flR_f (by decide))], fr2.trS hs3 (by decide), hM3, fun z => absurd z (flR_f (by decide)), (fun j j0 j1 => by rw [hs3.1 119 (by decide), F119]; exact hl j j0 j1), ?_⟩
          rw [if_neg (by first | exact n5c | omega)]
          exact (hs3.2 12 (by decide)).trans w2)
    refine r_aload_n (dc dkX13_readBand 17 rfl) rfl (np 31 rfl ?_)
    refine r_iconst (dc dkX13_readBand 18 rfl) (np 32 rfl ?_)
    refine r_cV1 (y' := miX13_bad) (dc dkX13_readBand 19 rfl) mlX13_165 ceX13_bad ob_111 (Nat.le_of_ble_eq_true rfl) (Nat.le_of_ble_eq_true rfl) (c_bdR R2 hM2 (by decide) (fun _ => rfl)) (fun r τ3 hp3 => (np 35 rfl ?_))
    obtain ⟨rfl, hs3, hM3⟩ := hp3
    exact r_zret (dc dkX13_readBand 20 rfl) rfl (by first | exact Or.inl rfl | exact Or.inr rfl) (by
        have xx : bnR t L m (0, q) D N = flR t L m 1 (bn0 t L m (0, q) D) := by
          have x2 : ¬ (flR t L m 1 (bn0 t L m (0, q) D)).1 = 0 := flR_f (by decide)
          have x0 : nm1 t L m (bn0 t L m (0, q) D) (D 4) N = flR t L m 1 (bn0 t L m (0, q) D) := by rw [nm1, gte_f (fun z => h27 z.2), stR_n x2]
          rw [bn_e2 (by rw [x0]; exact x2), x0]
        have n5c : ¬ (flR t L m 1 (bn0 t L m (0, q) D)).1 = 5 := n5_fl (by decide) (n5_bn0 n00)
        rw [xx]
        refine ⟨by rw [bI_f (flR_f (by decide))], fr2.trS hs3 (by decide), hM3, fun z => absurd z (flR_f (by decide)), (fun j j0 j1 => by rw [hs3.1 119 (by decide), F119]; exact hl j j0 j1), ?_⟩
        rw [if_neg (by first | exact n5c | omega)]
        exact (hs3.2 12 (by decide)).trans w2)
  refine r_aload_n (dc dkX13_readBand 8 rfl) rfl (np 14 rfl ?_)
  refine r_iconst (dc dkX13_readBand 9 rfl) (np 15 rfl ?_)
  refine r_cV1 (y' := miX13_bad) (dc dkX13_readBand 10 rfl) mlX13_165 ceX13_bad ob_111 (Nat.le_of_ble_eq_true rfl) (Nat.le_of_ble_eq_true rfl) (c_X13_bad hM (by decide) (fun z => by omega)) (fun r τ2 hp2 => (np 18 rfl ?_))
  obtain ⟨rfl, hs2, hM2⟩ := hp2
  exact r_zret (dc dkX13_readBand 11 rfl) rfl (by first | exact Or.inl rfl | exact Or.inr rfl) (by
      have xx : bnR t L m (0, q) D N = flR t L m 4 (0, q) := by
        have x2 : ¬ (flR t L m 4 (0, q)).1 = 0 := flR_f (by decide)
        have x0 : bn0 t L m (0, q) D = flR t L m 4 (0, q) := by rw [bn0, gte_t (by omega), stR_n x2]
        rw [bn_e1 (by rw [x0]; exact x2), x0]
      have n5c : ¬ (flR t L m 4 (0, q)).1 = 5 := n5_fl (by decide) n00
      rw [xx]
      refine ⟨by rw [bI_f (flR_f (by decide))], mdT.of hs2 (by decide), hM2, fun z => absurd z (flR_f (by decide)), (fun j j0 j1 => by rw [hs2.1 119 (by decide), hN]; exact hl j j0 j1), ?_⟩
      rw [if_neg (by first | exact n5c | omega)]
      exact hs2.2 12 (by decide))
