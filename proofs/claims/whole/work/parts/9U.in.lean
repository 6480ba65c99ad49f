/-! ===== in, cuts, said: with the mathematics ===== -/
theorem Inv_PW {σ : jS} (h : Inv σ) {b : Int} (b0 : 0 ≤ b) (b1 : b < σ 113 4) : 3 ≤ cn σ 113 b ∧ PW (cn σ 113 b) (rP σ 113 b) := by
  have vb := (Inv_k h).2.2.2.1.2 b b0 b1
  have w := wrA0 (Inv_w h b0 b1)
  exact ⟨vb.1.1, PW_w vb.1.1 (fun i => rP_per i) (fun i => rP_p vb i) w.2.1 w.2.2.1 w.2.2.2⟩
theorem lie_R {σ : jS} (h : Inv σ) {a b : Int} (a0 : 0 ≤ a) (a1 : a < σ 113 4) (b0 : 0 ≤ b) (b1 : b < σ 113 4) : lieB (cn σ 113 a) (rP σ 113 a) (cn σ 113 b) (rP σ 113 b) ↔ lieR σ a b := by
  obtain ⟨na, wa⟩ := Inv_PW h a0 a1
  obtain ⟨nb, wb⟩ := Inv_PW h b0 b1
  rw [lie_iff (by omega) (by omega) wb.2.1 wa.2.2.1 wb.2.2.1 (fun k k0 k1 => PW_d wa k0 k1) (fun k k0 k1 => PW_d wb k0 k1)]
  unfold lieR
  rw [wth_1]
  refine ⟨fun ⟨z1, z2⟩ => ⟨fun e => ?_, fun ⟨i, j, i1, j1, g⟩ => ?_, z2⟩, fun ⟨z1, z2, z3⟩ => ⟨fun i j i0 i1 j0 j1 => ?_, z3⟩⟩
  · subst e
    have g := z1 0 0 (by omega) (by omega) (by omega) (by omega)
    exact (mt_0.mp g).2 (.inl (onS_a _ _))
  · have := z1 i j i1.1 i1.2 j1.1 j1.2
    omega
  · have bb := (mt_b (rP σ 113 a i) (rP σ 113 a (i + 1)) (rP σ 113 b j) (rP σ 113 b (j + 1))).1
    by_cases g : 0 < mt (rP σ 113 a i) (rP σ 113 a (i + 1)) (rP σ 113 b j) (rP σ 113 b (j + 1))
    · exact absurd ⟨i, j, ⟨i0, i1⟩, ⟨j0, j1⟩, g⟩ z2
    · omega
theorem ag_in {σ : jS} (h : Inv σ) {a b : Int} (ha : iR a) (hb : iR b) : Ag 6 8 miX12_in miX13_in [vI a, vI b] σ := by
  obtain ⟨k1, k2, k3, k4, k5, k6, k7, k8⟩ := Inv_k h
  refine Ag_p h (c_X12_in k2 k3 ha hb) (c_X13_in k4 ha hb) ?_
  rw [k5]
  refine gte_c Iff.rfl (fun c => ?_)
  rw [(k6 a c.1.1 c.1.2).1, (k6 a c.1.1 c.1.2).2, (k6 b c.2.1 c.2.2).1, (k6 b c.2.1 c.2.2).2]
  exact bI_iff (lie_R h c.1.1 c.1.2 c.2.1 c.2.2)
theorem ag_cuts {σ : jS} (h : Inv σ) {b k : Int} (hb : iR b) (hk : iR k) : Ag 6 7 miX12_cuts miX13_cuts [vI b, vI k] σ := by
  obtain ⟨k1, k2, k3, k4, k5, k6, k7, k8⟩ := Inv_k h
  refine Ag_s h (X := [15, 16]) (by decide) ((c_X12_cuts k2 k3 hb hk).mono (fun r τ q => ⟨q.2, q.1⟩)) (fun τ hτ s => ?_)
  refine (c_X13_cuts (Inv_k hτ).2.2.2.1 hb hk).mono (fun r ρ z => ⟨mdT_agr z.2.1 (by decide) (by decide), ?_⟩)
  rw [z.1]
  have e : τ 113 = σ 113 := s 113 (by decide)
  refine congrArg (fun z : Int => some (vI z)) ?_
  rw [show cn τ 113 b = cn σ 113 b from cn_c e b, rP_c2 e b, e, k5]
  refine gte_c Iff.rfl (fun c => ?_)
  rw [(k6 b c.1 c.2).1, (k6 b c.1 c.2).2]
  obtain ⟨n3, w⟩ := Inv_PW h c.1 c.2
  rw [PL2_c (fun _ _ _ => rfl) (fun i j i0 ij jM => QK_iff n3 w i0 ij jM)]
/-- what is said at one leaf -/
theorem at_iff {σ : jS} (h : Inv σ) {N M : Int} {idn : Int → Int} (hM : 0 ≤ M ∧ M ≤ 20) (hNd : okNd N M (fun j => σ 113 (272 + j))) (hSy : okSy M (σ 121)) (hid : ∀ w, idn w = fi (fun i => σ 29 i = w) (σ 28 6)) {b k : Int} (b0 : 0 ≤ b) (b1 : b < σ 113 4) (k0 : 0 ≤ k) (k1 : k < N) (h59 : 59 ≤ σ 113 (272 + 4 * k)) : atS σ b (cdM (fun j => σ 113 (272 + j)) (σ 121) idn k) ↔ atM σ b k := by
  obtain ⟨q1, q2, q3, q4, q5, q6, q7, q8⟩ := Inv_k h
  obtain ⟨n3, w⟩ := Inv_PW h b0 b1
  have nU : nmU (σ 29) (σ 28 6) := h.2.2.1.2.1.1
  have nB : nmI (σ 31) (σ 29) (σ 28 6) (σ 113) (σ 118) := h.2.2.1.2.1.2.1
  obtain ⟨e1, e2⟩ := q6 b b0 b1
  have nd := hNd k k0 k1
  unfold atS atM
  rw [e1, e2]
  have m8 := q4.1.2.2.2.2.1
  -- the band that is named
  have nm : ∀ c, σ 113 (272 + 4 * k) = 59 ∨ σ 113 (272 + 4 * k) = 60 → c = (σ 113 (272 + 4 * k) - 50) * 3000 + idn (σ 121 (σ 113 (272 + (4 * k + 1)))) → (idn (σ 121 (σ 113 (272 + (4 * k + 1)))) = -1 ∧ oNm σ k = -1) ∨ (c / 3000 = σ 113 (272 + 4 * k) - 50 ∧ oId σ c = oNm σ k) := by
    intro c hc ec
    have hx : 0 ≤ σ 113 (272 + (4 * k + 1)) ∧ σ 113 (272 + (4 * k + 1)) < M := by
      simp only at nd
      omega
    have hw := (hSy _ hx.1 hx.2).1
    have id_ := hid (σ 121 (σ 113 (272 + (4 * k + 1))))
    have eo : oNm σ k = fi (fun b => σ 31 b = idn (σ 121 (σ 113 (272 + (4 * k + 1)))) ∧ ¬ idn (σ 121 (σ 113 (272 + (4 * k + 1)))) = -1) (σ 30 0) := by
      unfold oNm
      rw [q5]
      exact fi_c (fun x x0 x1 => by rw [id_]; exact (nm_eq nU nB hw x0 x1).symm)
    rcases fi_spec (fun i => σ 29 i = σ 121 (σ 113 (272 + (4 * k + 1)))) nU.1.1 with f | f
    · left
      rw [id_]
      refine ⟨f.1, ?_⟩
      rw [eo]
      rcases fi_spec (fun b => σ 31 b = idn (σ 121 (σ 113 (272 + (4 * k + 1)))) ∧ ¬ idn (σ 121 (σ 113 (272 + (4 * k + 1)))) = -1) (show 0 ≤ σ 30 0 by omega) with g | g
      · exact g.1
      · exact absurd (by rw [id_]; exact f.1) g.2.2.1.2
    · right
      have f0 := f.1
      have f1 := f.2.1
      have u := nU.1
      rw [← id_] at f0 f1
      refine ⟨by omega, ?_⟩
      unfold oId
      rw [eo, show c % 1000 = idn (σ 121 (σ 113 (272 + (4 * k + 1)))) by omega]
  have ob : ¬ oNm σ k = -1 → 0 ≤ oNm σ k ∧ oNm σ k < σ 113 4 := fun z => (fi_b (P := fun b => σ 118 b = σ 121 (σ 113 (272 + (4 * k + 1)))) (n := σ 113 4) (by omega)).2.2 z
  have small : ¬ cmpS (((59 - 50) * 3000 + -1 : Int) / 1000 % 3) (msC (cn σ 113 b) (rP σ 113 b) (((59 - 50) * 3000 + -1 : Int) / 3000)) (((59 - 50) * 3000 + -1 : Int) % 1000) := by
    intro z
    have vb := q4.2 b b0 b1
    have rn := smI_nn (f := fun i => bI (al (rP σ 113 b (i + 1)) (rP σ 113 b i) (rP σ 113 b (i + 2)) = 0)) (A := 1) (n := cn σ 113 b) (by omega) (fun i _ _ => bI_b _)
    replace rn : 0 ≤ rightN (cn σ 113 b) (rP σ 113 b) ∧ rightN (cn σ 113 b) (rP σ 113 b) ≤ cn σ 113 b * 1 := rn
    have v8 := vb.1.2
    unfold cmpS msC at z
    rw [show ((59 - 50) * 3000 + -1 : Int) / 1000 % 3 = 2 by decide, show ((59 - 50) * 3000 + -1 : Int) / 3000 = 8 by decide, show ((59 - 50) * 3000 + -1 : Int) % 1000 = 999 by decide] at z
    rw [if_neg (by decide), if_neg (by decide), if_neg (by decide), if_neg (by decide)] at z
    omega
  unfold cdM
  simp only
  rcases nd with g | g | g | g | g
  · simp only at g; omega
  · simp only at g; omega
  · simp only at g
    rw [if_pos g.1, show 272 + (4 * k + 1) = 272 + (4 * k + 1) from rfl]
    rcases nm _ g.1 rfl with ⟨z1, z2⟩ | ⟨z1, z2⟩
    · rw [z2, z1]
      rcases g.1 with e | e
      · rw [e, if_pos rfl]
        refine ⟨fun z => absurd z ?_, fun z => absurd rfl z.1⟩
        rw [if_neg (by decide), if_neg (by decide), if_neg (by decide)]
        exact small
      · rw [e, if_pos (by decide), if_neg (by decide), if_pos rfl]
        refine ⟨fun z => ?_, fun z => absurd rfl z.1⟩
        exfalso
        refine z.1 ?_
        unfold oId
        rcases fi_spec (fun b => σ 31 b = ((60 - 50) * 3000 + -1) % 1000 ∧ ¬ ((60 - 50) * 3000 + -1 : Int) % 1000 = -1) (show 0 ≤ σ 30 0 by omega) with f | f
        · exact f.1
        · have := f.2.2.1.1
          have u := nU.1
          rcases nB _ f.1 (by rw [← q5]; exact f.2.1) with v | v <;> omega
    · rw [z1, z2]
      rcases g.1 with e | e
      · rw [e, if_pos (by decide), if_pos rfl]
        refine ⟨fun z => ⟨z.1, ?_⟩, fun z => ⟨z.1, ?_⟩⟩
        · obtain ⟨o0, o1⟩ := ob z.1
          have := z.2
          rw [(q6 _ o0 o1).1, (q6 _ o0 o1).2] at this
          exact (lie_R h b0 b1 o0 o1).mp this
        · obtain ⟨o0, o1⟩ := ob z.1
          rw [(q6 _ o0 o1).1, (q6 _ o0 o1).2]
          exact (lie_R h b0 b1 o0 o1).mpr z.2
      · rw [e, if_neg (by decide), if_pos (by decide), if_neg (by decide), if_pos rfl]
        refine ⟨fun z => ⟨z.1, ?_⟩, fun z => ⟨z.1, ?_⟩⟩
        · obtain ⟨o0, o1⟩ := ob z.1
          have := z.2
          rw [(q6 _ o0 o1).1, (q6 _ o0 o1).2] at this
          exact this
        · obtain ⟨o0, o1⟩ := ob z.1
          rw [(q6 _ o0 o1).1, (q6 _ o0 o1).2]
          exact z.2
  · simp only at g
    rw [if_neg (show ¬ (σ 113 (272 + 4 * k) = 59 ∨ σ 113 (272 + 4 * k) = 60) by omega), if_pos g, g]
    rw [if_neg (by decide), if_neg (by decide), if_pos (by decide), if_neg (by decide), if_neg (by decide), if_pos rfl]
    have ww := wrA0 (Inv_w h b0 b1)
    rw [bent_eq (by omega) (fun i => rP_per i) ww.2.2.1 (area_n0 n3 (fun i => rP_per i) w.2.2.1 ww.2.1 ww.2.2.1 ww.2.2.2)]
  · simp only at g
    obtain ⟨g1, g2, g3⟩ := g
    rw [if_neg (show ¬ (σ 113 (272 + 4 * k) = 59 ∨ σ 113 (272 + 4 * k) = 60) by omega), if_neg (show ¬ σ 113 (272 + 4 * k) = 61 by omega)]
    generalize hn0 : σ 113 (272 + 4 * k) = n0 at *
    generalize hn3 : σ 113 (272 + (4 * k + 3)) = n3' at *
    generalize hn2 : σ 113 (272 + (4 * k + 2)) = n2 at *
    have c1 : ((n0 - 50) * 3000 + (n3' - 60) * 1000 + n2) / 3000 = n0 - 50 := by omega
    have c2 : ((n0 - 50) * 3000 + (n3' - 60) * 1000 + n2) / 1000 % 3 = n3' - 60 := by omega
    have c3 : ((n0 - 50) * 3000 + (n3' - 60) * 1000 + n2) % 1000 = n2 := by omega
    rw [c1, c2, c3]
    rw [if_neg (by omega), if_neg (by omega), if_neg (by omega), if_neg (by omega), if_neg (by omega), if_neg (by omega)]
    have em : msC (cn σ 113 b) (rP σ 113 b) (n0 - 50) = msR (cn σ 113 b) (rP σ 113 b) (n0 - 50) := by
      unfold msC msR
      rw [right_eq (by omega) (fun i => rP_per i)]
    rw [em]
theorem ag_said {σ : jS} (h : Inv σ) {k : Int} (hk : iR k) : Ag 8 50 miX12_said miX13_said [vI k] σ := by
  obtain ⟨q1, q2, q3, q4, q5, q6, q7, q8⟩ := Inv_k h
  have se := h.2.2.1.2.2.2.2
  have m8 := q4.1.2.2.2.2.1
  have hs : (0 ≤ σ 38 0 ∧ σ 38 0 ≤ 40) ∧ (∀ i, 0 ≤ i → i < σ 38 0 → 0 ≤ σ 39 i ∧ σ 39 i < 51000) ∧ acn (σ 39) (σ 38 0).toNat 0 ≤ 20 := by
    rcases se with ⟨s1, s2⟩ | ⟨s1, s2, e, N, M, idn, s3, _⟩
    · replace s2 : σ 38 0 = 0 := s2
      rw [s2]
      exact ⟨by omega, fun i i0 i1 => by omega, by show (0 : Int) ≤ 20; decide⟩
    · replace s2 : 0 < σ 38 0 ∧ σ 38 0 ≤ 39 := s2
      obtain ⟨_, _, s5, s6⟩ := s3
      rw [Int.sub_zero] at s5
      exact ⟨by omega, s6, s5⟩
  refine Ag_s h (X := [11, 12, 13, 14]) (by decide) (c_X12_said q2 q3 hs.1 hs.2.1 hs.2.2 hk) (fun τ hτ s => ?_)
  have e113 : τ 113 = σ 113 := s 113 (by decide)
  have e118 : τ 118 = σ 118 := s 118 (by decide)
  have e121 : τ 121 = σ 121 := s 121 (by decide)
  have fin : ∀ (Q : Int → Prop) (A B : Prop), (A ↔ B) → (¬ A → ∀ b, 0 ≤ b → b < σ 113 4 → (hdP (rnL (atS σ b) (σ 39) (σ 38 0).toNat 0 []) ↔ Q b)) → gte A (-1) (nthL (saL (fun b => hdP (rnL (atS σ b) (σ 39) (σ 38 0).toNat 0 [])) (σ 30 0)) k) = gte B (-1) (nthL (saL Q (σ 113 4)) k) := by
    intro Q A B ab hQ
    by_cases c : A
    · rw [gte_t c, gte_t (ab.mp c)]
    · rw [gte_f c, gte_f (fun z => c (ab.mpr z)), q5]
      unfold saL
      rw [fl_c (fun b b0 b1 => lif_iff (hQ c b b0 b1) [b])]
  rcases se with ⟨s1, s2⟩ | ⟨s1, s2, e, N, M, idn, s3, sN, sM, sNd, sSy, sR, sid⟩
  · refine (c_X13_said (Inv_k hτ).2.2.2.1 (by rw [e113, s1]; decide) (v := fun _ _ => True) (idn := fun _ => 0) (fun z => absurd (by rw [e113]; exact s1) z) hk).mono (fun r ρ z => ⟨⟨fun c hc => ?_, fun j hj => z.2.1 j (by intro q; rw [q] at hj; exact absurd hj (by decide))⟩, ?_⟩)
    · by_cases c1 : c = 111
      · exact absurd (by rw [c1]; decide) hc
      · exact z.1 c c1 (fun w => hc (by revert w; simp; omega))
    · rw [z.2.2.2]
      refine congrArg (fun z : Int => some (vI z)) ?_
      rw [e113]
      rw [gte_t (show σ 38 0 = 0 from s2), gte_t s1]
  · have at_ : ∀ b, 0 ≤ b → b < σ 113 4 → ∀ k, 0 ≤ k → k < N → 59 ≤ σ 113 (272 + 4 * k) → (atS σ b (cdM (fun j => σ 113 (272 + j)) (σ 121) idn k) ↔ atM σ b k) := fun b b0 b1 k k0 k1 hk => at_iff h sM sNd sSy sid b0 b1 k0 k1 hk
    refine (c_X13_said (Inv_k hτ).2.2.2.1 (by rw [e113, s1]; decide) (v := fun b => atS σ b) (idn := idn) (fun _ => ⟨N, M, ⟨(Inv_k hτ).2.2.2.1, sN, sM, by rw [e113]; exact sNd, by rw [e121]; exact sSy, by rw [e118]; exact h.2.2.1.2.1.2.2⟩, by rw [e113]; exact sR.1, by rw [e113, e121, atM_e e113 e118 e121]; exact at_⟩) hk).mono (fun r ρ z => ⟨⟨fun c hc => ?_, fun j hj => z.2.1 j (by intro q; rw [q] at hj; exact absurd hj (by decide))⟩, ?_⟩)
    · by_cases c1 : c = 111
      · exact absurd (by rw [c1]; decide) hc
      · exact z.1 c c1 (fun w => hc (by revert w; simp; omega))
    · rw [z.2.2.2]
      refine congrArg (fun z : Int => some (vI z)) ?_
      rw [e113, e121]
      replace s2 : 0 < σ 38 0 ∧ σ 38 0 ≤ 39 := s2
      refine (fin _ _ _ ⟨fun z => by omega, fun z => by omega⟩ (fun _ b b0 b1 => ?_)).symm
      have r1 := s3.2.1 (atS σ b) []
      rw [Int.sub_zero] at r1
      show hdP (rnL (atS σ b) (σ 39) (σ 38 0).toNat 0 []) ↔ _
      rw [show rnL (atS σ b) (σ 39) (σ 38 0).toNat 0 [] = [e (atS σ b)] from r1]
      have r2 := sR.2 (fun j => σ 113 (272 + j)) (σ 121) (fun _ _ _ => rfl) (fun _ _ _ => rfl) 40 (atS σ b) (by have := sR.1; omega)
      exact r2.symm
