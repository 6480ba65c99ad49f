/-! ===== moved ===== -/
theorem wrA0 {n : Int} {P pk : Int → Int} (h : wrA n P pk = 0) : ¬ E1 n P pk ∧ ¬ E2 n P ∧ ¬ E3 n P ∧ ¬ E4 n P := by
  unfold wrA at h
  by_cases c1 : E1 n P pk
  · rw [bite_t c1] at h; omega
  · rw [bite_f c1] at h
    by_cases c2 : E2 n P
    · rw [bite_t c2] at h; omega
    · rw [bite_f c2] at h
      by_cases c3 : E3 n P
      · rw [bite_t c3] at h; omega
      · rw [bite_f c3] at h
        by_cases c4 : E4 n P
        · rw [bite_t c4] at h; omega
        · exact ⟨c1, c2, c3, c4⟩
theorem Inv_w {σ : jS} (h : Inv σ) {b : Int} (b0 : 0 ≤ b) (b1 : b < σ 113 4) : wrA (cn σ 113 b) (rP σ 113 b) (pkR σ 113) = 0 := (h.2.2.1.1.1.2.2.2.2.2.2 b b0 b1).2.2
theorem Inv_2 {σ : jS} (h : Inv σ) (h4 : 0 < σ 113 4) : (2 ≤ σ 113 0 ∧ σ 113 0 ≤ 10) ∧ (2 ≤ σ 113 1 ∧ σ 113 1 ≤ 10) := by
  have v := h.2.2.1.1.1
  have g := v.2.2.2.2.2.2 0 (by decide) h4
  have x := g.2.1 0 (by decide) (by have := g.1; omega)
  have := v.1
  omega
theorem Inv_3 {σ : jS} (h : Inv σ) {b : Int} (b0 : 0 ≤ b) (b1 : b < σ 113 4) : tri3 (pkR σ 113) (rP σ 113 b) := by
  have w := wrA0 (Inv_w h b0 b1)
  have n3 := ((Inv_k h).2.2.2.1.2 b b0 b1).1
  have p : ∀ i, 0 ≤ i → i < cn σ 113 b → pkR σ 113 (rP σ 113 b i) = 1 := fun i i0 i1 => Classical.byContradiction (fun z => w.1 ⟨i, ⟨i0, i1⟩, z⟩)
  exact ⟨p 0 (by decide) (by omega), p 1 (by decide) (by omega), p 2 (by decide) (by omega), fun z => w.2.2.1 ⟨0, ⟨by decide, by omega⟩, z⟩⟩
theorem st3_inj {a b c a' b' c' : Int} (h1 : (0 ≤ a ∧ a < 36) ∧ (0 ≤ b ∧ b < 36) ∧ (0 ≤ c ∧ c < 36)) (h2 : (0 ≤ a' ∧ a' < 36) ∧ (0 ≤ b' ∧ b' < 36) ∧ (0 ≤ c' ∧ c' < 36)) (e : st3 a b c = st3 a' b' c') : nm3 a b c = nm3 a' b' c' := by
  have l1 : 0 ≤ lo3 a b c ∧ lo3 a b c < 36 := by unfold lo3; omega
  have l2 : 0 ≤ hi3 a b c ∧ hi3 a b c < 36 := by unfold hi3; omega
  have l3 : 0 ≤ md3 a b c ∧ md3 a b c < 36 := by unfold md3 lo3 hi3; omega
  have m1 : 0 ≤ lo3 a' b' c' ∧ lo3 a' b' c' < 36 := by unfold lo3; omega
  have m2 : 0 ≤ hi3 a' b' c' ∧ hi3 a' b' c' < 36 := by unfold hi3; omega
  have m3 : 0 ≤ md3 a' b' c' ∧ md3 a' b' c' < 36 := by unfold md3 lo3 hi3; omega
  unfold st3 at e
  unfold nm3
  rw [show hi3 a b c = hi3 a' b' c' by omega, show md3 a b c = md3 a' b' c' by omega, show lo3 a b c = lo3 a' b' c' by omega]
theorem hit_eq {w h : Int} {pk : Int → Int} {a0 b0 c0 g0 g1 g2 s0 sg : Int} (h36 : w * h ≤ 36) (v0 : val3 w h a0 b0 c0) (vg : val3 w h g0 g1 g2) (e0 : sA s0 = a0 ∧ sB s0 = b0 ∧ sC s0 = c0) (eg : sA sg = g0 ∧ sB sg = g1 ∧ sC sg = g2) (k : Nat) : H3 w h pk a0 b0 c0 k (nm3 g0 g1 g2) ↔ hitR w h pk s0 (stO sg) k := by
  have dg := val_d h36 vg
  constructor
  · rintro ⟨a, b, c, r, e⟩
    have v := R3_val v0 k r
    have d := val_d h36 v
    obtain ⟨t, ht, t1, t2, t3⟩ := s_enc h36 v
    refine ⟨t, ht, by rw [e0.1, e0.2.1, e0.2.2, t1, t2, t3]; exact r, ?_⟩
    have inj := nm3_inj d.1 d.2.1 d.2.2.1 d.2.2.2 dg.1 dg.2.1 dg.2.2.1 dg.2.2.2 e
    unfold stO
    rw [t1, t2, t3, eg.1, eg.2.1, eg.2.2]
    unfold st3
    rw [inj.1, inj.2.1, inj.2.2]
  · rintro ⟨t, ht, r, e⟩
    rw [e0.1, e0.2.1, e0.2.2] at r
    have d := val_d h36 (R3_val v0 k r)
    refine ⟨_, _, _, r, ?_⟩
    unfold stO at e
    rw [eg.1, eg.2.1, eg.2.2] at e
    exact st3_inj ⟨d.1, d.2.1, d.2.2.1⟩ ⟨dg.1, dg.2.1, dg.2.2.1⟩ e
theorem tri_v {w h : Int} {σ : jS} (hw : 2 ≤ w ∧ w ≤ 10) (e : w = σ 113 0 ∧ h = σ 113 1) (hN : okN σ) {P : Int → Int} (t : tri3 (pkR σ 113) P) : val3 w h (ixW w (P 0)) (ixW w (P 1)) (ixW w (P 2)) := by
  have a := ((pk_01 hN).2.mp t.1).1
  have b := ((pk_01 hN).2.mp t.2.1).1
  have c := ((pk_01 hN).2.mp t.2.2.1).1
  have x := ixW_b (h := h) hw (p := P 0) (by omega)
  have y := ixW_b (h := h) hw (p := P 1) (by omega)
  have z := ixW_b (h := h) hw (p := P 2) (by omega)
  exact ⟨x.1, y.1, z.1, by rw [x.2.1, y.2.1, z.2.1]; exact t.2.2.2⟩
theorem enc3 {a b c : Int} (h : (0 ≤ a ∧ a < 36) ∧ (0 ≤ b ∧ b < 36) ∧ (0 ≤ c ∧ c < 36)) : sA (36 * (36 * a + b) + c) = a ∧ sB (36 * (36 * a + b) + c) = b ∧ sC (36 * (36 * a + b) + c) = c := by
  unfold sA sB sC
  omega
theorem ag_moved {σ : jS} (h : Inv σ) {a b : Int} (ha : iR a) (hb : iR b) : Ag 7 6 miX12_moved miX13_moved [vI a, vI b] σ := by
  obtain ⟨k1, k2, k3, k4, k5, k6, k7, k8⟩ := Inv_k h
  have w2 := Inv_2 h
  refine (c_X12_moved k1 k2 (fun z => by rw [k8.1, k8.2.1]; exact w2 (by omega)) (fun b b0 b1 _ => by rw [k7, (k6 b b0 (by omega)).2]; exact Inv_3 h b0 (by omega)) ha hb).mono (fun r τ q => ?_)
  obtain ⟨q1, v, q2, q3, q4⟩ := q
  have ag := same_agr q1 (by decide)
  have hτ := Inv_a h ag
  have e : τ 113 = σ 113 := q1 113 (by decide)
  refine ⟨v, q2, (c_X13_moved (Inv_k hτ).2.2.2.1 (Inv_2 hτ) (fun b b0 b1 _ => Inv_3 hτ b0 b1) ha hb).mono (fun r' ρ z => ?_)⟩
  obtain ⟨z1, z2, v', z3, z4, z5⟩ := z
  refine ⟨?_, Inv_a hτ (mdT_agr z1 (by decide) (by decide))⟩
  rw [z3]
  refine congrArg (fun z => some (vI z)) ?_
  rw [e, pkR_e e, cn_c e, cn_c e, rP_c2 e, rP_c2 e] at z5
  rw [e, cn_c e, cn_c e] at z4
  rw [k5, k8.1, k8.2.1] at q3
  by_cases c : ((0 ≤ a ∧ a < σ 113 4) ∧ (0 ≤ b ∧ b < σ 113 4) ∧ cn σ 113 a = 3 ∧ cn σ 113 b = 3) ∧ σ 113 0 * σ 113 1 ≤ 36
  · obtain ⟨⟨c1, c2, c3, c4⟩, c5⟩ := c
    have ea := k6 a c1.1 c1.2
    have eb := k6 b c2.1 c2.2
    have x := q4 (by rw [k5, k8.1, k8.2.1, ea.1, eb.1]; exact ⟨⟨c1, c2, c3, c4⟩, c5⟩)
    rw [k8.1, k8.2.1, k7, ea.2, eb.2] at x
    have va := tri_v (w2 (by omega)).1 ⟨rfl, rfl⟩ k4 (Inv_3 h c1.1 c1.2)
    have vb := tri_v (w2 (by omega)).1 ⟨rfl, rfl⟩ k4 (Inv_3 h c2.1 c2.2)
    have da := val_d c5 va
    have db := val_d c5 vb
    exact (ans_u (hit_eq c5 va vb (enc3 ⟨da.1, da.2.1, da.2.2.1⟩) (enc3 ⟨db.1, db.2.1, db.2.2.1⟩)) x (z5 ⟨⟨c1, c2, c3, c4⟩, c5⟩)).symm
  · rw [z4 c]
    refine (q3 (fun u => c ⟨⟨u.1.1, u.1.2.1, ?_, ?_⟩, u.2⟩)).symm
    · rw [← (k6 a u.1.1.1 u.1.1.2).1]; exact u.1.2.2.1
    · rw [← (k6 b u.1.2.1.1 u.1.2.1.2).1]; exact u.1.2.2.2
