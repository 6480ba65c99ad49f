theorem ch_Inv {ρ τ υ ω : jS} {b w : Int} (h : Inv ρ) (b0 : 0 ≤ b) (b1 : b < ρ 113 4) (h6 : ∀ j, 0 ≤ j → j < ρ 32 b → ρ 6 j = 10 * υ 114 (105 + 17 * b + 2 + 2 * j) + υ 114 (105 + 17 * b + 1 + 2 * j)) (pa : PA ρ τ w b (ρ 32 b)) (md : mdT [0] [114] τ υ) (c : chB (ρ 113) (υ 114) b) (ch : CH υ ω w) (wa : w = 0 → wrA (cn υ 114 b) (cP υ 114 b) (pkR υ 114) = 0) : Inv ω := by
  by_cases z : w = 0
  · obtain ⟨τ1, kp, pt⟩ := pa.2 z
    obtain ⟨υ1, ss, c1, c2, c3⟩ := ch.2 z
    have pM := isPst_n (kp.2.2.1.1 (min (ρ 0 6) 7) (by have := h.2.2.2.2.1.1.2.1; omega) (by omega))
    have kr : ∀ c, ¬ c = 0 → ¬ c = 8 → (c < 79 ∨ 111 ≤ c) → τ1 c = ρ c := fun c g0 g1 g2 => kp.2.2.2.2.2 c g0 g1 (by omega)
    have uw : ∀ c, ¬ c = 111 → ¬ c = 113 → ¬ c = 114 → ¬ c = 117 → ¬ c = 120 → ω c = τ c := fun c g1 g2 g3 g4 g5 => by rw [c1 c g2, ss.1.1 c g1 (by simp; omega), md.1 c g1 (by simp; omega)]
    have t118 : ω 118 = ρ 118 := by rw [uw 118 (by decide) (by decide) (by decide) (by decide) (by decide), pt.1 118 (by decide) (by decide), kr 118 (by decide) (by decide) (by decide)]
    have pb := ch_pb h b0 b1 c pt (fun x g1 g2 => kr x (by omega) (by omega) (by omega)) (ω := ω) (fun x g1 g2 => uw x (by omega) (by omega) (by omega) (by omega) (by omega)) (fun j j0 j1 => by rw [kr 6 (by decide) (by decide) (by decide)]; exact h6 j j0 j1) c2 t118 (wa z)
    exact Inv_ch h kp (fun c g1 g2 => pt.1 c (by omega) (by omega)) ss (fun c g1 g2 => md.1 c g1 (by simp; omega)) (fun j hj => md.2 j (by simp; omega)) (fun c g1 g2 => c1 c g1) (fun j hj => by rw [c3 j hj, md.1 113 (by decide) (by decide), pt.1 113 (by decide) (by decide), kr 113 (by decide) (by decide) (by decide)]) pb
  · rw [ch.1 z]
    rw [pa.1 z] at md
    exact Inv_a h (mdT_agr md (by decide) (by decide))
theorem ag_move {σ : jS} (h : Inv σ) {b i p : Int} (hb : iR b) (hi : iR i) (hp : iR p) : Ag 7 9 miX12_move miX13_move [vI b, vI i, vI p] σ := by
  obtain ⟨k1, k2, k3, k4, k5, k6, k7, k8⟩ := Inv_k h
  have i5 := h.2.2.2.2.1
  have hV := h.2.2.1.1.1
  refine (c_X12_move k2 k3 k1 i5.1.2.2 i5.1.2.1 hb hi hp).mono (fun r τ q => ?_)
  obtain ⟨q1, q2⟩ := q
  have iff : (((0 ≤ b ∧ b < σ 30 0) ∧ 0 ≤ i ∧ i < σ 32 b) ∧ ¬ pkC σ 28 p = -1) ↔ (((0 ≤ b ∧ b < σ 113 4) ∧ 0 ≤ i ∧ i < cn σ 113 b) ∧ 0 ≤ p ∧ p % 10 < σ 113 0 ∧ p / 10 < σ 113 1) := by
    rw [k5, k7, (pk_01 k4).1]
    constructor
    · rintro ⟨⟨u, v⟩, x⟩
      rw [(k6 b u.1 u.2).1] at v; exact ⟨⟨u, v⟩, x⟩
    · rintro ⟨⟨u, v⟩, x⟩
      rw [← (k6 b u.1 u.2).1] at v; exact ⟨⟨u, v⟩, x⟩
  by_cases z : ((0 ≤ b ∧ b < σ 30 0) ∧ 0 ≤ i ∧ i < σ 32 b) ∧ ¬ pkC σ 28 p = -1
  · obtain ⟨ρ, x1, x2, x3, x4⟩ := q2 z
    have z' := iff.mp z
    refine ⟨_, x3, ?_⟩
    have eρ : ∀ c, ¬ c = 6 → ρ c = σ c := fun c hc => x1 c (by simp; omega)
    have hρ : Inv ρ := Inv_a h (same_agr x1 (by decide))
    have et : ∀ c, 111 ≤ c → τ c = σ c := fun c hc => by
      by_cases w : wrF (σ 32 b) (rwP ρ (σ 32 b)) (pkC σ 28) (σ 28 2) (σ 30 0) b (σ 32) (bAt σ 30) = 0
      · obtain ⟨τ1, kp, pt⟩ := x4.2 w
        have pM := isPst_n (kp.2.2.1.1 (min (ρ 0 6) 7) (by have := hρ.2.2.2.2.1.1.2.1; omega) (by omega))
        rw [pt.1 c (by omega) (by omega), kp.2.2.2.2.2 c (by omega) (by omega) (by omega), eρ c (by omega)]
      · rw [x4.1 w, eρ c (by omega)]
    have e113 := et 113 (by omega)
    refine (c_X13_move (σ := τ) (okN_c k4 e113) (by rw [et 111 (by omega), i5.1.1]; exact i5.1.2.1) hb hi hp).mono (fun r' ω w => ?_)
    have w2 := w.2
    unfold cn at w2
    rw [e113] at w2
    obtain ⟨υ, y1, y2, y3, y4, y5⟩ := w2 z'
    have hg := (hV.2.2.2.2.2.2 b z'.1.1.1 z'.1.1.2)
    have n8 := hV.2.2.2.1
    have h01 := hV.1
    have g1 := hg.1
    have i1 : i < σ 113 (105 + 17 * b) := z'.1.2.2
    have c : chB (σ 113) (υ 114) b := by
      refine ⟨fun j j0 j1 hj => ?_, fun x x0 x1 => ?_⟩
      · rw [y3 j j0 j1, if_neg (by omega), if_neg (by omega)]
      · rw [y3 _ (by omega) (by omega), y3 _ (by omega) (by omega)]
        have gg := hg.2.1 x x0 x1
        by_cases xi : x = i
        · subst xi
          rw [if_pos rfl, if_neg (by omega), if_pos rfl]
          omega
        · rw [if_neg (by omega), if_neg (by omega), if_neg (by omega), if_neg (by omega)]
          exact gg
    have h6 : ∀ j, 0 ≤ j → j < σ 32 b → ρ 6 j = 10 * υ 114 (105 + 17 * b + 2 + 2 * j) + υ 114 (105 + 17 * b + 1 + 2 * j) := fun j j0 j1 => by
      have j1' : j < σ 113 (105 + 17 * b) := by have := (k6 b z'.1.1.1 z'.1.1.2).1; unfold cn at this; omega
      rw [x2 j j0 j1, y3 _ (by omega) (by omega), y3 _ (by omega) (by omega)]
      by_cases xi : j = i
      · subst xi
        rw [if_pos rfl, if_pos rfl, if_neg (by omega), if_pos rfl]
        omega
      · rw [if_neg xi, if_neg (by omega), if_neg (by omega), if_neg (by omega), if_neg (by omega), (k6 b z'.1.1.1 z'.1.1.2).2]
        unfold rP xa ya
        rw [Int.emod_eq_of_lt j0 (show j < cn σ 113 b from j1')]
    have ew := ch_wr (ρ := ρ) h z'.1.1.1 z'.1.1.2 c h6
    refine ⟨by rw [y4, ew]; rfl, ?_⟩
    rw [ew] at x4
    have e32 : ρ 32 = σ 32 := eρ 32 (by decide)
    have r113 : ρ 113 = σ 113 := eρ 113 (by decide)
    exact ch_Inv hρ z'.1.1.1 (by rw [r113]; exact z'.1.1.2) (by rw [e32]; exact h6) (by rw [e32]; exact x4) y1 (by rw [r113]; exact c) y5 (fun w0 => wrF0 w0)
  · obtain ⟨x1, x2⟩ := q1 z
    refine ⟨_, x1, ?_⟩
    rw [x2]
    refine (c_X13_move (σ := σ) k4 (by rw [i5.1.1]; exact i5.1.2.1) hb hi hp).mono (fun r' ρ w => ?_)
    have y := w.1 (fun g => z (iff.mpr g))
    exact ⟨y.1, by rw [y.2]; exact Inv_a h (agr_ju σ 0)⟩
