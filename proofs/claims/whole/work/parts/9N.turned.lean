/-! ===== corners counted from the one before or from the one behind ===== -/
theorem smI_fst (f : Int → Int) : ∀ n : Nat, sm f (n + 1) = f 0 + sm (fun i => f (i + 1)) n
  | 0 => by show sm f 0 + f ((0 : Nat) : Int) = f 0 + 0; show (0 : Int) + f 0 = f 0 + 0; omega
  | n + 1 => by
    have h := smI_fst f n
    show sm f (n + 1) + f ((n + 1 : Nat) : Int) = f 0 + (sm (fun i => f (i + 1)) n + f ((n : Int) + 1))
    rw [h, show ((n + 1 : Nat) : Int) = (n : Int) + 1 by omega]; omega
theorem smI_rot {f : Int → Int} {n : Int} (hn : 0 ≤ n) (h : f n = f 0) : smI (fun i => f (i + 1)) n = smI f n := by
  have a := smI_fst f n.toNat
  have b : sm f (n.toNat + 1) = sm f n.toNat + f (n.toNat : Int) := rfl
  rw [show ((n.toNat : Nat) : Int) = n by omega, h] at b
  unfold smI
  omega
theorem right_eq {n : Int} {P : Int → Int} (hn : 1 ≤ n) (per : ∀ i, P (i + n) = P i) : rightN n P = rightR n P := by
  unfold rightN rightR
  rw [← smI_rot (f := fun i => bI (al (P i) (P (i + n - 1)) (P (i + 1)) = 0)) (by omega) (by
    show bI (al (P n) (P (n + n - 1)) (P (n + 1)) = 0) = bI (al (P 0) (P (0 + n - 1)) (P (0 + 1)) = 0)
    have e0 := per 0
    have e1 := per 1
    have e2 := per (n - 1)
    rw [show 0 + n = n by omega] at e0
    rw [show 1 + n = n + 1 by omega] at e1
    rw [show n - 1 + n = n + n - 1 by omega] at e2
    rw [e0, e1, e2, show 0 + n - 1 = n - 1 by omega, show (0 : Int) + 1 = 1 by omega])]
  refine smI_congr (fun i i0 i1 => ?_)
  have e := per i
  show bI (al (P (i + 1)) (P i) (P (i + 2)) = 0) = bI (al (P (i + 1)) (P (i + 1 + n - 1)) (P (i + 1 + 1)) = 0)
  rw [show i + 1 + n - 1 = i + n by omega, e, show i + 1 + 1 = i + 2 by omega]
theorem sgn_iff {t A : Int} (ht : ¬ t = 0) (hA : ¬ A = 0) : (0 < t ↔ 0 < A) ↔ sgn t = sgn A := by
  unfold sgn
  by_cases a : 0 < t <;> by_cases b : 0 < A
  · rw [if_pos a, if_pos b]; exact ⟨fun _ => rfl, fun _ => ⟨fun _ => b, fun _ => a⟩⟩
  · rw [if_pos a, if_neg b, if_pos (by omega)]; exact ⟨fun h => absurd (h.mp a) b, fun h => absurd h (by decide)⟩
  · rw [if_neg a, if_pos b, if_pos (by omega)]; exact ⟨fun h => absurd (h.mpr b) a, fun h => absurd h (by decide)⟩
  · rw [if_neg a, if_neg b, if_pos (by omega), if_pos (by omega)]; exact ⟨fun _ => rfl, fun _ => ⟨fun h => absurd h a, fun h => absurd h b⟩⟩
/-- bent corners, if the band's area is not 0 (which the mathematics has yet to give) -/
theorem bent_eq {n : Int} {P : Int → Int} (hn : 1 ≤ n) (per : ∀ i, P (i + n) = P i) (hT : ¬ E3 n P) (hA : ¬ areaS n P = 0) : bentN n P = bentR n P := by
  unfold bentN bentR
  rw [← smI_rot (f := fun i => bI (¬ sgn (tn (P (i + n - 1)) (P i) (P (i + 1))) = sgn (areaS n P))) (by omega) (by
    show bI (¬ sgn (tn (P (n + n - 1)) (P n) (P (n + 1))) = sgn (areaS n P)) = bI (¬ sgn (tn (P (0 + n - 1)) (P 0) (P (0 + 1))) = sgn (areaS n P))
    have e0 := per 0
    have e1 := per 1
    have e2 := per (n - 1)
    rw [show 0 + n = n by omega] at e0
    rw [show 1 + n = n + 1 by omega] at e1
    rw [show n - 1 + n = n + n - 1 by omega] at e2
    rw [e0, e1, e2, show 0 + n - 1 = n - 1 by omega, show (0 : Int) + 1 = 1 by omega])]
  refine smI_congr (fun i i0 i1 => ?_)
  have e := per i
  show bI (¬ (0 < tn (P i) (P (i + 1)) (P (i + 2)) ↔ 0 < areaS n P)) = bI (¬ sgn (tn (P (i + 1 + n - 1)) (P (i + 1)) (P (i + 1 + 1))) = sgn (areaS n P))
  rw [show i + 1 + n - 1 = i + n by omega, e, show i + 1 + 1 = i + 2 by omega]
  have t : ¬ tn (P i) (P (i + 1)) (P (i + 2)) = 0 := fun g => hT ⟨i, ⟨i0, i1⟩, g⟩
  exact bI_iff (not_congr (sgn_iff t hA))
