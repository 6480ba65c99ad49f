/-! ===== corners counted from the one before or from the one behind ===== -/
theorem smI_fst (f : Int → Int) : ∀ n : Nat, sm f (n + 1) = f 0 + sm (fun i => f (i + 1)) n
  | 0 => by show sm f 0 + f ((0 : Nat) : Int) = f 0 + 0; show (0 : Int) + f 0 = f 0 + 0; omega
  | n + 1 => by
    have h := smI_fst f n
    show sm f (n + 1) + f ((n + 1 : Nat) : Int) = f 0 + (sm (fun i => f (i + 1)) n + f ((n : Int) + 1))
    rw [h, show ((n + 1 : Nat) : Int) = (n : Int) + 1 by omega]; omega
theorem smI_rot {f : Int → Int} {n : Int} (hn : 0 ≤ n) (h : f n = f 0) : smI (fun i => f (i + 1)) n = smI f n := by
  have a := smI_fst f n.toNat
  have b : sm f (n.toNat + 1) = sm f n.toNat + f (n.toNat : Int) := rfl
  rw [show ((n.toNat : Nat) : Int) = n by omega, h] at b
  unfold smI
  omega
theorem right_eq {n : Int} {P : Int → Int} (hn : 1 ≤ n) (per : ∀ i, P (i + n) = P i) : rightN n P = rightR n P := by
  unfold rightN rightR
  rw [← smI_rot (f := fun i => bI (al (P i) (P (i + n - 1)) (P (i + 1)) = 0)) (by omega) (by
    show bI (al (P n) (P (n + n - 1)) (P (n + 1)) = 0) = bI (al (P 0) (P (0 + n - 1)) (P (0 + 1)) = 0)
    have e0 := per 0
    have e1 := per 1
    have e2 := per (n - 1)
    rw [show 0 + n = n by omega] at e0
    rw [show 1 + n = n + 1 by omega] at e1
    rw [show n - 1 + n = n + n - 1 by omega] at e2
    rw [e0, e1, e2, show 0 + n - 1 = n - 1 by omega, show (0 : Int) + 1 = 1 by omega])]
  refine smI_congr (fun i i0 i1 => ?_)
  have e := per i
  show bI (al (P (i + 1)) (P i) (P (i + 2)) = 0) = bI (al (P (i + 1)) (P (i + 1 + n - 1)) (P (i + 1 + 1)) = 0)
  rw [show i + 1 + n - 1 = i + n by omega, e, show i + 1 + 1 = i + 2 by omega]
