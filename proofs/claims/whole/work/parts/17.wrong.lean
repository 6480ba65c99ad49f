/-! ===== what is wrong with a band ===== -/
noncomputable def bite (P : Prop) (a b : Int) : Int := @ite _ P (Classical.propDecidable _) a b
theorem bite_t {P : Prop} {a b : Int} (h : P) : bite P a b = a := if_pos h
theorem bite_f {P : Prop} {a b : Int} (h : ¬ P) : bite P a b = b := if_neg h
def E1 (n : Int) (P pk : Int → Int) : Prop := ∃ i, (0 ≤ i ∧ i < n) ∧ ¬ pk (P i) = 1
def E2 (n : Int) (P : Int → Int) : Prop := ∃ i j, (0 ≤ j ∧ j < i ∧ i < n) ∧ P i = P j
def E3 (n : Int) (P : Int → Int) : Prop := ∃ i, (0 ≤ i ∧ i < n) ∧ tn (P i) (P (i + 1)) (P (i + 2)) = 0
def E4 (n : Int) (P : Int → Int) : Prop := ∃ i j, (0 ≤ i ∧ i + 2 ≤ j ∧ j < n ∧ ¬ (i = 0 ∧ j = n - 1)) ∧ ¬ mt (P i) (P (i + 1)) (P j) (P (j + 1)) = 0
def E5 (n : Int) (P : Int → Int) (m x : Int) (N : Int → Int) (Q : Int → Int → Int) : Prop := ∃ o i j, (0 ≤ o ∧ o < m ∧ ¬ o = x) ∧ (0 ≤ i ∧ i < n) ∧ (0 ≤ j ∧ j < N o) ∧ ¬ mt (P i) (P (i + 1)) (Q o j) (Q o (j + 1)) = 0
noncomputable def wrA (n : Int) (P pk : Int → Int) : Int := bite (E1 n P pk) 1 (bite (E2 n P) 2 (bite (E3 n P) 3 (bite (E4 n P) 4 0)))
noncomputable def wrF (n : Int) (P pk : Int → Int) (bell m x : Int) (N : Int → Int) (Q : Int → Int → Int) : Int := bite (¬ wrA n P pk = 0) (wrA n P pk) (bite (bell = 0 ∧ E5 n P m x N Q) 5 0)
theorem wrA_1 {n : Int} {P pk : Int → Int} (h : E1 n P pk) : wrA n P pk = 1 := bite_t h
theorem wrA_2 {n : Int} {P pk : Int → Int} (h : ¬ E1 n P pk) (h2 : E2 n P) : wrA n P pk = 2 := by rw [wrA, bite_f h, bite_t h2]
theorem wrA_3 {n : Int} {P pk : Int → Int} (h : ¬ E1 n P pk) (h2 : ¬ E2 n P) (h3 : E3 n P) : wrA n P pk = 3 := by rw [wrA, bite_f h, bite_f h2, bite_t h3]
theorem wrA_4 {n : Int} {P pk : Int → Int} (h : ¬ E1 n P pk) (h2 : ¬ E2 n P) (h3 : ¬ E3 n P) (h4 : E4 n P) : wrA n P pk = 4 := by rw [wrA, bite_f h, bite_f h2, bite_f h3, bite_t h4]
theorem wrA_0 {n : Int} {P pk : Int → Int} (h : ¬ E1 n P pk) (h2 : ¬ E2 n P) (h3 : ¬ E3 n P) (h4 : ¬ E4 n P) : wrA n P pk = 0 := by rw [wrA, bite_f h, bite_f h2, bite_f h3, bite_f h4]
theorem wrA_b (n : Int) (P pk : Int → Int) : 0 ≤ wrA n P pk ∧ wrA n P pk ≤ 4 := by
  unfold wrA bite
  split
  · omega
  · split
    · omega
    · split
      · omega
      · split <;> omega
theorem wrF_n {n : Int} {P pk : Int → Int} {bell m x : Int} {N : Int → Int} {Q : Int → Int → Int} {w : Int} (h : wrA n P pk = w) (hw : ¬ w = 0) : wrF n P pk bell m x N Q = w := by rw [wrF, h, bite_t hw]
theorem wrF_5 {n : Int} {P pk : Int → Int} {bell m x : Int} {N : Int → Int} {Q : Int → Int → Int} (h : wrA n P pk = 0) (h5 : bell = 0 ∧ E5 n P m x N Q) : wrF n P pk bell m x N Q = 5 := by rw [wrF, h, bite_f (fun q => q rfl), bite_t h5]
theorem wrF_0 {n : Int} {P pk : Int → Int} {bell m x : Int} {N : Int → Int} {Q : Int → Int → Int} (h : wrA n P pk = 0) (h5 : ¬ (bell = 0 ∧ E5 n P m x N Q)) : wrF n P pk bell m x N Q = 0 := by rw [wrF, h, bite_f (fun q => q rfl), bite_f h5]
/-- a peg of a row: 1 there, 0 out, -1 no place -/
def pkR (σ : jS) (a : Nat) (p : Int) : Int := if 0 ≤ p ∧ p % 10 < σ a 0 ∧ p / 10 < σ a 1 then (if σ a (5 + p) = 0 then 1 else 0) else -1
def plc (σ : jS) (a : Nat) (x y : Int) : Int := if 0 ≤ x ∧ 0 ≤ y ∧ x < σ a 0 ∧ y < σ a 1 then 10 * y + x else -1
def cP (σ : jS) (a : Nat) (b i : Int) : Int := plc σ a (xa σ a b (i % cn σ a b)) (ya σ a b (i % cn σ a b))
theorem plc_pk {σ : jS} {a : Nat} (hH : okH σ a) {x y : Int} : pkR σ a (plc σ a x y) = 1 ↔ (0 ≤ x ∧ 0 ≤ y ∧ x < σ a 0 ∧ y < σ a 1) ∧ σ a (5 + 10 * y + x) = 0 := by
  have h0 := hH.1
  unfold plc
  split
  · rename_i h
    have e1 : (10 * y + x) % 10 = x := by omega
    have e2 : (10 * y + x) / 10 = y := by omega
    unfold pkR
    rw [e1, e2, if_pos ⟨by omega, h.2.2.1, h.2.2.2⟩, show 5 + (10 * y + x) = 5 + 10 * y + x by omega]
    constructor
    · intro q; split at q
      · exact ⟨h, by assumption⟩
      · exact absurd q (by decide)
    · intro q; rw [if_pos q.2]
  · rename_i h
    constructor
    · intro q; exact absurd q (by unfold pkR; rw [if_neg (by omega)]; decide)
    · intro q; exact absurd q.1 h
theorem tn_shift {n : Int} {P : Int → Int} (hn : 3 ≤ n) (hp : ∀ i, P (i + n) = P i) : (∃ i, (0 ≤ i ∧ i < n) ∧ tn (P (i + n - 1)) (P i) (P (i + 1)) = 0) ↔ E3 n P := by
  constructor
  · rintro ⟨i, h, e⟩
    by_cases hi : i = 0
    · subst hi
      refine ⟨n - 1, by omega, ?_⟩
      have e1 := hp 0
      have e2 := hp 1
      rw [show (0 : Int) + n - 1 = n - 1 by omega, show (0 : Int) + 1 = 1 by omega] at e
      rw [show n - 1 + 1 = 0 + n by omega, show n - 1 + 2 = 1 + n by omega, e1, e2]
      exact e
    · refine ⟨i - 1, by omega, ?_⟩
      have e1 := hp (i - 1)
      rw [show i + n - 1 = i - 1 + n by omega, e1] at e
      rw [show i - 1 + 1 = i by omega, show i - 1 + 2 = i + 1 by omega]
      exact e
  · rintro ⟨i, h, e⟩
    by_cases hi : i = n - 1
    · subst hi
      refine ⟨0, by omega, ?_⟩
      have e1 := hp 0
      have e2 := hp 1
      rw [show n - 1 + 1 = 0 + n by omega, show n - 1 + 2 = 1 + n by omega, e1, e2] at e
      rw [show (0 : Int) + n - 1 = n - 1 by omega, show (0 : Int) + 1 = 1 by omega]
      exact e
    · refine ⟨i + 1, by omega, ?_⟩
      have e1 := hp i
      rw [show i + 1 + n - 1 = i + n by omega, e1, show i + 1 + 1 = i + 2 by omega]
      exact e
theorem rP_per {σ : jS} {a : Nat} {b : Int} (i : Int) : rP σ a b (i + cn σ a b) = rP σ a b i := by
  unfold rP
  rw [Int.add_emod_right]
theorem cP_rP {σ : jS} {a : Nat} {b : Int} (hv : vB σ a b) (h : ∀ i, 0 ≤ i → i < cn σ a b → xa σ a b i < σ a 0 ∧ ya σ a b i < σ a 1) : cP σ a b = rP σ a b := by
  funext i
  have h1 := vB_i hv i
  have h2 := h (i % cn σ a b) (Int.emod_nonneg i (by have := hv.1; omega)) (Int.emod_lt_of_pos i (by have := hv.1; omega))
  unfold cP plc rP
  rw [if_pos ⟨h1.1.1, h1.2.1, h2.1, h2.2⟩]
set_option maxRecDepth 100000 in
set_option maxHeartbeats 4000000 in
theorem c_X13_wrong {σ : jS} {a N : Nat} (ha : jAr a = some (0, N)) (hN : 258 ≤ N) (hH : okH σ a) {b m : Int} (hb : cB 8 b) (hm : cB 8 m) (hn : 3 ≤ cn σ a b ∧ cn σ a b ≤ 8) (hc : ∀ i, 0 ≤ i → i < cn σ a b → (-1000 ≤ xa σ a b i ∧ xa σ a b i ≤ 1000) ∧ (-1000 ≤ ya σ a b i ∧ ya σ a b i ≤ 1000)) (hO : ∀ q, 0 ≤ q → q < m → ¬ q = b → vB σ a q) : Jp 7 miX13_wrong [.ref a, vI b, vI m] σ (vI (wrF (cn σ a b) (cP σ a b) (pkR σ a) (σ a 2) m b (cn σ a) (rP σ a))) := by
  have w1 := hH.1
  have w2 := hH.2.1
  have w3 := hH.2.2.1
  have eP : ∀ i, 0 ≤ i → i < cn σ a b → cP σ a b i = plc σ a (xa σ a b i) (ya σ a b i) := fun i g0 g1 => by unfold cP; rw [Int.emod_eq_of_lt g0 g1]
  refine jm_ofF (Po := (jP (vI (wrF (cn σ a b) (cP σ a b) (pkR σ a) (σ a 2) m b (cn σ a) (rP σ a))) σ)) (plainFor_of_name (by decide)) (Nat.le_of_ble_eq_true rfl) (lv := [(0, _), (1, _), (2, _)]) rfl ?_
  refine r_aload_n (dc dkX13_wrong 0 rfl) rfl (np 1 rfl ?_)
  refine r_iload_n (dc dkX13_wrong 1 rfl) rfl (np 2 rfl ?_)
  refine r_pS2 (y' := miX13_cornersOf) (dc dkX13_wrong 2 rfl) mlX13_203 seX13_cornersOf (Nat.le_of_ble_eq_true rfl) (Nat.le_of_ble_eq_true rfl) (c_X13_cornersOf ha hN (by omega)) (np 5 rfl ?_)
  refine r_istore_n (lv' := [(3, _), (0, _), (1, _), (2, _)]) (dc dkX13_wrong 3 rfl) (Nat.le_of_ble_eq_true rfl) rfl (np 6 rfl ?_)
  refine r_iconst (dc dkX13_wrong 4 rfl) (np 7 rfl ?_)
  refine r_istore (lv' := [(4, _), (3, _), (0, _), (1, _), (2, _)]) (dc dkX13_wrong 5 rfl) (Nat.le_of_ble_eq_true rfl) rfl (np 9 rfl ?_)
  refine r_pick [2, 3, 4, 1, 0] (lv' := [(0, _), (1, _), (2, _), (3, _), (4, _)]) rfl ?_
  refine jlp1 (P := fun (i : Int) => jR _ _ _ 9 [(0, .ref a), (1, vI b), (2, vI m), (3, vI (cn σ a b)), (4, vI i)] [] σ) (I := fun (i : Int) => 0 ≤ i ∧ i ≤ cn σ a b ∧ ∀ j, 0 ≤ j → j < i → (0 ≤ xa σ a b j ∧ 0 ≤ ya σ a b j ∧ xa σ a b j < σ a 0 ∧ ya σ a b j < σ a 1) ∧ σ a (5 + 10 * ya σ a b j + xa σ a b j) = 0) (fun (i : Int) => (cn σ a b - i).toNat) ?_ _ ⟨by omega, by omega, fun j _ _ => by omega⟩
  intro i hI9 ih9
  refine r_iload (dc dkX13_wrong 6 rfl) rfl (np 11 rfl ?_)
  refine r_iload_n (dc dkX13_wrong 7 rfl) rfl (np 12 rfl ?_)
  refine r_icmp_ge (tgt := 44) (dc dkX13_wrong 8 rfl) rfl (by first | assumption | decide | omega) (by first | assumption | decide | omega) (fun h12 => ?_) (fun h12 => (np 15 rfl ?_))
  · skip
    have n1 : ¬ E1 (cn σ a b) (cP σ a b) (pkR σ a) := fun ⟨j, g, z⟩ => z (by rw [eP j g.1 g.2]; exact (plc_pk hH).mpr (hI9.2.2 j g.1 (by omega)))
    have hv : vB σ a b := ⟨hn, fun j g0 g1 => by have := hI9.2.2 j g0 (by omega); omega⟩
    have ePr : cP σ a b = rP σ a b := cP_rP hv (fun j g0 g1 => by have := hI9.2.2 j g0 (by omega); omega)
    have rPn : ∀ j, 0 ≤ j → j < cn σ a b → rP σ a b j = 10 * ya σ a b j + xa σ a b j := fun j g0 g1 => by unfold rP; rw [Int.emod_eq_of_lt g0 g1]
    refine r_iconst (dc dkX13_wrong 24 rfl) (np 45 rfl ?_)
    refine r_istore (lv' := [(4, _), (0, _), (1, _), (2, _), (3, _)]) (dc dkX13_wrong 25 rfl) (Nat.le_of_ble_eq_true rfl) rfl (np 47 rfl ?_)
    refine r_pick [1, 2, 3, 4, 0] (lv' := [(0, _), (1, _), (2, _), (3, _), (4, _)]) rfl ?_
    refine jlp1 (P := fun (i : Int) => jR _ _ _ 47 [(0, .ref a), (1, vI b), (2, vI m), (3, vI (cn σ a b)), (4, vI i)] [] σ) (I := fun (i : Int) => 0 ≤ i ∧ i ≤ cn σ a b ∧ ∀ z j, 0 ≤ j → j < z → z < i → ¬ cP σ a b z = cP σ a b j) (fun (i : Int) => (cn σ a b - i).toNat) ?_ _ ⟨by omega, by omega, fun z j _ _ _ => by omega⟩
    intro i hI47 ih47
    refine r_iload (dc dkX13_wrong 26 rfl) rfl (np 49 rfl ?_)
    refine r_iload_n (dc dkX13_wrong 27 rfl) rfl (np 50 rfl ?_)
    refine r_icmp_ge (tgt := 111) (dc dkX13_wrong 28 rfl) rfl (by first | assumption | decide | omega) (by first | assumption | decide | omega) (fun h50 => ?_) (fun h50 => (np 53 rfl ?_))
    · skip
      have n2 : ¬ E2 (cn σ a b) (cP σ a b) := fun ⟨z, q, g, e⟩ => hI47.2.2 z q g.1 g.2.1 (by omega) e
      refine r_iconst (dc dkX13_wrong 58 rfl) (np 112 rfl ?_)
      refine r_istore (lv' := [(4, _), (0, _), (1, _), (2, _), (3, _)]) (dc dkX13_wrong 59 rfl) (Nat.le_of_ble_eq_true rfl) rfl (np 114 rfl ?_)
      refine r_pick [1, 2, 3, 4, 0] (lv' := [(0, _), (1, _), (2, _), (3, _), (4, _)]) rfl ?_
      refine jlp1 (P := fun (i : Int) => jR _ _ _ 114 [(0, .ref a), (1, vI b), (2, vI m), (3, vI (cn σ a b)), (4, vI i)] [] σ) (I := fun (i : Int) => 0 ≤ i ∧ i ≤ cn σ a b ∧ ∀ j, 0 ≤ j → j < i → ¬ tn (rP σ a b (j + cn σ a b - 1)) (rP σ a b j) (rP σ a b (j + 1)) = 0) (fun (i : Int) => (cn σ a b - i).toNat) ?_ _ ⟨by omega, by omega, fun j _ _ => by omega⟩
      intro i hI114 ih114
      refine r_iload (dc dkX13_wrong 60 rfl) rfl (np 116 rfl ?_)
      refine r_iload_n (dc dkX13_wrong 61 rfl) rfl (np 117 rfl ?_)
      refine r_icmp_ge (tgt := 138) (dc dkX13_wrong 62 rfl) rfl (by first | assumption | decide | omega) (by first | assumption | decide | omega) (fun h117 => ?_) (fun h117 => (np 120 rfl ?_))
      · skip
        have n3 : ¬ E3 (cn σ a b) (cP σ a b) := by rw [ePr, ← tn_shift hn.1 rP_per]; exact fun ⟨j, g, e⟩ => hI114.2.2 j g.1 (by omega) e
        refine r_iconst (dc dkX13_wrong 72 rfl) (np 139 rfl ?_)
        refine r_istore (lv' := [(4, _), (0, _), (1, _), (2, _), (3, _)]) (dc dkX13_wrong 73 rfl) (Nat.le_of_ble_eq_true rfl) rfl (np 141 rfl ?_)
        refine r_pick [1, 2, 3, 4, 0] (lv' := [(0, _), (1, _), (2, _), (3, _), (4, _)]) rfl ?_
        refine jlp1 (P := fun (i : Int) => jR _ _ _ 141 [(0, .ref a), (1, vI b), (2, vI m), (3, vI (cn σ a b)), (4, vI i)] [] σ) (I := fun (i : Int) => 0 ≤ i ∧ i ≤ cn σ a b ∧ ∀ z j, 0 ≤ z → z < i → z + 2 ≤ j → j < cn σ a b → ¬ (z = 0 ∧ j = cn σ a b - 1) → mt (rP σ a b z) (rP σ a b (z + 1)) (rP σ a b j) (rP σ a b (j + 1)) = 0) (fun (i : Int) => (cn σ a b - i).toNat) ?_ _ ⟨by omega, by omega, fun z j _ _ => by omega⟩
        intro i hI141 ih141
        refine r_iload (dc dkX13_wrong 74 rfl) rfl (np 143 rfl ?_)
        refine r_iload_n (dc dkX13_wrong 75 rfl) rfl (np 144 rfl ?_)
        refine r_icmp_ge (tgt := 199) (dc dkX13_wrong 76 rfl) rfl (by first | assumption | decide | omega) (by first | assumption | decide | omega) (fun h144 => ?_) (fun h144 => (np 147 rfl ?_))
        · skip
          have n4 : ¬ E4 (cn σ a b) (cP σ a b) := by rw [ePr]; exact fun ⟨z, q, g, e⟩ => e (hI141.2.2 z q g.1 (by omega) g.2.1 g.2.2.1 g.2.2.2)
          refine r_iconst (dc dkX13_wrong 104 rfl) (np 200 rfl ?_)
          refine r_istore (lv' := [(4, _), (0, _), (1, _), (2, _), (3, _)]) (dc dkX13_wrong 105 rfl) (Nat.le_of_ble_eq_true rfl) rfl (np 202 rfl ?_)
          refine r_pick [1, 2, 3, 4, 0] (lv' := [(0, _), (1, _), (2, _), (3, _), (4, _)]) rfl ?_
          refine jlp1 (P := fun (q : Int) => jR _ _ _ 202 [(0, .ref a), (1, vI b), (2, vI m), (3, vI (cn σ a b)), (4, vI q)] [] σ) (I := fun (q : Int) => 0 ≤ q ∧ q ≤ m ∧ ∀ z i j, 0 ≤ z → z < q → ¬ z = b → (0 ≤ i ∧ i < cn σ a b) → (0 ≤ j ∧ j < cn σ a z) → ¬ 0 < mt (rP σ a b i) (rP σ a b (i + 1)) (rP σ a z j) (rP σ a z (j + 1))) (fun (q : Int) => (m - q).toNat) ?_ _ ⟨by omega, by omega, fun z i j _ _ => by omega⟩
          intro q hI202 ih202
          refine r_iload (dc dkX13_wrong 106 rfl) rfl (np 204 rfl ?_)
          refine r_iload_n (dc dkX13_wrong 107 rfl) rfl (np 205 rfl ?_)
          refine r_icmp_ge (tgt := 238) (dc dkX13_wrong 108 rfl) rfl (by first | assumption | decide | omega) (by first | assumption | decide | omega) (fun h205 => ?_) (fun h205 => (np 208 rfl ?_))
          · skip
            refine r_iconst (dc dkX13_wrong 125 rfl) (np 239 rfl ?_)
            exact r_iret (dc dkX13_wrong 126 rfl) rfl ⟨congrArg (fun z => some (vI z)) ((wrF_0 (wrA_0 n1 n2 n3 n4) (fun ⟨z0, z, i, j, g0, g1, g2, g3⟩ => by rw [ePr] at g3; first | omega | (have := mt_b (rP σ a b i) (rP σ a b (i + 1)) (rP σ a z j) (rP σ a z (j + 1)); have := hI202.2.2 z i j g0.1 (by omega) g0.2.2 g1 g2; omega))).symm), rfl⟩
          refine r_aload_n (dc dkX13_wrong 109 rfl) rfl (np 209 rfl ?_)
          refine r_iconst (dc dkX13_wrong 110 rfl) (np 210 rfl ?_)
          refine r_iald (dc dkX13_wrong 111 rfl) ha (by omega) (np 211 rfl ?_)
          refine r_if_ne (tgt := 238) (dc dkX13_wrong 112 rfl) rfl (by first | assumption | decide | omega) (fun h211 => ?_) (fun h211 => (np 214 rfl ?_))
          · skip
            refine r_iconst (dc dkX13_wrong 125 rfl) (np 239 rfl ?_)
            exact r_iret (dc dkX13_wrong 126 rfl) rfl ⟨congrArg (fun z => some (vI z)) ((wrF_0 (wrA_0 n1 n2 n3 n4) (fun ⟨z0, z, i, j, g0, g1, g2, g3⟩ => by rw [ePr] at g3; first | omega | (have := mt_b (rP σ a b i) (rP σ a b (i + 1)) (rP σ a z j) (rP σ a z (j + 1)); have := hI202.2.2 z i j g0.1 (by omega) g0.2.2 g1 g2; omega))).symm), rfl⟩
          refine r_iload (dc dkX13_wrong 113 rfl) rfl (np 216 rfl ?_)
          refine r_iload_n (dc dkX13_wrong 114 rfl) rfl (np 217 rfl ?_)
          refine r_icmp_eq (tgt := 232) (dc dkX13_wrong 115 rfl) rfl (by first | assumption | decide | omega) (by first | assumption | decide | omega) (fun h217 => ?_) (fun h217 => (np 220 rfl ?_))
          · skip
            refine r_iinc (lv' := [(4, _), (0, _), (1, _), (2, _), (3, _)]) (dc dkX13_wrong 123 rfl) (Nat.le_of_ble_eq_true rfl) rfl rfl (np 235 rfl ?_)
            refine r_goto (tgt := 202) (dc dkX13_wrong 124 rfl) rfl ?_
            refine r_pick [1, 2, 3, 4, 0] rfl ?_
            exact ih202 _ ⟨by omega, by omega, fun z i j g0 g1 g2 g3 g4 => by rcases (show z < q ∨ z = q by omega) with r | r; exact hI202.2.2 z i j g0 r g2 g3 g4; subst r; first | omega | exact fun t => h227 ⟨i, j, g3, g4, t⟩⟩ (by omega)
          have hw := hO q (by omega) (by omega) (by omega)
          refine r_aload_n (dc dkX13_wrong 116 rfl) rfl (np 221 rfl ?_)
          refine r_iload_n (dc dkX13_wrong 117 rfl) rfl (np 222 rfl ?_)
          refine r_iload (dc dkX13_wrong 118 rfl) rfl (np 224 rfl ?_)
          refine r_pS3 (y' := miX13_meetsOther) (dc dkX13_wrong 119 rfl) mlX13_232 seX13_meetsOther (Nat.le_of_ble_eq_true rfl) (Nat.le_of_ble_eq_true rfl) (c_X13_meetsOther ha hN (by omega) (by omega) (by assumption) (by assumption)) (np 227 rfl ?_)
          refine r_bz (tgt := 232) (dc dkX13_wrong 120 rfl) rfl (fun h227 => ?_) (fun h227 => (np 230 rfl ?_))
          · skip
            refine r_iinc (lv' := [(4, _), (0, _), (1, _), (2, _), (3, _)]) (dc dkX13_wrong 123 rfl) (Nat.le_of_ble_eq_true rfl) rfl rfl (np 235 rfl ?_)
            refine r_goto (tgt := 202) (dc dkX13_wrong 124 rfl) rfl ?_
            refine r_pick [1, 2, 3, 4, 0] rfl ?_
            exact ih202 _ ⟨by omega, by omega, fun z i j g0 g1 g2 g3 g4 => by rcases (show z < q ∨ z = q by omega) with r | r; exact hI202.2.2 z i j g0 r g2 g3 g4; subst r; first | omega | exact fun t => h227 ⟨i, j, g3, g4, t⟩⟩ (by omega)
          refine r_iconst (dc dkX13_wrong 121 rfl) (np 231 rfl ?_)
          exact r_iret (dc dkX13_wrong 122 rfl) rfl ⟨congrArg (fun z => some (vI z)) ((wrF_5 (wrA_0 n1 n2 n3 n4) ⟨by omega, by rw [ePr]; obtain ⟨i, j, g1, g2, g3⟩ := h227; exact ⟨q, i, j, by omega, g1, g2, by omega⟩⟩).symm), rfl⟩
        refine r_iload (dc dkX13_wrong 77 rfl) rfl (np 149 rfl ?_)
        refine r_iconst (dc dkX13_wrong 78 rfl) (np 150 rfl ?_)
        refine r_iadd (dc dkX13_wrong 79 rfl) (np 151 rfl ?_)
        refine r_istore (lv' := [(5, _), (0, _), (1, _), (2, _), (3, _), (4, _)]) (dc dkX13_wrong 80 rfl) (Nat.le_of_ble_eq_true rfl) rfl (np 153 rfl ?_)
        refine r_pick [1, 2, 3, 4, 5, 0] (lv' := [(0, _), (1, _), (2, _), (3, _), (4, _), (5, _)]) rfl ?_
        refine jlp1 (P := fun (j : Int) => jR _ _ _ 153 [(0, .ref a), (1, vI b), (2, vI m), (3, vI (cn σ a b)), (4, vI i), (5, vI j)] [] σ) (I := fun (j : Int) => i + 2 ≤ j ∧ (j ≤ cn σ a b ∨ j = i + 2) ∧ ∀ q, i + 2 ≤ q → q < j → ¬ (i = 0 ∧ q = cn σ a b - 1) → mt (rP σ a b i) (rP σ a b (i + 1)) (rP σ a b q) (rP σ a b (q + 1)) = 0) (fun (j : Int) => (cn σ a b - j).toNat) ?_ _ ⟨by omega, by omega, fun q _ _ => by omega⟩
        intro j hI153 ih153
        refine r_iload (dc dkX13_wrong 81 rfl) rfl (np 155 rfl ?_)
        refine r_iload_n (dc dkX13_wrong 82 rfl) rfl (np 156 rfl ?_)
        refine r_icmp_ge (tgt := 193) (dc dkX13_wrong 83 rfl) rfl (by first | assumption | decide | omega) (by first | assumption | decide | omega) (fun h156 => ?_) (fun h156 => (np 159 rfl ?_))
        · skip
          refine r_iinc (lv' := [(4, _), (0, _), (1, _), (2, _), (3, _), (5, _)]) (dc dkX13_wrong 102 rfl) (Nat.le_of_ble_eq_true rfl) rfl rfl (np 196 rfl ?_)
          refine r_goto (tgt := 141) (dc dkX13_wrong 103 rfl) rfl ?_
          refine r_pick [1, 2, 3, 4, 0] rfl ?_
          exact ih141 _ ⟨by omega, by omega, fun z q g0 g1 g2 g3 g4 => by rcases (show z < i ∨ z = i by omega) with r | r; exact hI141.2.2 z q g0 r g2 g3 g4; subst r; exact hI153.2.2 q g2 (by omega) g4⟩ (by omega)
        refine r_iload (dc dkX13_wrong 84 rfl) rfl (np 161 rfl ?_)
        refine r_if_gt (tgt := 172) (dc dkX13_wrong 85 rfl) rfl (by first | assumption | decide | omega) (fun h161 => ?_) (fun h161 => (np 164 rfl ?_))
        · skip
          refine r_aload_n (dc dkX13_wrong 91 rfl) rfl (np 173 rfl ?_)
          refine r_iload_n (dc dkX13_wrong 92 rfl) rfl (np 174 rfl ?_)
          refine r_iload (dc dkX13_wrong 93 rfl) rfl (np 176 rfl ?_)
          refine r_iload_n (dc dkX13_wrong 94 rfl) rfl (np 177 rfl ?_)
          refine r_iload (dc dkX13_wrong 95 rfl) rfl (np 179 rfl ?_)
          refine r_pS5 (y' := miX13_meetSides) (dc dkX13_wrong 96 rfl) mlX13_222 seX13_meetSides (Nat.le_of_ble_eq_true rfl) (Nat.le_of_ble_eq_true rfl) (c_X13_meetSides ha hN (by omega) (by omega) (by assumption) (by assumption) (by omega) (by omega)) (np 182 rfl ?_)
          refine r_if_le (tgt := 187) (dc dkX13_wrong 97 rfl) rfl (by have := mt_b (rP σ a b i) (rP σ a b (i + 1)) (rP σ a b j) (rP σ a b (j + 1)); omega) (fun h182 => ?_) (fun h182 => (np 185 rfl ?_))
          · skip
            refine r_iinc (lv' := [(5, _), (0, _), (1, _), (2, _), (3, _), (4, _)]) (dc dkX13_wrong 100 rfl) (Nat.le_of_ble_eq_true rfl) rfl rfl (np 190 rfl ?_)
            refine r_goto (tgt := 153) (dc dkX13_wrong 101 rfl) rfl ?_
            refine r_pick [1, 2, 3, 4, 5, 0] rfl ?_
            exact ih153 _ ⟨by omega, by omega, fun q g0 g1 g2 => by rcases (show q < j ∨ q = j by omega) with r | r; exact hI153.2.2 q g0 r g2; subst r; have := mt_b (rP σ a b i) (rP σ a b (i + 1)) (rP σ a b q) (rP σ a b (q + 1)); omega⟩ (by omega)
          refine r_iconst (dc dkX13_wrong 98 rfl) (np 186 rfl ?_)
          exact r_iret (dc dkX13_wrong 99 rfl) rfl ⟨congrArg (fun z => some (vI z)) ((wrF_n (wrA_4 n1 n2 n3 (by rw [ePr]; exact ⟨i, j, by omega, by omega⟩)) (by decide)).symm), rfl⟩
        refine r_iload (dc dkX13_wrong 86 rfl) rfl (np 166 rfl ?_)
        refine r_iload_n (dc dkX13_wrong 87 rfl) rfl (np 167 rfl ?_)
        refine r_iconst (dc dkX13_wrong 88 rfl) (np 168 rfl ?_)
        refine r_isub (dc dkX13_wrong 89 rfl) (np 169 rfl ?_)
        refine r_icmp_ge (tgt := 187) (dc dkX13_wrong 90 rfl) rfl (by first | assumption | decide | omega) (by first | assumption | decide | omega) (fun h169 => ?_) (fun h169 => (np 172 rfl ?_))
        · skip
          refine r_iinc (lv' := [(5, _), (0, _), (1, _), (2, _), (3, _), (4, _)]) (dc dkX13_wrong 100 rfl) (Nat.le_of_ble_eq_true rfl) rfl rfl (np 190 rfl ?_)
          refine r_goto (tgt := 153) (dc dkX13_wrong 101 rfl) rfl ?_
          refine r_pick [1, 2, 3, 4, 5, 0] rfl ?_
          exact ih153 _ ⟨by omega, by omega, fun q g0 g1 g2 => by rcases (show q < j ∨ q = j by omega) with r | r; exact hI153.2.2 q g0 r g2; subst r; have := mt_b (rP σ a b i) (rP σ a b (i + 1)) (rP σ a b q) (rP σ a b (q + 1)); omega⟩ (by omega)
        refine r_aload_n (dc dkX13_wrong 91 rfl) rfl (np 173 rfl ?_)
        refine r_iload_n (dc dkX13_wrong 92 rfl) rfl (np 174 rfl ?_)
        refine r_iload (dc dkX13_wrong 93 rfl) rfl (np 176 rfl ?_)
        refine r_iload_n (dc dkX13_wrong 94 rfl) rfl (np 177 rfl ?_)
        refine r_iload (dc dkX13_wrong 95 rfl) rfl (np 179 rfl ?_)
        refine r_pS5 (y' := miX13_meetSides) (dc dkX13_wrong 96 rfl) mlX13_222 seX13_meetSides (Nat.le_of_ble_eq_true rfl) (Nat.le_of_ble_eq_true rfl) (c_X13_meetSides ha hN (by omega) (by omega) (by assumption) (by assumption) (by omega) (by omega)) (np 182 rfl ?_)
        refine r_if_le (tgt := 187) (dc dkX13_wrong 97 rfl) rfl (by have := mt_b (rP σ a b i) (rP σ a b (i + 1)) (rP σ a b j) (rP σ a b (j + 1)); omega) (fun h182 => ?_) (fun h182 => (np 185 rfl ?_))
        · skip
          refine r_iinc (lv' := [(5, _), (0, _), (1, _), (2, _), (3, _), (4, _)]) (dc dkX13_wrong 100 rfl) (Nat.le_of_ble_eq_true rfl) rfl rfl (np 190 rfl ?_)
          refine r_goto (tgt := 153) (dc dkX13_wrong 101 rfl) rfl ?_
          refine r_pick [1, 2, 3, 4, 5, 0] rfl ?_
          exact ih153 _ ⟨by omega, by omega, fun q g0 g1 g2 => by rcases (show q < j ∨ q = j by omega) with r | r; exact hI153.2.2 q g0 r g2; subst r; have := mt_b (rP σ a b i) (rP σ a b (i + 1)) (rP σ a b q) (rP σ a b (q + 1)); omega⟩ (by omega)
        refine r_iconst (dc dkX13_wrong 98 rfl) (np 186 rfl ?_)
        exact r_iret (dc dkX13_wrong 99 rfl) rfl ⟨congrArg (fun z => some (vI z)) ((wrF_n (wrA_4 n1 n2 n3 (by rw [ePr]; exact ⟨i, j, by omega, by omega⟩)) (by decide)).symm), rfl⟩
      refine r_aload_n (dc dkX13_wrong 63 rfl) rfl (np 121 rfl ?_)
      refine r_iload_n (dc dkX13_wrong 64 rfl) rfl (np 122 rfl ?_)
      refine r_iload (dc dkX13_wrong 65 rfl) rfl (np 124 rfl ?_)
      refine r_pS3 (y' := miX13_turnAt) (dc dkX13_wrong 66 rfl) mlX13_229 seX13_turnAt (Nat.le_of_ble_eq_true rfl) (Nat.le_of_ble_eq_true rfl) (c_X13_turnAt ha hN (by omega) (by assumption) (by omega)) (np 127 rfl ?_)
      refine r_if_ne (tgt := 132) (dc dkX13_wrong 67 rfl) rfl (by have := sgn_b (tn (rP σ a b (i + cn σ a b - 1)) (rP σ a b i) (rP σ a b (i + 1))); omega) (fun h127 => ?_) (fun h127 => (np 130 rfl ?_))
      · skip
        refine r_iinc (lv' := [(4, _), (0, _), (1, _), (2, _), (3, _)]) (dc dkX13_wrong 70 rfl) (Nat.le_of_ble_eq_true rfl) rfl rfl (np 135 rfl ?_)
        refine r_goto (tgt := 114) (dc dkX13_wrong 71 rfl) rfl ?_
        refine r_pick [1, 2, 3, 4, 0] rfl ?_
        exact ih114 _ ⟨by omega, by omega, fun j g0 g1 => by rcases (show j < i ∨ j = i by omega) with r | r; exact hI114.2.2 j g0 r; subst r; exact fun q => h127 (sgn_0.mpr q)⟩ (by omega)
      refine r_iconst (dc dkX13_wrong 68 rfl) (np 131 rfl ?_)
      exact r_iret (dc dkX13_wrong 69 rfl) rfl ⟨congrArg (fun z => some (vI z)) ((wrF_n (wrA_3 n1 n2 (by rw [ePr, ← tn_shift hn.1 rP_per]; exact ⟨i, by omega, sgn_0.mp h127⟩)) (by decide)).symm), rfl⟩
    refine r_iconst (dc dkX13_wrong 29 rfl) (np 54 rfl ?_)
    refine r_istore (lv' := [(5, _), (0, _), (1, _), (2, _), (3, _), (4, _)]) (dc dkX13_wrong 30 rfl) (Nat.le_of_ble_eq_true rfl) rfl (np 56 rfl ?_)
    refine r_pick [1, 2, 3, 4, 5, 0] (lv' := [(0, _), (1, _), (2, _), (3, _), (4, _), (5, _)]) rfl ?_
    refine jlp1 (P := fun (j : Int) => jR _ _ _ 56 [(0, .ref a), (1, vI b), (2, vI m), (3, vI (cn σ a b)), (4, vI i), (5, vI j)] [] σ) (I := fun (j : Int) => 0 ≤ j ∧ j ≤ i ∧ ∀ q, 0 ≤ q → q < j → ¬ cP σ a b i = cP σ a b q) (fun (j : Int) => (i - j).toNat) ?_ _ ⟨by omega, by omega, fun q _ _ => by omega⟩
    intro j hI56 ih56
    refine r_iload (dc dkX13_wrong 31 rfl) rfl (np 58 rfl ?_)
    refine r_iload (dc dkX13_wrong 32 rfl) rfl (np 60 rfl ?_)
    refine r_icmp_ge (tgt := 105) (dc dkX13_wrong 33 rfl) rfl (by first | assumption | decide | omega) (by first | assumption | decide | omega) (fun h60 => ?_) (fun h60 => (np 63 rfl ?_))
    · skip
      refine r_iinc (lv' := [(4, _), (0, _), (1, _), (2, _), (3, _), (5, _)]) (dc dkX13_wrong 56 rfl) (Nat.le_of_ble_eq_true rfl) rfl rfl (np 108 rfl ?_)
      refine r_goto (tgt := 47) (dc dkX13_wrong 57 rfl) rfl ?_
      refine r_pick [1, 2, 3, 4, 0] rfl ?_
      exact ih47 _ ⟨by omega, by omega, fun z q g0 g1 g2 => by rcases (show z < i ∨ z = i by omega) with r | r; exact hI47.2.2 z q g0 g1 r; subst r; exact hI56.2.2 q g0 (by omega)⟩ (by omega)
    have hx1 := hv.2 i (by omega) (by omega)
    have hx2 := hv.2 j (by omega) (by omega)
    refine r_aload_n (dc dkX13_wrong 34 rfl) rfl (np 64 rfl ?_)
    refine r_iload_n (dc dkX13_wrong 35 rfl) rfl (np 65 rfl ?_)
    refine r_iload (dc dkX13_wrong 36 rfl) rfl (np 67 rfl ?_)
    refine r_pS3 (y' := miX13_xOf) (dc dkX13_wrong 37 rfl) mlX13_207 seX13_xOf (Nat.le_of_ble_eq_true rfl) (Nat.le_of_ble_eq_true rfl) (c_X13_xOf ha hN (by omega) (by omega)) (np 70 rfl ?_)
    refine r_aload_n (dc dkX13_wrong 38 rfl) rfl (np 71 rfl ?_)
    refine r_iload_n (dc dkX13_wrong 39 rfl) rfl (np 72 rfl ?_)
    refine r_iload (dc dkX13_wrong 40 rfl) rfl (np 74 rfl ?_)
    refine r_pS3 (y' := miX13_xOf) (dc dkX13_wrong 41 rfl) mlX13_207 seX13_xOf (Nat.le_of_ble_eq_true rfl) (Nat.le_of_ble_eq_true rfl) (c_X13_xOf ha hN (by omega) (by omega)) (np 77 rfl ?_)
    refine r_icmp_ne (tgt := 99) (dc dkX13_wrong 42 rfl) rfl (by first | assumption | decide | omega) (by first | assumption | decide | omega) (fun h77 => ?_) (fun h77 => (np 80 rfl ?_))
    · skip
      refine r_iinc (lv' := [(5, _), (0, _), (1, _), (2, _), (3, _), (4, _)]) (dc dkX13_wrong 54 rfl) (Nat.le_of_ble_eq_true rfl) rfl rfl (np 102 rfl ?_)
      refine r_goto (tgt := 56) (dc dkX13_wrong 55 rfl) rfl ?_
      refine r_pick [1, 2, 3, 4, 5, 0] rfl ?_
      exact ih56 _ ⟨by omega, by omega, fun q g0 g1 => by rcases (show q < j ∨ q = j by omega) with r | r; exact hI56.2.2 q g0 r; subst r; rw [ePr, rPn i (by omega) (by omega), rPn q (by omega) (by omega)]; omega⟩ (by omega)
    refine r_aload_n (dc dkX13_wrong 43 rfl) rfl (np 81 rfl ?_)
    refine r_iload_n (dc dkX13_wrong 44 rfl) rfl (np 82 rfl ?_)
    refine r_iload (dc dkX13_wrong 45 rfl) rfl (np 84 rfl ?_)
    refine r_pS3 (y' := miX13_yOf) (dc dkX13_wrong 46 rfl) mlX13_211 seX13_yOf (Nat.le_of_ble_eq_true rfl) (Nat.le_of_ble_eq_true rfl) (c_X13_yOf ha hN (by omega) (by omega)) (np 87 rfl ?_)
    refine r_aload_n (dc dkX13_wrong 47 rfl) rfl (np 88 rfl ?_)
    refine r_iload_n (dc dkX13_wrong 48 rfl) rfl (np 89 rfl ?_)
    refine r_iload (dc dkX13_wrong 49 rfl) rfl (np 91 rfl ?_)
    refine r_pS3 (y' := miX13_yOf) (dc dkX13_wrong 50 rfl) mlX13_211 seX13_yOf (Nat.le_of_ble_eq_true rfl) (Nat.le_of_ble_eq_true rfl) (c_X13_yOf ha hN (by omega) (by omega)) (np 94 rfl ?_)
    refine r_icmp_ne (tgt := 99) (dc dkX13_wrong 51 rfl) rfl (by first | assumption | decide | omega) (by first | assumption | decide | omega) (fun h94 => ?_) (fun h94 => (np 97 rfl ?_))
    · skip
      refine r_iinc (lv' := [(5, _), (0, _), (1, _), (2, _), (3, _), (4, _)]) (dc dkX13_wrong 54 rfl) (Nat.le_of_ble_eq_true rfl) rfl rfl (np 102 rfl ?_)
      refine r_goto (tgt := 56) (dc dkX13_wrong 55 rfl) rfl ?_
      refine r_pick [1, 2, 3, 4, 5, 0] rfl ?_
      exact ih56 _ ⟨by omega, by omega, fun q g0 g1 => by rcases (show q < j ∨ q = j by omega) with r | r; exact hI56.2.2 q g0 r; subst r; rw [ePr, rPn i (by omega) (by omega), rPn q (by omega) (by omega)]; omega⟩ (by omega)
    refine r_iconst (dc dkX13_wrong 52 rfl) (np 98 rfl ?_)
    exact r_iret (dc dkX13_wrong 53 rfl) rfl ⟨congrArg (fun z => some (vI z)) ((wrF_n (wrA_2 n1 ⟨i, j, by omega, by rw [ePr, rPn i (by omega) (by omega), rPn j (by omega) (by omega)]; omega⟩) (by decide)).symm), rfl⟩
  have hxy := hc i (by omega) (by omega)
  refine r_aload_n (dc dkX13_wrong 9 rfl) rfl (np 16 rfl ?_)
  refine r_aload_n (dc dkX13_wrong 10 rfl) rfl (np 17 rfl ?_)
  refine r_iload_n (dc dkX13_wrong 11 rfl) rfl (np 18 rfl ?_)
  refine r_iload (dc dkX13_wrong 12 rfl) rfl (np 20 rfl ?_)
  refine r_pS3 (y' := miX13_xOf) (dc dkX13_wrong 13 rfl) mlX13_207 seX13_xOf (Nat.le_of_ble_eq_true rfl) (Nat.le_of_ble_eq_true rfl) (c_X13_xOf ha hN (by omega) (by omega)) (np 23 rfl ?_)
  refine r_aload_n (dc dkX13_wrong 14 rfl) rfl (np 24 rfl ?_)
  refine r_iload_n (dc dkX13_wrong 15 rfl) rfl (np 25 rfl ?_)
  refine r_iload (dc dkX13_wrong 16 rfl) rfl (np 27 rfl ?_)
  refine r_pS3 (y' := miX13_yOf) (dc dkX13_wrong 17 rfl) mlX13_211 seX13_yOf (Nat.le_of_ble_eq_true rfl) (Nat.le_of_ble_eq_true rfl) (c_X13_yOf ha hN (by omega) (by omega)) (np 30 rfl ?_)
  refine r_pS3 (y' := miX13_isPeg) (dc dkX13_wrong 18 rfl) mlX13_226 seX13_isPeg (Nat.le_of_ble_eq_true rfl) (Nat.le_of_ble_eq_true rfl) (c_X13_isPeg ha hN (by assumption) (by omega) (by omega)) (np 33 rfl ?_)
  refine r_bn (tgt := 38) (dc dkX13_wrong 19 rfl) rfl (fun h33 => ?_) (fun h33 => (np 36 rfl ?_))
  · skip
    refine r_iinc (lv' := [(4, _), (0, _), (1, _), (2, _), (3, _)]) (dc dkX13_wrong 22 rfl) (Nat.le_of_ble_eq_true rfl) rfl rfl (np 41 rfl ?_)
    refine r_goto (tgt := 9) (dc dkX13_wrong 23 rfl) rfl ?_
    refine r_pick [1, 2, 3, 4, 0] rfl ?_
    exact ih9 _ ⟨by omega, by omega, fun j g0 g1 => by rcases (show j < i ∨ j = i by omega) with r | r; exact hI9.2.2 j g0 r; subst r; exact h33⟩ (by omega)
  refine r_iconst (dc dkX13_wrong 20 rfl) (np 37 rfl ?_)
  exact r_iret (dc dkX13_wrong 21 rfl) rfl ⟨congrArg (fun z => some (vI z)) ((wrF_n (wrA_1 ⟨i, by omega, fun z => h33 ((plc_pk hH).mp (by rw [← eP i (by omega) (by omega)]; exact z))⟩) (by decide)).symm), rfl⟩
