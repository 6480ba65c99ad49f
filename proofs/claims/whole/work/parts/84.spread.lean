/-- one move on from the marked threes that come ahead of (r, q, p) -/
def spA (w h : Int) (pk : Int → Int) (E : Int → Prop) (B : Int → Int → Int → Prop) (n : Int) : Prop := ∃ p q r, (0 ≤ p ∧ p < q ∧ q < r ∧ r < w * h) ∧ B p q r ∧ E (c3 r + c2 q + p) ∧ (mvA w h pk p q r n ∨ mvA w h pk q p r n ∨ mvA w h pk r p q n)
theorem nbr_4 {w h : Int} {pk : Int → Int} {p q r n : Int} : (((((0 < p % w) ∧ okr w h pk (p - 1) q r ∧ n = nm3 (p - 1) q r) ∨ ((p % w < w - 1) ∧ okr w h pk (p + 1) q r ∧ n = nm3 (p + 1) q r)) ∨ (okr w h pk (p - w) q r ∧ n = nm3 (p - w) q r)) ∨ (okr w h pk (p + w) q r ∧ n = nm3 (p + w) q r)) ↔ mvA w h pk p q r n := by
  constructor
  · rintro (((⟨a, b, c⟩ | ⟨a, b, c⟩) | ⟨b, c⟩) | ⟨b, c⟩)
    · exact ⟨p - 1, ⟨Or.inl ⟨rfl, a⟩, b.1, b.2.1⟩, b.2.2, c⟩
    · exact ⟨p + 1, ⟨Or.inr (Or.inl ⟨rfl, a⟩), b.1, b.2.1⟩, b.2.2, c⟩
    · exact ⟨p - w, ⟨Or.inr (Or.inr (Or.inl rfl)), b.1, b.2.1⟩, b.2.2, c⟩
    · exact ⟨p + w, ⟨Or.inr (Or.inr (Or.inr rfl)), b.1, b.2.1⟩, b.2.2, c⟩
  · rintro ⟨p', ⟨d, b, e⟩, t, c⟩
    rcases d with ⟨rfl, a⟩ | ⟨rfl, a⟩ | rfl | rfl
    · exact Or.inl (Or.inl (Or.inl ⟨a, ⟨b, e, t⟩, c⟩))
    · exact Or.inl (Or.inl (Or.inr ⟨a, ⟨b, e, t⟩, c⟩))
    · exact Or.inl (Or.inr ⟨⟨b, e, t⟩, c⟩)
    · exact Or.inr ⟨⟨b, e, t⟩, c⟩
theorem SA_e {σ τ : jS} {S0 A : Int → Prop} (h : SA σ S0 A) (e1 : τ 18 = σ 18) (e2 : τ 20 = σ 20) : SA τ S0 A := by
  unfold SA
  rw [e1, e2]; exact h
theorem vL_nrm (z : Int) : vL z = vL ((Int64.ofInt z).toInt) := by unfold vL; rw [Int64.ofInt_toInt]
theorem r_nrmL {d : Nat} {y : jMI} {Po : Option Value → jS → Prop} {pc : Nat} {lv : List (Nat × Value)} {st : List Value} {σ : jS} {a : Int} (K : jR d y Po pc lv (vL ((Int64.ofInt a).toInt) :: st) σ) : jR d y Po pc lv (vL a :: st) σ := by rw [vL_nrm]; exact K
theorem lR_of (x : Int64) : lR x.toInt := ⟨by have := x.le_toInt; omega, by have := x.toInt_lt; omega⟩
theorem jcmp_00 {a : Int} : jcmp a 0 = 0 ↔ a = 0 := by
  unfold jcmp
  split
  · omega
  · split <;> omega
theorem bt_ex {z : Int} : (Int64.ofInt z).toInt = 0 ↔ ∀ j, 0 ≤ j → j < 64 → ¬ bt z j := by
  constructor
  · intro h j _ _ hb
    unfold bt at hb
    have e : (Int64.ofInt z) = 0 := by rw [← Int64.toInt_inj, h]; rfl
    rw [e] at hb
    simp at hb
  · intro h
    have e : (Int64.ofInt z).toBitVec = 0#64 := by
      apply BitVec.eq_of_getLsbD_eq
      intro i hi
      have := h i (by omega) (by omega)
      unfold bt at this
      rw [Int.toNat_natCast] at this
      rw [Bool.eq_false_iff.mpr this]; simp
    show BitVec.toInt _ = 0
    rw [e]; rfl
set_option maxRecDepth 100000 in
set_option maxHeartbeats 4000000 in
theorem c_X5_moveFirst {σ : jS} {w h : Int} {pk : Int → Int} (hM : MV σ w h pk) {p q r : Int} (hp : 0 ≤ p ∧ p < w * h) (hq : 0 ≤ q ∧ q < w * h) (hr : 0 ≤ r ∧ r < w * h) {S0 A : Int → Prop} (hS : SA σ S0 A) : Jm 4 miX5_moveFirst [.ref 17, vI p, vI q, vI r] σ (fun r2 τ => r2 = none ∧ same [18, 20] σ τ ∧ SA τ S0 (fun n => A n ∨ mvA w h pk p q r n)) := by
  have hw := hM.1
  have h36 := hM.2.2.1
  have e5 := hM.2.2.2.1
  refine jm_ofF (Po := (fun r2 τ => r2 = none ∧ same [18, 20] σ τ ∧ SA τ S0 (fun n => A n ∨ mvA w h pk p q r n))) (plainFor_of_name (by decide)) (Nat.le_of_ble_eq_true rfl) (lv := [(0, _), (1, _), (2, _), (3, _)]) rfl ?_
  refine r_aload_n (dc dkX5_moveFirst 0 rfl) rfl (np 1 rfl ?_)
  refine r_gI 5 (dc dkX5_moveFirst 1 rfl) flX5_29 fd_17_5 rfl (np 4 rfl ?_)
  refine r_eqI _ e5 ?_
  refine r_if_gt (tgt := 8) (dc dkX5_moveFirst 2 rfl) rfl (by first | assumption | decide | omega) (fun h4 => ?_) (fun h4 => (np 7 rfl ?_))
  · skip
    refine r_iload_n (dc dkX5_moveFirst 4 rfl) rfl (np 9 rfl ?_)
    refine r_aload_n (dc dkX5_moveFirst 5 rfl) rfl (np 10 rfl ?_)
    refine r_gI 5 (dc dkX5_moveFirst 6 rfl) flX5_29 fd_17_5 rfl (np 13 rfl ?_)
    refine r_eqI _ e5 ?_
    have pb := pgW_b hw hM.2.1 hp
    refine r_iremn (dc dkX5_moveFirst 7 rfl) (by first | assumption | decide | omega) (by first | assumption | decide | omega) (np 14 rfl ?_)
    refine r_istore (lv' := [(4, _), (0, _), (1, _), (2, _), (3, _)]) (dc dkX5_moveFirst 8 rfl) (Nat.le_of_ble_eq_true rfl) rfl (np 16 rfl ?_)
    have jj30 : ∀ ρa : jS, (same [18, 20] σ ρa ∧ SA ρa S0 (fun n => A n ∨ ((0 < p % w) ∧ okr w h pk (p - 1) q r ∧ n = nm3 (p - 1) q r))) → jR 4 miX5_moveFirst (fun r2 τ => r2 = none ∧ same [18, 20] σ τ ∧ SA τ S0 (fun n => A n ∨ mvA w h pk p q r n)) 30 [(0, .ref 17), (1, vI p), (2, vI q), (3, vI r), (4, vI (p % w))] [] ρa := by
      intro ρa hqa
      obtain ⟨sa, Ta⟩ := hqa
      have jj50 : ∀ ρb : jS, (same [18, 20] σ ρb ∧ SA ρb S0 (fun n => (A n ∨ ((0 < p % w) ∧ okr w h pk (p - 1) q r ∧ n = nm3 (p - 1) q r)) ∨ ((p % w < w - 1) ∧ okr w h pk (p + 1) q r ∧ n = nm3 (p + 1) q r))) → jR 4 miX5_moveFirst (fun r2 τ => r2 = none ∧ same [18, 20] σ τ ∧ SA τ S0 (fun n => A n ∨ mvA w h pk p q r n)) 50 [(0, .ref 17), (1, vI p), (2, vI q), (3, vI r), (4, vI (p % w))] [] ρb := by
        intro ρb hqb
        obtain ⟨sb, Tb⟩ := hqb
        refine r_aload_n (dc dkX5_moveFirst 31 rfl) rfl (np 51 rfl ?_)
        refine r_iload_n (dc dkX5_moveFirst 32 rfl) rfl (np 52 rfl ?_)
        refine r_aload_n (dc dkX5_moveFirst 33 rfl) rfl (np 53 rfl ?_)
        refine r_gI 5 (dc dkX5_moveFirst 34 rfl) flX5_29 fd_17_5 rfl (np 56 rfl ?_)
        refine r_eqI _ (show ρb 17 5 = w by rw [sb 17 (by decide)]; exact e5) ?_
        refine r_isub (dc dkX5_moveFirst 35 rfl) (np 57 rfl ?_)
        refine r_iload_n (dc dkX5_moveFirst 36 rfl) rfl (np 58 rfl ?_)
        refine r_iload_n (dc dkX5_moveFirst 37 rfl) rfl (np 59 rfl ?_)
        refine r_cV3 (y' := miX5_reach) (dc dkX5_moveFirst 38 rfl) mlX5_103 ceX5_reach ob_17 (Nat.le_of_ble_eq_true rfl) (Nat.le_of_ble_eq_true rfl) (c_X5_reach (MV_c hM (sb 17 (by decide)) (sb 21 (by decide)) (sb 22 (by decide))) (by omega) hq hr Tb) (fun rr τ3 hp3 => (np 62 rfl ?_))
        obtain ⟨rfl, S3, T3⟩ := hp3
        refine r_aload_n (dc dkX5_moveFirst 39 rfl) rfl (np 63 rfl ?_)
        refine r_iload_n (dc dkX5_moveFirst 40 rfl) rfl (np 64 rfl ?_)
        refine r_aload_n (dc dkX5_moveFirst 41 rfl) rfl (np 65 rfl ?_)
        refine r_gI 5 (dc dkX5_moveFirst 42 rfl) flX5_29 fd_17_5 rfl (np 68 rfl ?_)
        have s3 : same [18, 20] σ τ3 := fun c hc => (S3 c hc).trans (sb c hc)
        refine r_eqI _ (show τ3 17 5 = w by rw [s3 17 (by decide)]; exact e5) ?_
        refine r_iadd (dc dkX5_moveFirst 43 rfl) (np 69 rfl ?_)
        refine r_iload_n (dc dkX5_moveFirst 44 rfl) rfl (np 70 rfl ?_)
        refine r_iload_n (dc dkX5_moveFirst 45 rfl) rfl (np 71 rfl ?_)
        refine r_cV3 (y' := miX5_reach) (dc dkX5_moveFirst 46 rfl) mlX5_103 ceX5_reach ob_17 (Nat.le_of_ble_eq_true rfl) (Nat.le_of_ble_eq_true rfl) (c_X5_reach (MV_c hM (s3 17 (by decide)) (s3 21 (by decide)) (s3 22 (by decide))) (by omega) hq hr T3) (fun rr τ4 hp4 => (np 74 rfl ?_))
        obtain ⟨rfl, S4, T4⟩ := hp4
        exact r_vret (dc dkX5_moveFirst 47 rfl) rfl ⟨rfl, fun c hc => (S4 c hc).trans (s3 c hc), SA_c T4 (fun n _ _ => by
            rw [← nbr_4 (w := w) (h := h) (pk := pk) (p := p) (q := q) (r := r) (n := n)]
            constructor
            · rintro ((((u | u) | u) | u) | u)
              · exact Or.inl u
              · exact Or.inr (Or.inl (Or.inl (Or.inl u)))
              · exact Or.inr (Or.inl (Or.inl (Or.inr u)))
              · exact Or.inr (Or.inl (Or.inr u))
              · exact Or.inr (Or.inr u)
            · rintro (u | (((u | u) | u) | u))
              · exact Or.inl (Or.inl (Or.inl (Or.inl u)))
              · exact Or.inl (Or.inl (Or.inl (Or.inr u)))
              · exact Or.inl (Or.inl (Or.inr u))
              · exact Or.inl (Or.inr u)
              · exact Or.inr u)⟩
      refine r_iload (dc dkX5_moveFirst 18 rfl) rfl (np 32 rfl ?_)
      refine r_aload_n (dc dkX5_moveFirst 19 rfl) rfl (np 33 rfl ?_)
      refine r_gI 5 (dc dkX5_moveFirst 20 rfl) flX5_29 fd_17_5 rfl (np 36 rfl ?_)
      refine r_eqI _ (show ρa 17 5 = w by rw [sa 17 (by decide)]; exact e5) ?_
      refine r_iconst (dc dkX5_moveFirst 21 rfl) (np 37 rfl ?_)
      refine r_isub (dc dkX5_moveFirst 22 rfl) (np 38 rfl ?_)
      refine r_icmp_ge (tgt := 50) (dc dkX5_moveFirst 23 rfl) rfl (by first | assumption | decide | omega) (by first | assumption | decide | omega) (fun h38 => ?_) (fun h38 => (np 41 rfl ?_))
      · skip
        refine r_pick [0, 1, 2, 3, 4] rfl ?_
        exact jj50 _ (by first | exact ⟨fun c hc => (S2 c hc).trans (sa c hc), SA_c T2 (fun n _ _ => ⟨fun u => u.imp id (fun v => ⟨by omega, v⟩), fun u => u.imp id (fun v => v.2)⟩)⟩ | exact ⟨sa, SA_c Ta (fun n _ _ => ⟨Or.inl, fun u => u.resolve_right (fun v => by have := v.1; omega)⟩)⟩)
      refine r_aload_n (dc dkX5_moveFirst 24 rfl) rfl (np 42 rfl ?_)
      refine r_iload_n (dc dkX5_moveFirst 25 rfl) rfl (np 43 rfl ?_)
      refine r_iconst (dc dkX5_moveFirst 26 rfl) (np 44 rfl ?_)
      refine r_iadd (dc dkX5_moveFirst 27 rfl) (np 45 rfl ?_)
      refine r_iload_n (dc dkX5_moveFirst 28 rfl) rfl (np 46 rfl ?_)
      refine r_iload_n (dc dkX5_moveFirst 29 rfl) rfl (np 47 rfl ?_)
      refine r_cV3 (y' := miX5_reach) (dc dkX5_moveFirst 30 rfl) mlX5_103 ceX5_reach ob_17 (Nat.le_of_ble_eq_true rfl) (Nat.le_of_ble_eq_true rfl) (c_X5_reach (MV_c hM (sa 17 (by decide)) (sa 21 (by decide)) (sa 22 (by decide))) (by omega) hq hr Ta) (fun rr τ2 hp2 => (np 50 rfl ?_))
      obtain ⟨rfl, S2, T2⟩ := hp2
      refine r_pick [0, 1, 2, 3, 4] rfl ?_
      exact jj50 _ (by first | exact ⟨fun c hc => (S2 c hc).trans (sa c hc), SA_c T2 (fun n _ _ => ⟨fun u => u.imp id (fun v => ⟨by omega, v⟩), fun u => u.imp id (fun v => v.2)⟩)⟩ | exact ⟨sa, SA_c Ta (fun n _ _ => ⟨Or.inl, fun u => u.resolve_right (fun v => by have := v.1; omega)⟩)⟩)
    refine r_iload (dc dkX5_moveFirst 9 rfl) rfl (np 18 rfl ?_)
    refine r_if_le (tgt := 30) (dc dkX5_moveFirst 10 rfl) rfl (by first | assumption | decide | omega) (fun h18 => ?_) (fun h18 => (np 21 rfl ?_))
    · skip
      refine r_pick [1, 2, 3, 4, 0] rfl ?_
      exact jj30 _ (by first | exact ⟨S1, SA_c T1 (fun n _ _ => ⟨fun u => u.imp id (fun v => ⟨by omega, v⟩), fun u => u.imp id (fun v => v.2)⟩)⟩ | exact ⟨same.refl _ _, SA_c hS (fun n _ _ => ⟨Or.inl, fun u => u.resolve_right (fun v => by have := v.1; omega)⟩)⟩)
    refine r_aload_n (dc dkX5_moveFirst 11 rfl) rfl (np 22 rfl ?_)
    refine r_iload_n (dc dkX5_moveFirst 12 rfl) rfl (np 23 rfl ?_)
    refine r_iconst (dc dkX5_moveFirst 13 rfl) (np 24 rfl ?_)
    refine r_isub (dc dkX5_moveFirst 14 rfl) (np 25 rfl ?_)
    refine r_iload_n (dc dkX5_moveFirst 15 rfl) rfl (np 26 rfl ?_)
    refine r_iload_n (dc dkX5_moveFirst 16 rfl) rfl (np 27 rfl ?_)
    refine r_cV3 (y' := miX5_reach) (dc dkX5_moveFirst 17 rfl) mlX5_103 ceX5_reach ob_17 (Nat.le_of_ble_eq_true rfl) (Nat.le_of_ble_eq_true rfl) (c_X5_reach hM (by omega) hq hr hS) (fun rr τ1 hp1 => (np 30 rfl ?_))
    obtain ⟨rfl, S1, T1⟩ := hp1
    refine r_pick [1, 2, 3, 4, 0] rfl ?_
    exact jj30 _ (by first | exact ⟨S1, SA_c T1 (fun n _ _ => ⟨fun u => u.imp id (fun v => ⟨by omega, v⟩), fun u => u.imp id (fun v => v.2)⟩)⟩ | exact ⟨same.refl _ _, SA_c hS (fun n _ _ => ⟨Or.inl, fun u => u.resolve_right (fun v => by have := v.1; omega)⟩)⟩)
  omega
set_option maxRecDepth 100000 in
set_option maxHeartbeats 4000000 in
theorem c_X5_spread {σ : jS} {w h : Int} {pk : Int → Int} (hM : MV σ w h pk) {S0 : Int → Prop} (hS0 : ∀ n, 0 ≤ n → n < 7168 → (bs (σ 18) n ↔ S0 n)) : Jm 5 miX5_spread [.ref 17] σ (fun r τ => ∃ A : Int → Prop, (∀ n, A n ↔ spA w h pk (fun n => bs (σ 19) n) (fun _ _ _ => True) n) ∧ same [18, 19, 20] σ τ ∧ (∀ n, 0 ≤ n → n < 7168 → (bs (τ 18) n ↔ S0 n ∨ A n) ∧ (bs (τ 19) n ↔ A n ∧ ¬ S0 n)) ∧ r = some (vI (bI (∃ n, (0 ≤ n ∧ n < 7168) ∧ A n ∧ ¬ S0 n)))) := by
  have hw := hM.1
  have hh := hM.2.1
  have h36 := hM.2.2.1
  have e6 := hM.2.2.2.2.1
  have wh0 : 0 < w * h := Int.mul_pos (by omega) (by omega)
  refine jm_ofF (Po := (fun r τ => ∃ A : Int → Prop, (∀ n, A n ↔ spA w h pk (fun n => bs (σ 19) n) (fun _ _ _ => True) n) ∧ same [18, 19, 20] σ τ ∧ (∀ n, 0 ≤ n → n < 7168 → (bs (τ 18) n ↔ S0 n ∨ A n) ∧ (bs (τ 19) n ↔ A n ∧ ¬ S0 n)) ∧ r = some (vI (bI (∃ n, (0 ≤ n ∧ n < 7168) ∧ A n ∧ ¬ S0 n))))) (plainFor_of_name (by decide)) (Nat.le_of_ble_eq_true rfl) (lv := [(0, _)]) rfl ?_
  refine r_aload_n (dc dkX5_spread 0 rfl) rfl (np 1 rfl ?_)
  refine r_getR (dc dkX5_spread 1 rfl) flX5_18 fd_17_2 (np 4 rfl ?_)
  refine r_lconst (dc dkX5_spread 2 rfl) lc_0 (np 5 rfl ?_)
  refine r_cS2 (y' := miJ7_fill_d0a16) (dc dkX5_spread 3 rfl) mlX5_54 seJ7_fill_d0a16 (Nat.le_of_ble_eq_true rfl) (Nat.le_of_ble_eq_true rfl) (c_J7_fill_d0a16 ar_20) (fun rr τ0 hp0 => (np 8 rfl ?_))
  obtain ⟨rfl, S0', Z0⟩ := hp0
  have s0 : same [18, 20] σ τ0 := fun c hc => S0' c (by simp at hc; omega)
  have T0 : SA τ0 S0 (fun _ => False) := fun n n0 n1 => by
    rw [S0' 18 (by decide), hS0 n n0 n1]
    refine ⟨⟨Or.inl, fun u => u.resolve_right id⟩, ⟨fun u => ?_, fun u => absurd u.1 id⟩⟩
    unfold bs at u
    rw [Z0 (n / 64) (by omega) (by omega)] at u
    exact absurd u bt_0
  refine r_iconst (dc dkX5_spread 4 rfl) (np 9 rfl ?_)
  refine r_istore_n (lv' := [(1, _), (0, _)]) (dc dkX5_spread 5 rfl) (Nat.le_of_ble_eq_true rfl) rfl (np 10 rfl ?_)
  refine r_iconst (dc dkX5_spread 6 rfl) (np 11 rfl ?_)
  refine r_istore_n (lv' := [(2, _), (1, _), (0, _)]) (dc dkX5_spread 7 rfl) (Nat.le_of_ble_eq_true rfl) rfl (np 12 rfl ?_)
  refine r_pick [2, 1, 0] (lv' := [(0, _), (1, _), (2, _)]) rfl ?_
  refine jlp3 (P := fun (m : Int) (r : Int) (ρ : jS) => jR _ _ _ 12 [(0, .ref 17), (1, vI m), (2, vI r)] [] ρ) (I := fun (m : Int) (r : Int) (ρ : jS) => ((2 ≤ r ∧ (r ≤ w * h ∨ r = 2)) ∧ m = c3 r) ∧ same [18, 20] σ ρ ∧ SA ρ S0 (spA w h pk (fun n => bs (σ 19) n) (fun x y z => z < r))) (fun (m : Int) (r : Int) (ρ : jS) => (w * h - r).toNat) ?_ _ _ _ ⟨⟨by omega, by decide⟩, s0, SA_c T0 (fun n _ _ => ⟨False.elim, fun ⟨p, q, z, a, b, c⟩ => by omega⟩)⟩
  intro m r ρ hI12 ih12
  have sL := hI12.2.1
  have TL_ := hI12.2.2
  have e6L : ρ 17 6 = w * h := by rw [sL 17 (by decide)]; exact e6
  have e19 : ρ 19 = σ 19 := sL 19 (by decide)
  refine r_iload_n (dc dkX5_spread 8 rfl) rfl (np 13 rfl ?_)
  refine r_aload_n (dc dkX5_spread 9 rfl) rfl (np 14 rfl ?_)
  refine r_gI 6 (dc dkX5_spread 10 rfl) flX5_33 fd_17_6 rfl (np 17 rfl ?_)
  refine r_eqI _ e6L ?_
  refine r_icmp_ge (tgt := 96) (dc dkX5_spread 11 rfl) rfl (by first | assumption | decide | omega) (by first | assumption | decide | omega) (fun h17 => ?_) (fun h17 => (np 20 rfl ?_))
  · skip
    refine r_aload_n (dc dkX5_spread 54 rfl) rfl (np 97 rfl ?_)
    refine r_getR (dc dkX5_spread 55 rfl) flX5_18 fd_17_2 (np 100 rfl ?_)
    refine r_iconst (dc dkX5_spread 56 rfl) (np 101 rfl ?_)
    refine r_aload_n (dc dkX5_spread 57 rfl) rfl (np 102 rfl ?_)
    refine r_getR (dc dkX5_spread 58 rfl) flX5_15 fd_17_1 (np 105 rfl ?_)
    refine r_iconst (dc dkX5_spread 59 rfl) (np 106 rfl ?_)
    refine r_bipush (dc dkX5_spread 60 rfl) bp_112 (np 108 rfl ?_)
    refine r_copyL (dc dkX5_spread 61 rfl) cpX5_97 ar_20 ar_19 (by omega) (Nat.le_of_ble_eq_true rfl) (Nat.le_of_ble_eq_true rfl) (np 111 rfl ?_)
    refine r_abs (fun ρ2 => (∀ c, ¬ c = 19 → ρ2 c = ρ c) ∧ ∀ j, 0 ≤ j → j < 112 → ρ2 19 j = ρ 20 j) ⟨fun c hc => by unfold jrow; rw [if_neg hc], fun j j0 j1 => by unfold jrow jcp; rw [if_pos rfl]; simp; omega⟩ ?_
    intro ρ2 hq2
    obtain ⟨R1, R2⟩ := hq2
    have TT : SA ρ S0 (spA w h pk (fun n => bs (σ 19) n) (fun _ _ _ => True)) := SA_c TL_ (fun n _ _ => ⟨fun ⟨p, q, z, a, b, c⟩ => ⟨p, q, z, a, trivial, c⟩, fun ⟨p, q, z, a, b, c⟩ => ⟨p, q, z, a, by omega, c⟩⟩)
    refine r_iconst (dc dkX5_spread 62 rfl) (np 112 rfl ?_)
    refine r_istore_n (lv' := [(2, _), (0, _), (1, _)]) (dc dkX5_spread 63 rfl) (Nat.le_of_ble_eq_true rfl) rfl (np 113 rfl ?_)
    refine r_pick [1, 2, 0] (lv' := [(0, _), (1, _), (2, _)]) rfl ?_
    refine jlp1 (P := fun (i : Int) => jR _ _ _ 113 [(0, .ref 17), (1, vI m), (2, vI i)] [] ρ2) (I := fun (i : Int) => (0 ≤ i ∧ i ≤ 112) ∧ ∀ j, 0 ≤ j → j < i → (Int64.ofInt (ρ 20 j)).toInt = 0) (fun (i : Int) => (112 - i).toNat) ?_ _ ⟨by omega, fun j j0 j1 => by omega⟩
    intro i hI113 ih113
    refine r_iload_n (dc dkX5_spread 64 rfl) rfl (np 114 rfl ?_)
    refine r_bipush (dc dkX5_spread 65 rfl) bp_112 (np 116 rfl ?_)
    refine r_icmp_ge (tgt := 138) (dc dkX5_spread 66 rfl) rfl (by first | assumption | decide | omega) (by first | assumption | decide | omega) (fun h116 => ?_) (fun h116 => (np 119 rfl ?_))
    · skip
      refine r_iconst (dc dkX5_spread 78 rfl) (np 139 rfl ?_)
      exact r_zret (dc dkX5_spread 79 rfl) rfl (by first | exact Or.inl rfl | exact Or.inr rfl) (by
    refine ⟨_, fun _ => Iff.rfl, fun c hc => ?_, fun n n0 n1 => ?_, congrArg (fun z => some (vI z)) ?_⟩
    · simp at hc
      rw [R1 c (by omega), sL c (by simp; omega)]
    · have a := TT n n0 n1
      refine ⟨by rw [R1 18 (by decide)]; exact a.1, ?_⟩
      rw [← a.2]
      unfold bs
      rw [R2 (n / 64) (by omega) (by omega)]
    · refine bF (fun ⟨n, nb, u⟩ => ?_)
      have a := (TT n (by omega) (by omega)).2.mpr u
      unfold bs at a
      exact (bt_ex.mp (hI113.2 (n / 64) (by omega) (by omega))) (n % 64) (by omega) (by omega) a)
    refine r_aload_n (dc dkX5_spread 67 rfl) rfl (np 120 rfl ?_)
    refine r_getR (dc dkX5_spread 68 rfl) flX5_18 fd_17_2 (np 123 rfl ?_)
    refine r_iload_n (dc dkX5_spread 69 rfl) rfl (np 124 rfl ?_)
    refine r_lald (dc dkX5_spread 70 rfl) ar_20 (by omega) (np 125 rfl ?_)
    refine r_nrmL ?_
    refine r_lconst (dc dkX5_spread 71 rfl) lc_0 (np 126 rfl ?_)
    refine r_lcmp (dc dkX5_spread 72 rfl) (lR_of _) (by decide) (np 127 rfl ?_)
    refine r_if_eq (tgt := 132) (dc dkX5_spread 73 rfl) rfl (by unfold jcmp; split <;> (try split) <;> decide) (fun h127 => ?_) (fun h127 => (np 130 rfl ?_))
    · skip
      refine r_iinc (lv' := [(2, _), (0, _), (1, _)]) (dc dkX5_spread 76 rfl) (Nat.le_of_ble_eq_true rfl) rfl rfl (np 135 rfl ?_)
      refine r_goto (tgt := 113) (dc dkX5_spread 77 rfl) rfl ?_
      refine r_pick [1, 2, 0] rfl ?_
      exact ih113 _ ⟨by omega, fun j j0 j1 => by rcases (show j < i ∨ j = i by omega) with u | u; exact hI113.2 j j0 u; subst u; have v := jcmp_00.mp h127; rw [R1 20 (by decide)] at v; exact v⟩ (by omega)
    refine r_iconst (dc dkX5_spread 74 rfl) (np 131 rfl ?_)
    exact r_zret (dc dkX5_spread 75 rfl) rfl (by first | exact Or.inl rfl | exact Or.inr rfl) (by
    refine ⟨_, fun _ => Iff.rfl, fun c hc => ?_, fun n n0 n1 => ?_, congrArg (fun z => some (vI z)) ?_⟩
    · simp at hc
      rw [R1 c (by omega), sL c (by simp; omega)]
    · have a := TT n n0 n1
      refine ⟨by rw [R1 18 (by decide)]; exact a.1, ?_⟩
      rw [← a.2]
      unfold bs
      rw [R2 (n / 64) (by omega) (by omega)]
    · refine bT ?_
      refine Classical.byContradiction (fun nx => h127 (jcmp_00.mpr (bt_ex.mpr (fun j j0 j1 hb => nx ⟨64 * i + j, by omega, ?_⟩))))
      have a := (TT (64 * i + j) (by omega) (by omega)).2
      refine a.mp ?_
      unfold bs
      rw [R1 20 (by decide)] at hb
      rw [show (64 * i + j) / 64 = i by omega, show (64 * i + j) % 64 = j by omega]
      exact hb)
  refine r_iconst (dc dkX5_spread 12 rfl) (np 21 rfl ?_)
  refine r_istore_n (lv' := [(3, _), (0, _), (1, _), (2, _)]) (dc dkX5_spread 13 rfl) (Nat.le_of_ble_eq_true rfl) rfl (np 22 rfl ?_)
  refine r_pick [1, 2, 3, 0] (lv' := [(0, _), (1, _), (2, _), (3, _)]) rfl ?_
  refine jlp3 (P := fun (m : Int) (q : Int) (ρ : jS) => jR _ _ _ 22 [(0, .ref 17), (1, vI m), (2, vI r), (3, vI q)] [] ρ) (I := fun (m : Int) (q : Int) (ρ : jS) => ((1 ≤ q ∧ q ≤ r) ∧ m = c3 r + c2 q) ∧ same [18, 20] σ ρ ∧ SA ρ S0 (spA w h pk (fun n => bs (σ 19) n) (fun x y z => (z < r ∨ (z = r ∧ y < q))))) (fun (m : Int) (q : Int) (ρ : jS) => (r - q).toNat) ?_ _ _ _ ⟨⟨by omega, by rw [hI12.1.2, show c2 1 = 0 by decide]; omega⟩, sL, SA_c TL_ (fun n _ _ => ⟨fun ⟨x, y, z, a, b, c⟩ => ⟨x, y, z, a, by omega, c⟩, fun ⟨x, y, z, a, b, c⟩ => ⟨x, y, z, a, by omega, c⟩⟩)⟩
  intro m q ρ hI22 ih22
  have sL := hI22.2.1
  have TL_ := hI22.2.2
  have e6L : ρ 17 6 = w * h := by rw [sL 17 (by decide)]; exact e6
  have e19 : ρ 19 = σ 19 := sL 19 (by decide)
  refine r_iload_n (dc dkX5_spread 14 rfl) rfl (np 23 rfl ?_)
  refine r_iload_n (dc dkX5_spread 15 rfl) rfl (np 24 rfl ?_)
  refine r_icmp_ge (tgt := 90) (dc dkX5_spread 16 rfl) rfl (by first | assumption | decide | omega) (by first | assumption | decide | omega) (fun h24 => ?_) (fun h24 => (np 27 rfl ?_))
  · skip
    refine r_iinc (lv' := [(2, _), (0, _), (1, _), (3, _)]) (dc dkX5_spread 52 rfl) (Nat.le_of_ble_eq_true rfl) rfl rfl (np 93 rfl ?_)
    refine r_goto (tgt := 12) (dc dkX5_spread 53 rfl) rfl ?_
    refine r_pick [1, 2, 0] rfl ?_
    exact ih12 _ _ _ ⟨⟨by omega, by have a := c_s (k := r) (by omega); rw [a.2.1, hI22.1.2, show q = r by omega]⟩, sL, SA_c TL_ (fun n _ _ => ⟨fun ⟨x, y, z, a, b, c⟩ => ⟨x, y, z, a, by omega, c⟩, fun ⟨x, y, z, a, b, c⟩ => ⟨x, y, z, a, by omega, c⟩⟩)⟩ (by omega)
  have hm := hI22.1.2
  subst hm
  refine r_iconst (dc dkX5_spread 17 rfl) (np 28 rfl ?_)
  refine r_istore (lv' := [(4, _), (0, _), (1, _), (2, _), (3, _)]) (dc dkX5_spread 18 rfl) (Nat.le_of_ble_eq_true rfl) rfl (np 30 rfl ?_)
  refine r_pick [1, 2, 3, 4, 0] (lv' := [(0, _), (1, _), (2, _), (3, _), (4, _)]) rfl ?_
  refine jlp2 (P := fun (p : Int) (ρ : jS) => jR _ _ _ 30 [(0, .ref 17), (1, vI (c3 r + c2 q)), (2, vI r), (3, vI q), (4, vI p)] [] ρ) (I := fun (p : Int) (ρ : jS) => (0 ≤ p ∧ p ≤ q) ∧ same [18, 20] σ ρ ∧ SA ρ S0 (spA w h pk (fun n => bs (σ 19) n) (fun x y z => (z < r ∨ (z = r ∧ (y < q ∨ (y = q ∧ x < p))))))) (fun (p : Int) (ρ : jS) => (q - p).toNat) ?_ _ _ ⟨by omega, sL, SA_c TL_ (fun n _ _ => ⟨fun ⟨x, y, z, a, b, c⟩ => ⟨x, y, z, a, by omega, c⟩, fun ⟨x, y, z, a, b, c⟩ => ⟨x, y, z, a, by omega, c⟩⟩)⟩
  intro p ρ hI30 ih30
  have sL := hI30.2.1
  have TL_ := hI30.2.2
  have e6L : ρ 17 6 = w * h := by rw [sL 17 (by decide)]; exact e6
  have e19 : ρ 19 = σ 19 := sL 19 (by decide)
  refine r_iload (dc dkX5_spread 19 rfl) rfl (np 32 rfl ?_)
  refine r_iload_n (dc dkX5_spread 20 rfl) rfl (np 33 rfl ?_)
  refine r_icmp_ge (tgt := 80) (dc dkX5_spread 21 rfl) rfl (by first | assumption | decide | omega) (by first | assumption | decide | omega) (fun h33 => ?_) (fun h33 => (np 36 rfl ?_))
  · skip
    refine r_iload_n (dc dkX5_spread 46 rfl) rfl (np 81 rfl ?_)
    refine r_iload_n (dc dkX5_spread 47 rfl) rfl (np 82 rfl ?_)
    refine r_iadd (dc dkX5_spread 48 rfl) (np 83 rfl ?_)
    refine r_istore_n (lv' := [(1, _), (0, _), (2, _), (3, _), (4, _)]) (dc dkX5_spread 49 rfl) (Nat.le_of_ble_eq_true rfl) rfl (np 84 rfl ?_)
    refine r_iinc (lv' := [(3, _), (1, _), (0, _), (2, _), (4, _)]) (dc dkX5_spread 50 rfl) (Nat.le_of_ble_eq_true rfl) rfl rfl (np 87 rfl ?_)
    refine r_goto (tgt := 22) (dc dkX5_spread 51 rfl) rfl ?_
    refine r_pick [2, 1, 3, 0] rfl ?_
    exact ih22 _ _ _ ⟨⟨by omega, by have a := c_s (k := q) (by omega); rw [a.1, hI22.1.2]; omega⟩, sL, SA_c TL_ (fun n _ _ => ⟨fun ⟨x, y, z, a, b, c⟩ => ⟨x, y, z, a, by omega, c⟩, fun ⟨x, y, z, a, b, c⟩ => ⟨x, y, z, a, by omega, c⟩⟩)⟩ (by omega)
  refine r_aload_n (dc dkX5_spread 22 rfl) rfl (np 37 rfl ?_)
  refine r_getR (dc dkX5_spread 23 rfl) flX5_15 fd_17_1 (np 40 rfl ?_)
  refine r_iload_n (dc dkX5_spread 24 rfl) rfl (np 41 rfl ?_)
  refine r_iload (dc dkX5_spread 25 rfl) rfl (np 43 rfl ?_)
  refine r_iadd (dc dkX5_spread 26 rfl) (np 44 rfl ?_)
  refine r_pS2 (y' := miX5_isMarked) (dc dkX5_spread 27 rfl) mlX5_64 seX5_isMarked (Nat.le_of_ble_eq_true rfl) (Nat.le_of_ble_eq_true rfl) (c_X5_isMarked ar_19 (by have a := c_s (k := r) (by omega); have b := c_s (k := q) (by omega); omega)) (np 47 rfl ?_)
  refine r_eqI (bI (bs (σ 19) (c3 r + c2 q + p))) (by rw [e19]; exact bI_iff ⟨fun u => u.2, fun u => ⟨by have a := nm3_b (p := p) (q := q) (r := r) (by omega) (by omega) (by omega) (by omega); rw [nm3_s (by omega)] at a; omega, u⟩⟩) ?_
  refine r_bz (tgt := 74) (dc dkX5_spread 28 rfl) rfl (fun h47 => ?_) (fun h47 => (np 50 rfl ?_))
  · skip
    refine r_iinc (lv' := [(4, _), (0, _), (1, _), (2, _), (3, _)]) (dc dkX5_spread 44 rfl) (Nat.le_of_ble_eq_true rfl) rfl rfl (np 77 rfl ?_)
    refine r_goto (tgt := 30) (dc dkX5_spread 45 rfl) rfl ?_
    refine r_pick [1, 2, 3, 4, 0] rfl ?_
    exact ih30 _ _ (by
          first
          | (refine ⟨by omega, sL, SA_c TL_ (fun n _ _ => ⟨fun ⟨x, y, z, a, b, c⟩ => ⟨x, y, z, a, by omega, c⟩, fun ⟨x, y, z, a, b, c⟩ => ⟨x, y, z, a, ?_, c⟩⟩)⟩
             by_cases e : x = p ∧ y = q ∧ z = r
             · rw [e.1, e.2.1, e.2.2] at c
               exact absurd c.1 h47
             · omega)
          | (refine ⟨by omega, s3, SA_c T3 (fun n _ _ => ⟨fun u => ?_, fun ⟨x, y, z, a, b, c⟩ => ?_⟩)⟩
             · rcases u with ((⟨x, y, z, a, b, c⟩ | u) | u) | u
               · exact ⟨x, y, z, a, by omega, c⟩
               · exact ⟨p, q, r, by omega, by omega, h47, Or.inl u⟩
               · exact ⟨p, q, r, by omega, by omega, h47, Or.inr (Or.inl u)⟩
               · exact ⟨p, q, r, by omega, by omega, h47, Or.inr (Or.inr u)⟩
             · by_cases e : x = p ∧ y = q ∧ z = r
               · rw [e.1, e.2.1, e.2.2] at c
                 rcases c.2 with u | u | u
                 · exact Or.inl (Or.inl (Or.inr u))
                 · exact Or.inl (Or.inr u)
                 · exact Or.inr u
               · exact Or.inl (Or.inl (Or.inl ⟨x, y, z, a, by omega, c⟩)))) (by omega)
  refine r_aload_n (dc dkX5_spread 29 rfl) rfl (np 51 rfl ?_)
  refine r_iload (dc dkX5_spread 30 rfl) rfl (np 53 rfl ?_)
  refine r_iload_n (dc dkX5_spread 31 rfl) rfl (np 54 rfl ?_)
  refine r_iload_n (dc dkX5_spread 32 rfl) rfl (np 55 rfl ?_)
  refine r_cV3 (y' := miX5_moveFirst) (dc dkX5_spread 33 rfl) mlX5_93 ceX5_moveFirst ob_17 (Nat.le_of_ble_eq_true rfl) (Nat.le_of_ble_eq_true rfl) (c_X5_moveFirst (MV_c hM (sL 17 (by decide)) (sL 21 (by decide)) (sL 22 (by decide))) (by omega) (by omega) (by omega) TL_) (fun rr τ1 hp1 => (np 58 rfl ?_))
  obtain ⟨rfl, S1, T1⟩ := hp1
  have s1 : same [18, 20] σ τ1 := fun c hc => (S1 c hc).trans (sL c hc)
  refine r_aload_n (dc dkX5_spread 34 rfl) rfl (np 59 rfl ?_)
  refine r_iload_n (dc dkX5_spread 35 rfl) rfl (np 60 rfl ?_)
  refine r_iload (dc dkX5_spread 36 rfl) rfl (np 62 rfl ?_)
  refine r_iload_n (dc dkX5_spread 37 rfl) rfl (np 63 rfl ?_)
  refine r_cV3 (y' := miX5_moveFirst) (dc dkX5_spread 38 rfl) mlX5_93 ceX5_moveFirst ob_17 (Nat.le_of_ble_eq_true rfl) (Nat.le_of_ble_eq_true rfl) (c_X5_moveFirst (MV_c hM (s1 17 (by decide)) (s1 21 (by decide)) (s1 22 (by decide))) (by omega) (by omega) (by omega) T1) (fun rr τ2 hp2 => (np 66 rfl ?_))
  obtain ⟨rfl, S2, T2⟩ := hp2
  have s2 : same [18, 20] σ τ2 := fun c hc => (S2 c hc).trans (s1 c hc)
  refine r_aload_n (dc dkX5_spread 39 rfl) rfl (np 67 rfl ?_)
  refine r_iload_n (dc dkX5_spread 40 rfl) rfl (np 68 rfl ?_)
  refine r_iload (dc dkX5_spread 41 rfl) rfl (np 70 rfl ?_)
  refine r_iload_n (dc dkX5_spread 42 rfl) rfl (np 71 rfl ?_)
  refine r_cV3 (y' := miX5_moveFirst) (dc dkX5_spread 43 rfl) mlX5_93 ceX5_moveFirst ob_17 (Nat.le_of_ble_eq_true rfl) (Nat.le_of_ble_eq_true rfl) (c_X5_moveFirst (MV_c hM (s2 17 (by decide)) (s2 21 (by decide)) (s2 22 (by decide))) (by omega) (by omega) (by omega) T2) (fun rr τ3 hp3 => (np 74 rfl ?_))
  obtain ⟨rfl, S3, T3⟩ := hp3
  have s3 : same [18, 20] σ τ3 := fun c hc => (S3 c hc).trans (s2 c hc)
  refine r_iinc (lv' := [(4, _), (0, _), (1, _), (2, _), (3, _)]) (dc dkX5_spread 44 rfl) (Nat.le_of_ble_eq_true rfl) rfl rfl (np 77 rfl ?_)
  refine r_goto (tgt := 30) (dc dkX5_spread 45 rfl) rfl ?_
  refine r_pick [1, 2, 3, 4, 0] rfl ?_
  exact ih30 _ _ (by
        first
        | (refine ⟨by omega, sL, SA_c TL_ (fun n _ _ => ⟨fun ⟨x, y, z, a, b, c⟩ => ⟨x, y, z, a, by omega, c⟩, fun ⟨x, y, z, a, b, c⟩ => ⟨x, y, z, a, ?_, c⟩⟩)⟩
           by_cases e : x = p ∧ y = q ∧ z = r
           · rw [e.1, e.2.1, e.2.2] at c
             exact absurd c.1 h47
           · omega)
        | (refine ⟨by omega, s3, SA_c T3 (fun n _ _ => ⟨fun u => ?_, fun ⟨x, y, z, a, b, c⟩ => ?_⟩)⟩
           · rcases u with ((⟨x, y, z, a, b, c⟩ | u) | u) | u
             · exact ⟨x, y, z, a, by omega, c⟩
             · exact ⟨p, q, r, by omega, by omega, h47, Or.inl u⟩
             · exact ⟨p, q, r, by omega, by omega, h47, Or.inr (Or.inl u)⟩
             · exact ⟨p, q, r, by omega, by omega, h47, Or.inr (Or.inr u)⟩
           · by_cases e : x = p ∧ y = q ∧ z = r
             · rw [e.1, e.2.1, e.2.2] at c
               rcases c.2 with u | u | u
               · exact Or.inl (Or.inl (Or.inr u))
               · exact Or.inl (Or.inr u)
               · exact Or.inr u
             · exact Or.inl (Or.inl (Or.inl ⟨x, y, z, a, by omega, c⟩)))) (by omega)
