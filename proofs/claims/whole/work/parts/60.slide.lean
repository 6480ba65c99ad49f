/-- quotient and rest of long numbers, a dividend that isn't negative -/
theorem l_div {a b : Int} (ha : lR a) (hb : lR b) (hm : 0 ≤ a) : Int64.ofInt a / Int64.ofInt b = Int64.ofInt (a.tdiv b) := by
  rw [← Int64.toInt_inj, Int64.toInt_div_of_ne_left _ _ (fun h => ?_), l_of ha, l_of hb]
  · have h1 : (a.tdiv b).natAbs ≤ a.natAbs := Int.natAbs_tdiv_le_natAbs a b
    rw [l_of]
    have := ha.1; have := ha.2
    constructor <;> omega
  · have h2 := congrArg Int64.toInt h
    rw [l_of ha] at h2
    have h3 : Int64.minValue.toInt < 0 := by decide
    omega
theorem l_z : (0 : Int64) = Int64.ofInt 0 := by decide
theorem lR0 : lR 0 := by decide
section JR5
variable {d : Nat} {y : jMI} {Po : Option Value → jS → Prop} {pc : Nat} {lv : List (Nat × Value)} {st : List Value} {σ : jS}
theorem r_ldivn {a b : Int} (hd : decode y.2.1 pc = .ok (.ldiv, 1)) (ha : 0 ≤ a ∧ a ≤ 2147483647) (hb : 0 < b ∧ b ≤ 2147483647) (k : jR d y Po (pc + 1) lv (vL (a / b) :: st) σ) : jR d y Po pc lv (vL b :: vL a :: st) σ :=
  have la : lR a := ⟨by omega, by omega⟩
  have lb : lR b := ⟨by omega, by omega⟩
  have k2 : jR d y Po (pc + 1) lv (vL (a.tdiv b) :: st) σ := by rw [Int.tdiv_eq_ediv_of_nonneg ha.1]; exact k
  jR.go (fun p l e s m args below meth c ad H locs ls Q C h K => lv_ldiv C.1 C.2.1 hd (fun z => (show ¬ b = 0 by omega) ((l_eq lb lR0).mp (by rw [← l_z]; exact z))) (by rw [l_div la lb ha.1]; exact K)) k2
theorem r_lremn {a b : Int} (hd : decode y.2.1 pc = .ok (.lrem, 1)) (ha : 0 ≤ a ∧ a ≤ 2147483647) (hb : 0 < b ∧ b ≤ 2147483647) (k : jR d y Po (pc + 1) lv (vL (a % b) :: st) σ) : jR d y Po pc lv (vL b :: vL a :: st) σ :=
  have la : lR a := ⟨by omega, by omega⟩
  have lb : lR b := ⟨by omega, by omega⟩
  have k2 : jR d y Po (pc + 1) lv (vL (a.tmod b) :: st) σ := by rw [Int.tmod_eq_emod_of_nonneg ha.1]; exact k
  jR.go (fun p l e s m args below meth c ad H locs ls Q C h K => lv_lrem C.1 C.2.1 hd (fun z => (show ¬ b = 0 by omega) ((l_eq lb lR0).mp (by rw [← l_z]; exact z))) (by rw [l_div la lb ha.1, ← Int64.ofInt_mul, ← Int64.ofInt_sub, show a - a.tdiv b * b = a.tmod b by have := Int.tdiv_mul_add_tmod a b; omega]; exact K)) k2
end JR5
theorem plG_R {w h x y : Int} (hw : cB 10 w) (hh : cB 10 h) : -1 ≤ plG w h x y ∧ plG w h x y ≤ 99 := by
  unfold plG
  split <;> omega
set_option maxRecDepth 100000 in
set_option maxHeartbeats 4000000 in
theorem c_X12_slide {σ : jS} (hB : okB σ 30) (hn : ∀ b, 0 ≤ b → b < σ 30 0 → 3 ≤ σ 32 b) (hD : okD σ 28) (hK : okP σ) (hp : cB 8 (σ 0 6)) {b x y : Int} (hb : iR b) (hx : iR x) (hy : iR y) : Jm 7 miX12_slide [.ref 0, vI b, vI x, vI y] σ (fun r τ => (¬ (0 ≤ b ∧ b < σ 30 0) → r = some (vI (-1)) ∧ τ = σ) ∧ ((0 ≤ b ∧ b < σ 30 0) → ∃ ρ, same [6] σ ρ ∧ (∀ j, 0 ≤ j → j < σ 32 b → ρ 6 j = plG (σ 28 0) (σ 28 1) (bAt σ 30 b j % 10 + x) (bAt σ 30 b j / 10 + y)) ∧ r = some (vI (wrF (σ 32 b) (rwP ρ (σ 32 b)) (pkC σ 28) (σ 28 2) (σ 30 0) b (σ 32) (bAt σ 30))) ∧ PA ρ τ (wrF (σ 32 b) (rwP ρ (σ 32 b)) (pkC σ 28) (σ 28 2) (σ 30 0) b (σ 32) (bAt σ 30)) b (σ 32 b))) := by
  have m8 := hB.1
  have d0 := hD.1
  have d1 := hD.2.1
  refine jm_ofF (Po := (fun r τ => (¬ (0 ≤ b ∧ b < σ 30 0) → r = some (vI (-1)) ∧ τ = σ) ∧ ((0 ≤ b ∧ b < σ 30 0) → ∃ ρ, same [6] σ ρ ∧ (∀ j, 0 ≤ j → j < σ 32 b → ρ 6 j = plG (σ 28 0) (σ 28 1) (bAt σ 30 b j % 10 + x) (bAt σ 30 b j / 10 + y)) ∧ r = some (vI (wrF (σ 32 b) (rwP ρ (σ 32 b)) (pkC σ 28) (σ 28 2) (σ 30 0) b (σ 32) (bAt σ 30))) ∧ PA ρ τ (wrF (σ 32 b) (rwP ρ (σ 32 b)) (pkC σ 28) (σ 28 2) (σ 30 0) b (σ 32) (bAt σ 30)) b (σ 32 b)))) (plainFor_of_name (by decide)) (Nat.le_of_ble_eq_true rfl) (lv := [(0, _), (1, _), (2, _), (3, _)]) rfl ?_
  refine r_aload_n (dc dkX12_slide 0 rfl) rfl (np 1 rfl ?_)
  refine r_getR (dc dkX12_slide 1 rfl) flX12_24 fd_0_2 (np 4 rfl ?_)
  refine r_getR (dc dkX12_slide 2 rfl) flX12_105 fd_27_1 (np 7 rfl ?_)
  refine r_astore (lv' := [(4, _), (0, _), (1, _), (2, _), (3, _)]) (dc dkX12_slide 3 rfl) (Nat.le_of_ble_eq_true rfl) rfl (np 9 rfl ?_)
  refine r_aload (dc dkX12_slide 4 rfl) rfl (np 11 rfl ?_)
  refine r_getR (dc dkX12_slide 5 rfl) flX12_167 fd_28_9 (np 14 rfl ?_)
  refine r_iload_n (dc dkX12_slide 6 rfl) rfl (np 15 rfl ?_)
  refine r_pV1 (y' := miX0_has) (dc dkX12_slide 7 rfl) mlX12_171 ceX0_has ob_30 (Nat.le_of_ble_eq_true rfl) (Nat.le_of_ble_eq_true rfl) (c_X0_has isBands_at30 hB hb) (np 18 rfl ?_)
  refine r_bn (tgt := 23) (dc dkX12_slide 8 rfl) rfl (fun h18 => ?_) (fun h18 => (np 21 rfl ?_))
  · skip
    replace h18 : 0 ≤ b ∧ b < σ 30 0 := h18
    have s8 : σ 32 b ≤ 8 := (hB.2.1 b (by omega) (by omega)).2
    have n3 := hn b (by omega) (by omega)
    refine r_aload (dc dkX12_slide 11 rfl) rfl (np 25 rfl ?_)
    refine r_getR (dc dkX12_slide 12 rfl) flX12_167 fd_28_9 (np 28 rfl ?_)
    refine r_iload_n (dc dkX12_slide 13 rfl) rfl (np 29 rfl ?_)
    refine r_aload_n (dc dkX12_slide 14 rfl) rfl (np 30 rfl ?_)
    refine r_getR (dc dkX12_slide 15 rfl) flX12_45 fd_0_7 (np 33 rfl ?_)
    refine r_cV2 (y' := miX0_fill) (dc dkX12_slide 16 rfl) mlX12_251 ceX0_fill ob_30 (Nat.le_of_ble_eq_true rfl) (Nat.le_of_ble_eq_true rfl) (c_X0_fill isBands_at30 hB (by omega) (by omega) (by show 0 < σ 32 b; omega)) (fun r τ2 hp2 => (np 36 rfl ?_))
    obtain ⟨rfl, s2, l2⟩ := hp2
    replace l2 : ∀ j, 0 ≤ j → j < σ 32 b → τ2 6 j = bAt σ 30 b j := l2
    refine r_istore (lv' := [(5, _), (4, _), (0, _), (1, _), (2, _), (3, _)]) (dc dkX12_slide 17 rfl) (Nat.le_of_ble_eq_true rfl) rfl (np 38 rfl ?_)
    refine r_iconst (dc dkX12_slide 18 rfl) (np 39 rfl ?_)
    refine r_istore (lv' := [(6, _), (5, _), (4, _), (0, _), (1, _), (2, _), (3, _)]) (dc dkX12_slide 19 rfl) (Nat.le_of_ble_eq_true rfl) rfl (np 41 rfl ?_)
    refine r_pick [3, 4, 5, 6, 2, 1, 0] (lv' := [(0, _), (1, _), (2, _), (3, _), (4, _), (5, _), (6, _)]) rfl ?_
    refine jlp2 (P := fun (i : Int) (ρ : jS) => jR _ _ _ 41 [(0, .ref 0), (1, vI b), (2, vI x), (3, vI y), (4, .ref 28), (5, vI (σ 32 b)), (6, vI i)] [] ρ) (I := fun (i : Int) (ρ : jS) => (0 ≤ i ∧ i ≤ σ 32 b) ∧ same [6] σ ρ ∧ (∀ j, 0 ≤ j → j < i → ρ 6 j = plG (σ 28 0) (σ 28 1) (bAt σ 30 b j % 10 + x) (bAt σ 30 b j / 10 + y)) ∧ ∀ j, i ≤ j → j < σ 32 b → ρ 6 j = bAt σ 30 b j) (fun (i : Int) (ρ : jS) => (σ 32 b - i).toNat) ?_ _ _ ⟨by omega, s2, fun _ _ _ => by omega, fun j j0 j1 => l2 j j0 j1⟩
    intro i ρ hI41 ih41
    have s6 := hI41.2.1
    have q28 : ρ 28 = σ 28 := s6 28 (by decide)
    have q29 : ρ 29 = σ 29 := s6 29 (by decide)
    have q30 : ρ 30 = σ 30 := s6 30 (by decide)
    have q31 : ρ 31 = σ 31 := s6 31 (by decide)
    have q32 : ρ 32 = σ 32 := s6 32 (by decide)
    have q33 : ρ 33 = σ 33 := s6 33 (by decide)
    have oD : okD ρ 28 := by unfold okD; rw [q28, q29]; exact hD
    have oB : okB ρ 30 := okB_t hB q30 q31 q32 q33
    have oK : okP ρ := by unfold okP; rw [s6 8 (by decide)]; exact hK
    have oC : cB 8 (ρ 0 6) := by rw [s6 0 (by decide)]; exact hp
    refine r_iload (dc dkX12_slide 20 rfl) rfl (np 43 rfl ?_)
    refine r_iload (dc dkX12_slide 21 rfl) rfl (np 45 rfl ?_)
    refine r_icmp_ge (tgt := 106) (dc dkX12_slide 22 rfl) rfl (by first | assumption | decide | omega) (by first | assumption | decide | omega) (fun h45 => ?_) (fun h45 => (np 48 rfl ?_))
    · skip
      have F2 : ∀ j, 0 ≤ j → j < σ 32 b → ρ 6 j = plG (σ 28 0) (σ 28 1) (bAt σ 30 b j % 10 + x) (bAt σ 30 b j / 10 + y) := fun j j0 j1 => hI41.2.2.1 j j0 (by omega)
      have oR : ∀ j, 0 ≤ j → j < σ 32 b → iR (ρ 6 j) := fun j j0 j1 => by
        rw [F2 j j0 j1]
        have := plG_R (x := bAt σ 30 b j % 10 + x) (y := bAt σ 30 b j / 10 + y) d0 d1
        omega
      have eW : wrF (σ 32 b) (rwP ρ (σ 32 b)) (pkC ρ 28) (ρ 28 2) (ρ 30 0) b (ρ 32) (bAt ρ 30) = wrF (σ 32 b) (rwP ρ (σ 32 b)) (pkC σ 28) (σ 28 2) (σ 30 0) b (σ 32) (bAt σ 30) := by
        have e1 : pkC ρ 28 = pkC σ 28 := by unfold pkC outB; rw [q28]
        have e2 : bAt ρ 30 = bAt σ 30 := by funext x y; exact bAt_t q32 q33 x y
        rw [e1, e2, q28, q30, q32]
      refine r_aload_n (dc dkX12_slide 56 rfl) rfl (np 107 rfl ?_)
      refine r_iload_n (dc dkX12_slide 57 rfl) rfl (np 108 rfl ?_)
      refine r_iload (dc dkX12_slide 58 rfl) rfl (np 110 rfl ?_)
      refine r_cV2 (y' := miX12_putAnew) (dc dkX12_slide 59 rfl) mlX12_255 ceX12_putAnew ob_0 (Nat.le_of_ble_eq_true rfl) (Nat.le_of_ble_eq_true rfl) (c_X12_putAnew oD oB oK oC (by omega) ⟨n3, s8⟩ oR) (fun r τ5 hp5 => (np 113 rfl ?_))
      obtain ⟨rfl, hk5⟩ := hp5
      exact r_iret (dc dkX12_slide 60 rfl) rfl (by rw [eW] at hk5 ⊢; exact ⟨fun z => absurd h18 z, fun _ => ⟨ρ, s6, F2, rfl, hk5⟩⟩)
    refine r_iload (dc dkX12_slide 23 rfl) rfl (np 50 rfl ?_)
    refine r_aload_n (dc dkX12_slide 24 rfl) rfl (np 51 rfl ?_)
    refine r_getR (dc dkX12_slide 25 rfl) flX12_45 fd_0_7 (np 54 rfl ?_)
    refine r_alen (dc dkX12_slide 26 rfl) ar_6 (Nat.le_of_ble_eq_true rfl) (np 55 rfl ?_)
    refine r_icmp_ge (tgt := 106) (dc dkX12_slide 27 rfl) rfl (by first | assumption | decide | omega) (by first | assumption | decide | omega) (fun h55 => ?_) (fun h55 => (np 58 rfl ?_))
    · skip
      have F2 : ∀ j, 0 ≤ j → j < σ 32 b → ρ 6 j = plG (σ 28 0) (σ 28 1) (bAt σ 30 b j % 10 + x) (bAt σ 30 b j / 10 + y) := fun j j0 j1 => hI41.2.2.1 j j0 (by omega)
      have oR : ∀ j, 0 ≤ j → j < σ 32 b → iR (ρ 6 j) := fun j j0 j1 => by
        rw [F2 j j0 j1]
        have := plG_R (x := bAt σ 30 b j % 10 + x) (y := bAt σ 30 b j / 10 + y) d0 d1
        omega
      have eW : wrF (σ 32 b) (rwP ρ (σ 32 b)) (pkC ρ 28) (ρ 28 2) (ρ 30 0) b (ρ 32) (bAt ρ 30) = wrF (σ 32 b) (rwP ρ (σ 32 b)) (pkC σ 28) (σ 28 2) (σ 30 0) b (σ 32) (bAt σ 30) := by
        have e1 : pkC ρ 28 = pkC σ 28 := by unfold pkC outB; rw [q28]
        have e2 : bAt ρ 30 = bAt σ 30 := by funext x y; exact bAt_t q32 q33 x y
        rw [e1, e2, q28, q30, q32]
      refine r_aload_n (dc dkX12_slide 56 rfl) rfl (np 107 rfl ?_)
      refine r_iload_n (dc dkX12_slide 57 rfl) rfl (np 108 rfl ?_)
      refine r_iload (dc dkX12_slide 58 rfl) rfl (np 110 rfl ?_)
      refine r_cV2 (y' := miX12_putAnew) (dc dkX12_slide 59 rfl) mlX12_255 ceX12_putAnew ob_0 (Nat.le_of_ble_eq_true rfl) (Nat.le_of_ble_eq_true rfl) (c_X12_putAnew oD oB oK oC (by omega) ⟨n3, s8⟩ oR) (fun r τ5 hp5 => (np 113 rfl ?_))
      obtain ⟨rfl, hk5⟩ := hp5
      exact r_iret (dc dkX12_slide 60 rfl) rfl (by rw [eW] at hk5 ⊢; exact ⟨fun z => absurd h18 z, fun _ => ⟨ρ, s6, F2, rfl, hk5⟩⟩)
    have e6 : ρ 6 i = bAt σ 30 b i := hI41.2.2.2 i (by omega) (by omega)
    have pg := bAt_p hB (b := b) (i := i) (by omega) (by omega) (show 0 < σ 32 b by omega) (by omega)
    rw [← e6] at pg
    replace pg : 0 ≤ ρ 6 i ∧ ρ 6 i ≤ 99 := pg
    refine r_aload_n (dc dkX12_slide 28 rfl) rfl (np 59 rfl ?_)
    refine r_getR (dc dkX12_slide 29 rfl) flX12_45 fd_0_7 (np 62 rfl ?_)
    refine r_iload (dc dkX12_slide 30 rfl) rfl (np 64 rfl ?_)
    refine r_aload (dc dkX12_slide 31 rfl) rfl (np 66 rfl ?_)
    refine r_aload_n (dc dkX12_slide 32 rfl) rfl (np 67 rfl ?_)
    refine r_getR (dc dkX12_slide 33 rfl) flX12_45 fd_0_7 (np 70 rfl ?_)
    refine r_iload (dc dkX12_slide 34 rfl) rfl (np 72 rfl ?_)
    refine r_iald (dc dkX12_slide 35 rfl) ar_6 (by omega) (np 73 rfl ?_)
    refine r_i2l (dc dkX12_slide 36 rfl) (by first | assumption | decide | omega) (np 74 rfl ?_)
    refine r_ldc2 (z := 10) (dc dkX12_slide 37 rfl) ckX12_258 (by decide) (np 77 rfl ?_)
    refine r_lremn (dc dkX12_slide 38 rfl) (by first | assumption | decide | omega) (by first | assumption | decide | omega) (np 78 rfl ?_)
    refine r_iload_n (dc dkX12_slide 39 rfl) rfl (np 79 rfl ?_)
    refine r_i2l (dc dkX12_slide 40 rfl) (by first | assumption | decide | omega) (np 80 rfl ?_)
    refine r_ladd (dc dkX12_slide 41 rfl) (np 81 rfl ?_)
    refine r_aload_n (dc dkX12_slide 42 rfl) rfl (np 82 rfl ?_)
    refine r_getR (dc dkX12_slide 43 rfl) flX12_45 fd_0_7 (np 85 rfl ?_)
    refine r_iload (dc dkX12_slide 44 rfl) rfl (np 87 rfl ?_)
    refine r_iald (dc dkX12_slide 45 rfl) ar_6 (by omega) (np 88 rfl ?_)
    refine r_i2l (dc dkX12_slide 46 rfl) (by first | assumption | decide | omega) (np 89 rfl ?_)
    refine r_ldc2 (z := 10) (dc dkX12_slide 47 rfl) ckX12_258 (by decide) (np 92 rfl ?_)
    refine r_ldivn (dc dkX12_slide 48 rfl) (by first | assumption | decide | omega) (by first | assumption | decide | omega) (np 93 rfl ?_)
    refine r_iload_n (dc dkX12_slide 49 rfl) rfl (np 94 rfl ?_)
    refine r_i2l (dc dkX12_slide 50 rfl) (by first | assumption | decide | omega) (np 95 rfl ?_)
    refine r_ladd (dc dkX12_slide 51 rfl) (np 96 rfl ?_)
    refine r_pV2 (y' := miX1_place) (dc dkX12_slide 52 rfl) mlX12_260 ceX1_place ob_28 (Nat.le_of_ble_eq_true rfl) (Nat.le_of_ble_eq_true rfl) (c_X1_place isBoard_at28 oD (by omega) (by omega)) (np 99 rfl ?_)
    refine r_iast (dc dkX12_slide 53 rfl) ar_6 (by omega) (np 100 rfl ?_)
    refine r_iinc (lv' := [(6, _), (0, _), (1, _), (2, _), (3, _), (4, _), (5, _)]) (dc dkX12_slide 54 rfl) (Nat.le_of_ble_eq_true rfl) rfl rfl (np 103 rfl ?_)
    refine r_goto (tgt := 41) (dc dkX12_slide 55 rfl) rfl ?_
    refine r_pick [1, 2, 3, 4, 5, 6, 0] rfl ?_
    exact ih41 _ _ ⟨by omega, s6.put (by decide), fun j j0 j1 => by
            by_cases hj : j = i
            · rw [hj, ju_at, q28, e6]
            · rw [ju_ne (by omega)]; exact hI41.2.2.1 j j0 (by omega), fun j j0 j1 => by rw [ju_ne (by omega)]; exact hI41.2.2.2 j (by omega) j1⟩ (by omega)
  refine r_iconst (dc dkX12_slide 9 rfl) (np 22 rfl ?_)
  exact r_iret (dc dkX12_slide 10 rfl) rfl ⟨fun _ => ⟨rfl, rfl⟩, fun z => absurd z h18⟩
set_option maxRecDepth 100000 in
set_option maxHeartbeats 4000000 in
theorem c_X12_snap {σ : jS} (hB : okB σ 30) (hn : ∀ b, 0 ≤ b → b < σ 30 0 → 3 ≤ σ 32 b) (hD : okD σ 28) (hK : okP σ) (hp : cB 8 (σ 0 6)) {b : Int} (hb : iR b) : Jm 6 miX12_snap [.ref 0, vI b] σ (fun r τ => (¬ (0 ≤ b ∧ b < σ 30 0) → r = some (vI (-1)) ∧ τ = σ) ∧ ((0 ≤ b ∧ b < σ 30 0) → r = some (vI (smI (fun p => bI (pkC σ 28 p = 1 ∧ hldB (σ 32 b) (bAt σ 30 b) p ∧ ¬ ∃ c, 0 ≤ c ∧ c < σ 30 0 ∧ ¬ c = b ∧ hldB (σ 32 c) (bAt σ 30 c) p)) 100)) ∧ ∃ ρ, KP σ ρ ∧ RM ρ τ 30 b)) := by
  have m8 := hB.1
  refine jm_ofF (Po := (fun r τ => (¬ (0 ≤ b ∧ b < σ 30 0) → r = some (vI (-1)) ∧ τ = σ) ∧ ((0 ≤ b ∧ b < σ 30 0) → r = some (vI (smI (fun p => bI (pkC σ 28 p = 1 ∧ hldB (σ 32 b) (bAt σ 30 b) p ∧ ¬ ∃ c, 0 ≤ c ∧ c < σ 30 0 ∧ ¬ c = b ∧ hldB (σ 32 c) (bAt σ 30 c) p)) 100)) ∧ ∃ ρ, KP σ ρ ∧ RM ρ τ 30 b))) (plainFor_of_name (by decide)) (Nat.le_of_ble_eq_true rfl) (lv := [(0, _), (1, _)]) rfl ?_
  refine r_aload_n (dc dkX12_snap 0 rfl) rfl (np 1 rfl ?_)
  refine r_getR (dc dkX12_snap 1 rfl) flX12_24 fd_0_2 (np 4 rfl ?_)
  refine r_getR (dc dkX12_snap 2 rfl) flX12_105 fd_27_1 (np 7 rfl ?_)
  refine r_astore_n (lv' := [(2, _), (0, _), (1, _)]) (dc dkX12_snap 3 rfl) (Nat.le_of_ble_eq_true rfl) rfl (np 8 rfl ?_)
  refine r_aload_n (dc dkX12_snap 4 rfl) rfl (np 9 rfl ?_)
  refine r_getR (dc dkX12_snap 5 rfl) flX12_167 fd_28_9 (np 12 rfl ?_)
  refine r_iload_n (dc dkX12_snap 6 rfl) rfl (np 13 rfl ?_)
  refine r_pV1 (y' := miX0_has) (dc dkX12_snap 7 rfl) mlX12_171 ceX0_has ob_30 (Nat.le_of_ble_eq_true rfl) (Nat.le_of_ble_eq_true rfl) (c_X0_has isBands_at30 hB hb) (np 16 rfl ?_)
  refine r_bn (tgt := 21) (dc dkX12_snap 8 rfl) rfl (fun h16 => ?_) (fun h16 => (np 19 rfl ?_))
  · skip
    replace h16 : 0 ≤ b ∧ b < σ 30 0 := h16
    refine r_iconst (dc dkX12_snap 11 rfl) (np 22 rfl ?_)
    refine r_istore_n (lv' := [(3, _), (2, _), (0, _), (1, _)]) (dc dkX12_snap 12 rfl) (Nat.le_of_ble_eq_true rfl) rfl (np 23 rfl ?_)
    refine r_iconst (dc dkX12_snap 13 rfl) (np 24 rfl ?_)
    refine r_istore (lv' := [(4, _), (3, _), (2, _), (0, _), (1, _)]) (dc dkX12_snap 14 rfl) (Nat.le_of_ble_eq_true rfl) rfl (np 26 rfl ?_)
    refine r_pick [3, 4, 2, 1, 0] (lv' := [(0, _), (1, _), (2, _), (3, _), (4, _)]) rfl ?_
    refine jlp2 (P := fun (s : Int) (i : Int) => jR _ _ _ 26 [(0, .ref 0), (1, vI b), (2, .ref 28), (3, vI s), (4, vI i)] [] σ) (I := fun (s : Int) (i : Int) => (0 ≤ i ∧ i ≤ 100) ∧ s = smI (fun p => bI (pkC σ 28 p = 1 ∧ hldB (σ 32 b) (bAt σ 30 b) p ∧ ¬ ∃ c, 0 ≤ c ∧ c < σ 30 0 ∧ ¬ c = b ∧ hldB (σ 32 c) (bAt σ 30 c) p)) i) (fun (s : Int) (i : Int) => (100 - i).toNat) ?_ _ _ ⟨by omega, rfl⟩
    intro s i hI26 ih26
    refine r_iload (dc dkX12_snap 15 rfl) rfl (np 28 rfl ?_)
    refine r_bipush (dc dkX12_snap 16 rfl) bp_100 (np 30 rfl ?_)
    refine r_icmp_ge (tgt := 78) (dc dkX12_snap 17 rfl) rfl (by first | assumption | decide | omega) (by first | assumption | decide | omega) (fun h30 => ?_) (fun h30 => (np 33 rfl ?_))
    · skip
      refine r_aload_n (dc dkX12_snap 38 rfl) rfl (np 79 rfl ?_)
      refine r_cV0 (y' := miX12_keepPast) (dc dkX12_snap 39 rfl) mlX12_267 ceX12_keepPast ob_0 (Nat.le_of_ble_eq_true rfl) (Nat.le_of_ble_eq_true rfl) (c_X12_keepPast hK hp) (fun r τ2 hp2 => (np 82 rfl ?_))
      obtain ⟨rfl, hk2⟩ := hp2
      have pq := pst_b (hk2.2.2.1.1 (min (σ 0 6) 7) (by omega) (by omega))
      have k6 : ∀ c, 28 ≤ c → c < 34 → τ2 c = σ c := fun c c0 c1 => hk2.2.2.2.2.2 c (by omega) (by omega) (by omega)
      have oB : okB τ2 30 := okB_t hB (k6 30 (by omega) (by omega)) (k6 31 (by omega) (by omega)) (k6 32 (by omega) (by omega)) (k6 33 (by omega) (by omega))
      refine r_aload_n (dc dkX12_snap 40 rfl) rfl (np 83 rfl ?_)
      refine r_getR (dc dkX12_snap 41 rfl) flX12_167 fd_28_9 (np 86 rfl ?_)
      refine r_iload_n (dc dkX12_snap 42 rfl) rfl (np 87 rfl ?_)
      refine r_cV1 (y' := miX0_remove) (dc dkX12_snap 43 rfl) mlX12_277 ceX0_remove ob_30 (Nat.le_of_ble_eq_true rfl) (Nat.le_of_ble_eq_true rfl) (c_X0_remove isBands_at30 oB hb) (fun r τ3 hp3 => (np 90 rfl ?_))
      obtain ⟨rfl, _, hk3⟩ := hp3
      refine r_iload_n (dc dkX12_snap 44 rfl) rfl (np 91 rfl ?_)
      exact r_iret (dc dkX12_snap 45 rfl) rfl ⟨fun z => absurd h16 z, fun _ => ⟨by rw [hI26.2, show i = 100 by omega], τ2, hk2, hk3 (by rw [k6 30 (by omega) (by omega)]; exact h16)⟩⟩
    refine r_aload_n (dc dkX12_snap 18 rfl) rfl (np 34 rfl ?_)
    refine r_iload (dc dkX12_snap 19 rfl) rfl (np 36 rfl ?_)
    refine r_pV1 (y' := miX1_pegAt) (dc dkX12_snap 20 rfl) mlX12_163 ceX1_pegAt ob_28 (Nat.le_of_ble_eq_true rfl) (Nat.le_of_ble_eq_true rfl) (c_X1_pegAt isBoard_at28 hD (by omega)) (np 39 rfl ?_)
    have pb := pkG_b (σ 28 0) (σ 28 1) (outB σ 28) i
    replace pb : -1 ≤ pkC σ 28 i ∧ pkC σ 28 i ≤ 1 := pb
    refine r_iconst (dc dkX12_snap 21 rfl) (np 40 rfl ?_)
    refine r_icmp_ne (tgt := 72) (dc dkX12_snap 22 rfl) rfl (by first | assumption | decide | omega) (by first | assumption | decide | omega) (fun h40 => ?_) (fun h40 => (np 43 rfl ?_))
    · skip
      refine r_iinc (lv' := [(4, _), (0, _), (1, _), (2, _), (3, _)]) (dc dkX12_snap 36 rfl) (Nat.le_of_ble_eq_true rfl) rfl rfl (np 75 rfl ?_)
      refine r_goto (tgt := 26) (dc dkX12_snap 37 rfl) rfl ?_
      refine r_pick [1, 2, 3, 4, 0] rfl ?_
      exact ih26 _ _ ⟨by omega, by rw [smI_s _ (by omega), ← hI26.2]; first | (rw [bI_t ⟨h40, h53, h66⟩]; done) | (rw [bI_f (fun z => h40 z.1), Int.add_zero]; done) | (rw [bI_f (fun z => h53 z.2.1), Int.add_zero]; done) | (rw [bI_f (fun z => z.2.2 h66), Int.add_zero]; done)⟩ (by omega)
    refine r_aload_n (dc dkX12_snap 23 rfl) rfl (np 44 rfl ?_)
    refine r_getR (dc dkX12_snap 24 rfl) flX12_167 fd_28_9 (np 47 rfl ?_)
    refine r_iload_n (dc dkX12_snap 25 rfl) rfl (np 48 rfl ?_)
    refine r_iload (dc dkX12_snap 26 rfl) rfl (np 50 rfl ?_)
    refine r_pV2 (y' := miX0_holds) (dc dkX12_snap 27 rfl) mlX12_274 ceX0_holds ob_30 (Nat.le_of_ble_eq_true rfl) (Nat.le_of_ble_eq_true rfl) (c_X0_holds isBands_at30 hB (by omega) (by omega) (by omega)) (np 53 rfl ?_)
    refine r_bz (tgt := 72) (dc dkX12_snap 28 rfl) rfl (fun h53 => ?_) (fun h53 => (np 56 rfl ?_))
    · skip
      refine r_iinc (lv' := [(4, _), (0, _), (1, _), (2, _), (3, _)]) (dc dkX12_snap 36 rfl) (Nat.le_of_ble_eq_true rfl) rfl rfl (np 75 rfl ?_)
      refine r_goto (tgt := 26) (dc dkX12_snap 37 rfl) rfl ?_
      refine r_pick [1, 2, 3, 4, 0] rfl ?_
      exact ih26 _ _ ⟨by omega, by rw [smI_s _ (by omega), ← hI26.2]; first | (rw [bI_t ⟨h40, h53, h66⟩]; done) | (rw [bI_f (fun z => h40 z.1), Int.add_zero]; done) | (rw [bI_f (fun z => h53 z.2.1), Int.add_zero]; done) | (rw [bI_f (fun z => z.2.2 h66), Int.add_zero]; done)⟩ (by omega)
    refine r_aload_n (dc dkX12_snap 29 rfl) rfl (np 57 rfl ?_)
    refine r_getR (dc dkX12_snap 30 rfl) flX12_167 fd_28_9 (np 60 rfl ?_)
    refine r_iload (dc dkX12_snap 31 rfl) rfl (np 62 rfl ?_)
    refine r_iload_n (dc dkX12_snap 32 rfl) rfl (np 63 rfl ?_)
    refine r_pV2 (y' := miX0_anyHolds) (dc dkX12_snap 33 rfl) mlX12_248 ceX0_anyHolds ob_30 (Nat.le_of_ble_eq_true rfl) (Nat.le_of_ble_eq_true rfl) (c_X0_anyHolds isBands_at30 hB (by omega) hb) (np 66 rfl ?_)
    refine r_bn (tgt := 72) (dc dkX12_snap 34 rfl) rfl (fun h66 => ?_) (fun h66 => (np 69 rfl ?_))
    · skip
      refine r_iinc (lv' := [(4, _), (0, _), (1, _), (2, _), (3, _)]) (dc dkX12_snap 36 rfl) (Nat.le_of_ble_eq_true rfl) rfl rfl (np 75 rfl ?_)
      refine r_goto (tgt := 26) (dc dkX12_snap 37 rfl) rfl ?_
      refine r_pick [1, 2, 3, 4, 0] rfl ?_
      exact ih26 _ _ ⟨by omega, by rw [smI_s _ (by omega), ← hI26.2]; first | (rw [bI_t ⟨h40, h53, h66⟩]; done) | (rw [bI_f (fun z => h40 z.1), Int.add_zero]; done) | (rw [bI_f (fun z => h53 z.2.1), Int.add_zero]; done) | (rw [bI_f (fun z => z.2.2 h66), Int.add_zero]; done)⟩ (by omega)
    refine r_iinc (lv' := [(3, _), (0, _), (1, _), (2, _), (4, _)]) (dc dkX12_snap 35 rfl) (Nat.le_of_ble_eq_true rfl) rfl rfl (np 72 rfl ?_)
    refine r_iinc (lv' := [(4, _), (3, _), (0, _), (1, _), (2, _)]) (dc dkX12_snap 36 rfl) (Nat.le_of_ble_eq_true rfl) rfl rfl (np 75 rfl ?_)
    refine r_goto (tgt := 26) (dc dkX12_snap 37 rfl) rfl ?_
    refine r_pick [2, 3, 4, 1, 0] rfl ?_
    exact ih26 _ _ ⟨by omega, by rw [smI_s _ (by omega), ← hI26.2]; first | (rw [bI_t ⟨h40, h53, h66⟩]; done) | (rw [bI_f (fun z => h40 z.1), Int.add_zero]; done) | (rw [bI_f (fun z => h53 z.2.1), Int.add_zero]; done) | (rw [bI_f (fun z => z.2.2 h66), Int.add_zero]; done)⟩ (by omega)
  refine r_iconst (dc dkX12_snap 9 rfl) (np 20 rfl ?_)
  exact r_iret (dc dkX12_snap 10 rfl) rfl ⟨fun _ => ⟨rfl, rfl⟩, fun z => absurd z h16⟩
