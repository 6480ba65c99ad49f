theorem pkR_1 {σ τ : jS} (e : τ 113 = σ 113) {p : Int} (p0 : 0 ≤ p) : bI ((0 ≤ p % 10 ∧ 0 ≤ p / 10 ∧ p % 10 < τ 113 0 ∧ p / 10 < τ 113 1) ∧ τ 113 (5 + 10 * (p / 10) + p % 10) = 0) = bI (pkR σ 113 p = 1) := by
  refine bI_iff ?_
  unfold pkR
  rw [e, show 5 + 10 * (p / 10) + p % 10 = 5 + p by omega]
  constructor
  · intro h
    rw [if_pos (by omega), if_pos h.2]
  · intro h
    split at h
    · split at h
      · exact ⟨by omega, by assumption⟩
      · omega
    · omega
/-- what the reference asks of a three -/
def QR (on wi a b c : Int) : Prop := ¬ ((tn a b c).natAbs : Int) = 0 ∧ pts a b + pts b c + pts c a = on ∧ (((tn a b c).natAbs : Int) - (pts a b + pts b c + pts c a) + 2).tdiv 2 = wi
noncomputable def HR3 (pk : Int → Int) (Q : Int → Int → Int → Prop) (a b c : Int) : List Int := lif (pk c = 1) (lif (b < c ∧ Q a b c) [cd3 a b c])
noncomputable def GR3 (pk : Int → Int) (Q : Int → Int → Int → Prop) (a b : Int) : List Int := lif (pk b = 1) (lif (a < b) (fl (HR3 pk Q a b) 100))
noncomputable def FR3 (pk : Int → Int) (Q : Int → Int → Int → Prop) (a : Int) : List Int := lif (pk a = 1) (fl (GR3 pk Q a) 100)
theorem FR3_TL (pk : Int → Int) (Q : Int → Int → Int → Prop) : fl (FR3 pk Q) 100 = TL pk Q := rfl
theorem FR3_at {pk : Int → Int} {Q : Int → Int → Int → Prop} {a b c : Int} (ha : 0 ≤ a ∧ a < 100) (hb : a < b ∧ b < 100) (hc : b < c ∧ c < 100) (pa : pk a = 1) (pb : pk b = 1) (pc : pk c = 1) (q : Q a b c) :
    (fl (FR3 pk Q) a ++ (fl (GR3 pk Q a) b ++ fl (HR3 pk Q a b) c)) ++ [cd3 a b c] <+: TL pk Q := by
  rw [← FR3_TL]
  refine List.IsPrefix.trans ?_ (fl_pre ha.1 ha.2)
  rw [List.append_assoc, List.append_assoc]
  refine pre_in ?_
  unfold FR3
  rw [lif_t pa]
  refine List.IsPrefix.trans ?_ (fl_pre (show 0 ≤ b by omega) hb.2)
  refine pre_in ?_
  rw [show GR3 pk Q a b = fl (HR3 pk Q a b) 100 by unfold GR3; rw [lif_t pb, lif_t hb.1]]
  refine List.IsPrefix.trans ?_ (fl_pre (show 0 ≤ c by omega) hc.2)
  refine pre_in ?_
  rw [show HR3 pk Q a b c = [cd3 a b c] by unfold HR3; rw [lif_t pc, lif_t ⟨hc.1, q⟩]]
  exact List.prefix_refl _
theorem HR3_t {pk : Int → Int} {Q : Int → Int → Int → Prop} {a b c : Int} (hc : b < c) (pc : pk c = 1) (q : Q a b c) : HR3 pk Q a b c = [cd3 a b c] := by unfold HR3; rw [lif_t pc, lif_t ⟨hc, q⟩]
theorem HR3_f {pk : Int → Int} {Q : Int → Int → Int → Prop} {a b c : Int} (q : ¬ Q a b c) : HR3 pk Q a b c = [] := by
  unfold HR3
  rw [lif_f (P := b < c ∧ Q a b c) (fun z => q z.2)]
  by_cases h : pk c = 1
  · exact lif_t h
  · exact lif_f h
theorem HR3_0 {pk : Int → Int} {Q : Int → Int → Int → Prop} {a b : Int} : fl (HR3 pk Q a b) (b + 1) = [] := fl_nil (fun c c0 c1 => by
  unfold HR3
  rw [lif_f (P := b < c ∧ Q a b c) (fun z => by omega)]
  by_cases h : pk c = 1
  · exact lif_t h
  · exact lif_f h)
theorem GR3_0 {pk : Int → Int} {Q : Int → Int → Int → Prop} {a : Int} : fl (GR3 pk Q a) (a + 1) = [] := fl_nil (fun c c0 c1 => by
  unfold GR3
  rw [lif_f (show ¬ a < c by omega)]
  by_cases h : pk c = 1
  · exact lif_t h
  · exact lif_f h)
theorem R3_len {pk : Int → Int} {Q : Int → Int → Int → Prop} {a b c : Int} (hi : a ≤ 100) (hj : b ≤ 100) (hl : c ≤ 100) : (fl (FR3 pk Q) a ++ (fl (GR3 pk Q a) b ++ fl (HR3 pk Q a b) c)).length ≤ 1100000 := by
  have h1 : ∀ i j l, (HR3 pk Q i j l).length ≤ 1 := fun i j l => lif_len (lif_len (by simp))
  have h2 : ∀ i j, (GR3 pk Q i j).length ≤ 100 * 1 := fun i j => lif_len (lif_len (fl_len (h1 i j) (by decide)))
  have h3 : ∀ i, (FR3 pk Q i).length ≤ 100 * (100 * 1) := fun i => lif_len (fl_len (h2 i) (by decide))
  have x := fl_len (h1 a b) hl
  have y := fl_len (h2 a) hj
  have z := fl_len h3 hi
  rw [List.length_append, List.length_append]
  omega
/-- the area found is that of one of them -/
def AFp (Q : Int → Int → Int → Prop) (L : List Int) (v : Int) : Prop := (L = [] ∧ v = -1) ∨ (¬ L = [] ∧ ∃ a b c, (cB 99 a ∧ cB 99 b ∧ cB 99 c) ∧ Q a b c ∧ v = (tn a b c).natAbs)
theorem AFp_b {Q : Int → Int → Int → Prop} {L : List Int} {v : Int} (h : AFp Q L v) : -1 ≤ v ∧ v ≤ 162 := by
  rcases h with h | ⟨_, a, b, c, h, _, hv⟩
  · omega
  · have := tn_b h.1 h.2.1 h.2.2
    omega
theorem AFp_n {Q : Int → Int → Int → Prop} {L : List Int} {v a b c x : Int} (h : (cB 99 a ∧ cB 99 b ∧ cB 99 c)) (q : Q a b c) (e : v = (tn a b c).natAbs) : AFp Q (L ++ [x]) v := Or.inr ⟨by simp, a, b, c, h, q, e⟩
theorem AFp_k {Q : Int → Int → Int → Prop} {L : List Int} {v x : Int} (h : AFp Q L v) (hv : ¬ v = -1) : AFp Q (L ++ [x]) v := by
  rcases h with h | h
  · exact absurd h.2 hv
  · exact Or.inr ⟨by simp, h.2⟩
theorem td2_b {x M : Int} (h : -M ≤ x ∧ x ≤ M) : -M ≤ x.tdiv 2 ∧ x.tdiv 2 ≤ M := by
  by_cases c : 0 ≤ x
  · rw [Int.tdiv_eq_ediv_of_nonneg c]; omega
  · have e : x.tdiv 2 = -((-x).tdiv 2) := by rw [Int.neg_tdiv, Int.neg_neg]
    rw [e, Int.tdiv_eq_ediv_of_nonneg (by omega)]; omega
theorem nthL_b {pk : Int → Int} {Q : Int → Int → Int → Prop} : iR (nthL (TL pk Q) 0) := by
  have hp : ∀ L : List Int, (∀ x ∈ L, iR x) → iR (nthL L 0) := by
    intro L hL
    unfold nthL
    rw [if_neg (by decide)]
    split
    · rename_i h
      rw [show Int.toNat 0 = 0 from rfl, gDe (by omega)]
      exact hL _ (List.getElem_mem _)
    · decide
  refine hp _ (fun x hx => ?_)
  have hf : ∀ (f : Int → List Int), (∀ i : Int, 0 ≤ i → i < 100 → ∀ x ∈ f i, iR x) → ∀ n : Nat, n ≤ 100 → ∀ x ∈ flN f n, iR x := by
    intro f h n
    induction n with
    | zero => intro _ x hx; simp [flN] at hx
    | succ n ih =>
      intro hn x hx
      rw [flN, List.mem_append] at hx
      rcases hx with hx | hx
      · exact ih (by omega) x hx
      · exact h n (by omega) (by omega) x hx
  have hl : ∀ (P : Prop) (L : List Int), (∀ x ∈ L, iR x) → ∀ x ∈ lif P L, iR x := by
    intro P L h x hx
    by_cases c : P
    · rw [lif_t c] at hx; exact h x hx
    · rw [lif_f c] at hx; simp at hx
  unfold TL fl at hx
  refine hf _ (fun a a0 a1 => hl _ _ (hf _ (fun b b0 b1 => hl _ _ (hl _ _ (hf _ (fun c c0 c1 => hl _ _ (hl _ _ (fun x hx => ?_))) _ (Nat.le_refl _)))) _ (Nat.le_refl _))) _ (Nat.le_refl _) x hx
  simp at hx
  unfold cd3 at hx
  constructor <;> omega
set_option maxRecDepth 100000 in
set_option maxHeartbeats 4000000 in
theorem c_X12_triangles {σ : jS} (hD : okD σ 28) {on wi : Int} (hon : iR on) (hwi : iR wi) {k : Int} (hk : iR k) : Jm 5 miX12_triangles [.ref 0, vI on, vI wi, vI k] σ (fun r τ => r = some (vI (gte ((0 ≤ on ∧ on ≤ 999) ∧ (0 ≤ wi ∧ wi ≤ 999) ∧ 0 < σ 28 0) (nthL (TL (pkC σ 28) (QC (σ 28 0) (σ 28 1) on wi)) k) (-1))) ∧ same [15, 16] σ τ) := by
  refine jm_ofF (Po := (fun r τ => r = some (vI (gte ((0 ≤ on ∧ on ≤ 999) ∧ (0 ≤ wi ∧ wi ≤ 999) ∧ 0 < σ 28 0) (nthL (TL (pkC σ 28) (QC (σ 28 0) (σ 28 1) on wi)) k) (-1))) ∧ same [15, 16] σ τ)) (plainFor_of_name (by decide)) (Nat.le_of_ble_eq_true rfl) (lv := [(0, _), (1, _), (2, _), (3, _)]) rfl ?_
  refine r_iload_n (dc dkX12_triangles 0 rfl) rfl (np 1 rfl ?_)
  refine r_pS1 (y' := miX12_isCount) (dc dkX12_triangles 1 rfl) mlX12_313 seX12_isCount (Nat.le_of_ble_eq_true rfl) (Nat.le_of_ble_eq_true rfl) (c_X12_isCount (by omega)) (np 4 rfl ?_)
  refine r_bz (tgt := 27) (dc dkX12_triangles 2 rfl) rfl (fun h4 => ?_) (fun h4 => (np 7 rfl ?_))
  · skip
    refine r_iconst (dc dkX12_triangles 11 rfl) (np 28 rfl ?_)
    exact r_iret (dc dkX12_triangles 12 rfl) rfl ⟨congrArg (fun z => some (vI z)) (by rw [gte_f (by omega)]), same.refl _ _⟩
  refine r_iload_n (dc dkX12_triangles 3 rfl) rfl (np 8 rfl ?_)
  refine r_pS1 (y' := miX12_isCount) (dc dkX12_triangles 4 rfl) mlX12_313 seX12_isCount (Nat.le_of_ble_eq_true rfl) (Nat.le_of_ble_eq_true rfl) (c_X12_isCount (by omega)) (np 11 rfl ?_)
  refine r_bz (tgt := 27) (dc dkX12_triangles 5 rfl) rfl (fun h11 => ?_) (fun h11 => (np 14 rfl ?_))
  · skip
    refine r_iconst (dc dkX12_triangles 11 rfl) (np 28 rfl ?_)
    exact r_iret (dc dkX12_triangles 12 rfl) rfl ⟨congrArg (fun z => some (vI z)) (by rw [gte_f (by omega)]), same.refl _ _⟩
  refine r_aload_n (dc dkX12_triangles 6 rfl) rfl (np 15 rfl ?_)
  refine r_getR (dc dkX12_triangles 7 rfl) flX12_24 fd_0_2 (np 18 rfl ?_)
  refine r_getR (dc dkX12_triangles 8 rfl) flX12_105 fd_27_1 (np 21 rfl ?_)
  refine r_pV0 (y' := miX1_isTold) (dc dkX12_triangles 9 rfl) mlX12_316 ceX1_isTold ob_28 (Nat.le_of_ble_eq_true rfl) (Nat.le_of_ble_eq_true rfl) (c_X1_isTold isBoard_at28 hD) (np 24 rfl ?_)
  refine r_bn (tgt := 29) (dc dkX12_triangles 10 rfl) rfl (fun h24 => ?_) (fun h24 => (np 27 rfl ?_))
  · skip
    refine r_aload_n (dc dkX12_triangles 13 rfl) rfl (np 30 rfl ?_)
    refine r_getR (dc dkX12_triangles 14 rfl) flX12_67 fd_0_10 (np 33 rfl ?_)
    refine r_aload_n (dc dkX12_triangles 15 rfl) rfl (np 34 rfl ?_)
    refine r_getR (dc dkX12_triangles 16 rfl) flX12_24 fd_0_2 (np 37 rfl ?_)
    refine r_getR (dc dkX12_triangles 17 rfl) flX12_105 fd_27_1 (np 40 rfl ?_)
    refine r_iload_n (dc dkX12_triangles 18 rfl) rfl (np 41 rfl ?_)
    refine r_iload_n (dc dkX12_triangles 19 rfl) rfl (np 42 rfl ?_)
    refine r_iload_n (dc dkX12_triangles 20 rfl) rfl (np 43 rfl ?_)
    refine r_cV4 (y' := miX6_findTriangle) (dc dkX12_triangles 21 rfl) mlX12_319 ceX6_findTriangle ob_15 (Nat.le_of_ble_eq_true rfl) (Nat.le_of_ble_eq_true rfl) (c_X6_findTriangle hD h4 h11 (by omega)) (fun r τ hp => (np 46 rfl ?_))
    obtain ⟨rfl, S⟩ := hp
    exact r_iret (dc dkX12_triangles 22 rfl) rfl ⟨congrArg (fun z => some (vI z)) (by rw [gte_t ⟨h4, h11, h24⟩]), S⟩
  refine r_iconst (dc dkX12_triangles 11 rfl) (np 28 rfl ?_)
  exact r_iret (dc dkX12_triangles 12 rfl) rfl ⟨congrArg (fun z => some (vI z)) (by rw [gte_f (by omega)]), same.refl _ _⟩
set_option maxRecDepth 100000 in
set_option maxHeartbeats 4000000 in
theorem c_X12_smallest {σ : jS} (hD : okD σ 28) {on wi : Int} (hon : iR on) (hwi : iR wi) : Jm 5 miX12_smallest [.ref 0, vI on, vI wi] σ (fun r τ => r = some (vI (gte ((0 ≤ on ∧ on ≤ 999) ∧ (0 ≤ wi ∧ wi ≤ 999) ∧ 0 < σ 28 0) (if nthL (TL (pkC σ 28) (QC (σ 28 0) (σ 28 1) on wi)) 0 = -1 then -1 else 2 * wi + on - 2) (-1))) ∧ same [15, 16] σ τ) := by
  refine jm_ofF (Po := (fun r τ => r = some (vI (gte ((0 ≤ on ∧ on ≤ 999) ∧ (0 ≤ wi ∧ wi ≤ 999) ∧ 0 < σ 28 0) (if nthL (TL (pkC σ 28) (QC (σ 28 0) (σ 28 1) on wi)) 0 = -1 then -1 else 2 * wi + on - 2) (-1))) ∧ same [15, 16] σ τ)) (plainFor_of_name (by decide)) (Nat.le_of_ble_eq_true rfl) (lv := [(0, _), (1, _), (2, _)]) rfl ?_
  refine r_iload_n (dc dkX12_smallest 0 rfl) rfl (np 1 rfl ?_)
  refine r_pS1 (y' := miX12_isCount) (dc dkX12_smallest 1 rfl) mlX12_313 seX12_isCount (Nat.le_of_ble_eq_true rfl) (Nat.le_of_ble_eq_true rfl) (c_X12_isCount (by omega)) (np 4 rfl ?_)
  refine r_bz (tgt := 27) (dc dkX12_smallest 2 rfl) rfl (fun h4 => ?_) (fun h4 => (np 7 rfl ?_))
  · skip
    refine r_iconst (dc dkX12_smallest 11 rfl) (np 28 rfl ?_)
    exact r_iret (dc dkX12_smallest 12 rfl) rfl ⟨congrArg (fun z => some (vI z)) (by rw [gte_f (by omega)]), same.refl _ _⟩
  refine r_iload_n (dc dkX12_smallest 3 rfl) rfl (np 8 rfl ?_)
  refine r_pS1 (y' := miX12_isCount) (dc dkX12_smallest 4 rfl) mlX12_313 seX12_isCount (Nat.le_of_ble_eq_true rfl) (Nat.le_of_ble_eq_true rfl) (c_X12_isCount (by omega)) (np 11 rfl ?_)
  refine r_bz (tgt := 27) (dc dkX12_smallest 5 rfl) rfl (fun h11 => ?_) (fun h11 => (np 14 rfl ?_))
  · skip
    refine r_iconst (dc dkX12_smallest 11 rfl) (np 28 rfl ?_)
    exact r_iret (dc dkX12_smallest 12 rfl) rfl ⟨congrArg (fun z => some (vI z)) (by rw [gte_f (by omega)]), same.refl _ _⟩
  refine r_aload_n (dc dkX12_smallest 6 rfl) rfl (np 15 rfl ?_)
  refine r_getR (dc dkX12_smallest 7 rfl) flX12_24 fd_0_2 (np 18 rfl ?_)
  refine r_getR (dc dkX12_smallest 8 rfl) flX12_105 fd_27_1 (np 21 rfl ?_)
  refine r_pV0 (y' := miX1_isTold) (dc dkX12_smallest 9 rfl) mlX12_316 ceX1_isTold ob_28 (Nat.le_of_ble_eq_true rfl) (Nat.le_of_ble_eq_true rfl) (c_X1_isTold isBoard_at28 hD) (np 24 rfl ?_)
  refine r_bn (tgt := 29) (dc dkX12_smallest 10 rfl) rfl (fun h24 => ?_) (fun h24 => (np 27 rfl ?_))
  · skip
    refine r_aload_n (dc dkX12_smallest 13 rfl) rfl (np 30 rfl ?_)
    refine r_getR (dc dkX12_smallest 14 rfl) flX12_67 fd_0_10 (np 33 rfl ?_)
    refine r_aload_n (dc dkX12_smallest 15 rfl) rfl (np 34 rfl ?_)
    refine r_getR (dc dkX12_smallest 16 rfl) flX12_24 fd_0_2 (np 37 rfl ?_)
    refine r_getR (dc dkX12_smallest 17 rfl) flX12_105 fd_27_1 (np 40 rfl ?_)
    refine r_iload_n (dc dkX12_smallest 18 rfl) rfl (np 41 rfl ?_)
    refine r_iload_n (dc dkX12_smallest 19 rfl) rfl (np 42 rfl ?_)
    refine r_iconst (dc dkX12_smallest 20 rfl) (np 43 rfl ?_)
    refine r_cV4 (y' := miX6_findTriangle) (dc dkX12_smallest 21 rfl) mlX12_319 ceX6_findTriangle ob_15 (Nat.le_of_ble_eq_true rfl) (Nat.le_of_ble_eq_true rfl) (c_X6_findTriangle hD h4 h11 (by omega)) (fun r τ hp => (np 46 rfl ?_))
    obtain ⟨rfl, S⟩ := hp
    refine r_iconst (dc dkX12_smallest 22 rfl) (np 47 rfl ?_)
    refine r_icmp_ne (tgt := 54) (dc dkX12_smallest 23 rfl) rfl nthL_b (by first | assumption | decide | omega) (fun h47 => ?_) (fun h47 => (np 50 rfl ?_))
    · skip
      refine r_iload_n (dc dkX12_smallest 26 rfl) rfl (np 55 rfl ?_)
      refine r_iload_n (dc dkX12_smallest 27 rfl) rfl (np 56 rfl ?_)
      refine r_pS2 (y' := miX6_areaWith) (dc dkX12_smallest 28 rfl) mlX12_323 seX6_areaWith (Nat.le_of_ble_eq_true rfl) (Nat.le_of_ble_eq_true rfl) (c_X6_areaWith ) (np 59 rfl ?_)
      exact r_iret (dc dkX12_smallest 29 rfl) rfl ⟨congrArg (fun z => some (vI z)) (by rw [gte_t ⟨h4, h11, h24⟩]; first | (rw [if_pos h47]; done) | (rw [if_neg h47]; done)), S⟩
    refine r_iconst (dc dkX12_smallest 24 rfl) (np 51 rfl ?_)
    refine r_goto (tgt := 59) (dc dkX12_smallest 25 rfl) rfl ?_
    exact r_iret (dc dkX12_smallest 29 rfl) rfl ⟨congrArg (fun z => some (vI z)) (by rw [gte_t ⟨h4, h11, h24⟩]; first | (rw [if_pos h47]; done) | (rw [if_neg h47]; done)), S⟩
  refine r_iconst (dc dkX12_smallest 11 rfl) (np 28 rfl ?_)
  exact r_iret (dc dkX12_smallest 12 rfl) rfl ⟨congrArg (fun z => some (vI z)) (by rw [gte_f (by omega)]), same.refl _ _⟩
set_option maxRecDepth 100000 in
set_option maxHeartbeats 4000000 in
theorem c_X13_goTriangles {σ : jS} (hN : okN σ) {on wi k : Int} (hon : cB 999 on) (hwi : cB 999 wi) (hk : iR k) : Jm 3 miX13_goTriangles [.ref 111, vI on, vI wi, vI k] σ (fun r τ => r = some (vI (nthL (TL (pkR σ 113) (QR on wi)) k)) ∧ mdT [37] [] σ τ ∧ (k = -1 → AFp (QR on wi) (TL (pkR σ 113) (QR on wi)) (τ 111 37))) := by
  refine jm_ofF (Po := (fun r τ => r = some (vI (nthL (TL (pkR σ 113) (QR on wi)) k)) ∧ mdT [37] [] σ τ ∧ (k = -1 → AFp (QR on wi) (TL (pkR σ 113) (QR on wi)) (τ 111 37)))) (plainFor_of_name (by decide)) (Nat.le_of_ble_eq_true rfl) (lv := [(0, _), (1, _), (2, _), (3, _)]) rfl ?_
  refine r_iconst (dc dkX13_goTriangles 0 rfl) (np 1 rfl ?_)
  refine r_istore (lv' := [(4, _), (0, _), (1, _), (2, _), (3, _)]) (dc dkX13_goTriangles 1 rfl) (Nat.le_of_ble_eq_true rfl) rfl (np 3 rfl ?_)
  refine r_aload_n (dc dkX13_goTriangles 2 rfl) rfl (np 4 rfl ?_)
  refine r_iconst (dc dkX13_goTriangles 3 rfl) (np 5 rfl ?_)
  refine r_pI 37 (dc dkX13_goTriangles 4 rfl) fpX13_408 fd_111_37 rfl (np 8 rfl ?_)
  refine r_abs (fun ρ => mdT [37] [] σ ρ ∧ ρ 111 37 = -1) ⟨(mdT.refl _ _ _).put (by decide), ju_at _ _ _ _⟩ ?_
  intro τ0 hq0
  obtain ⟨S0, E0⟩ := hq0
  refine r_iconst (dc dkX13_goTriangles 5 rfl) (np 9 rfl ?_)
  refine r_istore (lv' := [(5, _), (4, _), (0, _), (1, _), (2, _), (3, _)]) (dc dkX13_goTriangles 6 rfl) (Nat.le_of_ble_eq_true rfl) rfl (np 11 rfl ?_)
  refine r_pick [2, 3, 4, 5, 1, 0] (lv' := [(0, _), (1, _), (2, _), (3, _), (4, _), (5, _)]) rfl ?_
  refine jlp3 (P := fun (n : Int) (p : Int) (τ : jS) => jR _ _ _ 11 [(0, .ref 111), (1, vI on), (2, vI wi), (3, vI k), (4, vI n), (5, vI p)] [] τ) (I := fun (n : Int) (p : Int) (τ : jS) => (0 ≤ p ∧ p ≤ 100) ∧ mdT [37] [] σ τ ∧ (n = (fl (FR3 (pkR σ 113) (QR on wi)) p).length ∧ ¬ (0 ≤ k ∧ k < n)) ∧ AFp (QR on wi) (fl (FR3 (pkR σ 113) (QR on wi)) p) (τ 111 37)) (fun (n : Int) (p : Int) (τ : jS) => (100 - p).toNat) ?_ _ _ _ ⟨by omega, S0, ⟨rfl, by omega⟩, Or.inl ⟨rfl, E0⟩⟩
  intro n p τ hI11 ih11
  have S := hI11.2.1
  have e13 : τ 113 = σ 113 := S.1 113 (by decide) (by decide)
  have hNt := okN_c hN e13
  have vb := AFp_b hI11.2.2.2
  refine r_iload (dc dkX13_goTriangles 7 rfl) rfl (np 13 rfl ?_)
  refine r_bipush (dc dkX13_goTriangles 8 rfl) bp_100 (np 15 rfl ?_)
  refine r_icmp_ge (tgt := 305) (dc dkX13_goTriangles 9 rfl) rfl (by first | assumption | decide | omega) (by first | assumption | decide | omega) (fun h15 => ?_) (fun h15 => (np 18 rfl ?_))
  · skip
    refine r_iload_n (dc dkX13_goTriangles 158 rfl) rfl (np 306 rfl ?_)
    refine r_iconst (dc dkX13_goTriangles 159 rfl) (np 307 rfl ?_)
    refine r_icmp_ne (tgt := 315) (dc dkX13_goTriangles 160 rfl) rfl (by first | assumption | decide | omega) (by first | assumption | decide | omega) (fun h307 => ?_) (fun h307 => (np 310 rfl ?_))
    · skip
      refine r_iconst (dc dkX13_goTriangles 163 rfl) (np 316 rfl ?_)
      exact r_iret (dc dkX13_goTriangles 164 rfl) rfl (by rw [show p = 100 by omega, FR3_TL] at hI11; refine ⟨congrArg (fun z => some (vI z)) ?_, S, fun _ => hI11.2.2.2⟩; rw [nthL_end hI11.2.2.1.1 hI11.2.2.1.2]; first | (rw [if_pos (by omega)]; done) | (rw [if_neg (by omega)]; done))
    refine r_iload (dc dkX13_goTriangles 161 rfl) rfl (np 312 rfl ?_)
    refine r_goto (tgt := 316) (dc dkX13_goTriangles 162 rfl) rfl ?_
    exact r_iret (dc dkX13_goTriangles 164 rfl) rfl (by rw [show p = 100 by omega, FR3_TL] at hI11; refine ⟨congrArg (fun z => some (vI z)) ?_, S, fun _ => hI11.2.2.2⟩; rw [nthL_end hI11.2.2.1.1 hI11.2.2.1.2]; first | (rw [if_pos (by omega)]; done) | (rw [if_neg (by omega)]; done))
  refine r_iload (dc dkX13_goTriangles 10 rfl) rfl (np 20 rfl ?_)
  refine r_bipush (dc dkX13_goTriangles 11 rfl) bp_10 (np 22 rfl ?_)
  refine r_iremn (dc dkX13_goTriangles 12 rfl) (by first | assumption | decide | omega) (by first | assumption | decide | omega) (np 23 rfl ?_)
  refine r_istore (lv' := [(6, _), (0, _), (1, _), (2, _), (3, _), (4, _), (5, _)]) (dc dkX13_goTriangles 13 rfl) (Nat.le_of_ble_eq_true rfl) rfl (np 25 rfl ?_)
  refine r_iload (dc dkX13_goTriangles 14 rfl) rfl (np 27 rfl ?_)
  refine r_bipush (dc dkX13_goTriangles 15 rfl) bp_10 (np 29 rfl ?_)
  refine r_idivn (dc dkX13_goTriangles 16 rfl) (by first | assumption | decide | omega) (by first | assumption | decide | omega) (np 30 rfl ?_)
  refine r_istore (lv' := [(7, _), (6, _), (0, _), (1, _), (2, _), (3, _), (4, _), (5, _)]) (dc dkX13_goTriangles 17 rfl) (Nat.le_of_ble_eq_true rfl) rfl (np 32 rfl ?_)
  refine r_aload_n (dc dkX13_goTriangles 18 rfl) rfl (np 33 rfl ?_)
  refine r_getR (dc dkX13_goTriangles 19 rfl) flX13_13 fd_111_15 (np 36 rfl ?_)
  refine r_iload (dc dkX13_goTriangles 20 rfl) rfl (np 38 rfl ?_)
  refine r_iload (dc dkX13_goTriangles 21 rfl) rfl (np 40 rfl ?_)
  refine r_pS3 (y' := miX13_isPeg) (dc dkX13_goTriangles 22 rfl) mlX13_226 seX13_isPeg (Nat.le_of_ble_eq_true rfl) (Nat.le_of_ble_eq_true rfl) (c_X13_isPeg ar_113 (by decide) hNt.1 (by omega) (by omega)) (np 43 rfl ?_)
  refine r_eqI _ (pkR_1 e13 (by omega)) ?_
  refine r_bn (tgt := 49) (dc dkX13_goTriangles 23 rfl) rfl (fun h43 => ?_) (fun h43 => (np 46 rfl ?_))
  · skip
    refine r_iload (dc dkX13_goTriangles 25 rfl) rfl (np 51 rfl ?_)
    refine r_iconst (dc dkX13_goTriangles 26 rfl) (np 52 rfl ?_)
    refine r_iadd (dc dkX13_goTriangles 27 rfl) (np 53 rfl ?_)
    refine r_istore (lv' := [(8, _), (7, _), (6, _), (0, _), (1, _), (2, _), (3, _), (4, _), (5, _)]) (dc dkX13_goTriangles 28 rfl) (Nat.le_of_ble_eq_true rfl) rfl (np 55 rfl ?_)
    refine r_pick [3, 4, 5, 6, 7, 8, 2, 1, 0] (lv' := [(0, _), (1, _), (2, _), (3, _), (4, _), (5, _), (6, _), (7, _), (8, _)]) rfl ?_
    refine jlp3 (P := fun (n : Int) (q : Int) (τ : jS) => jR _ _ _ 55 [(0, .ref 111), (1, vI on), (2, vI wi), (3, vI k), (4, vI n), (5, vI p), (6, vI (p % 10)), (7, vI (p / 10)), (8, vI q)] [] τ) (I := fun (n : Int) (q : Int) (τ : jS) => (p + 1 ≤ q ∧ q ≤ 100) ∧ mdT [37] [] σ τ ∧ (n = (fl (FR3 (pkR σ 113) (QR on wi)) p ++ fl (GR3 (pkR σ 113) (QR on wi) p) q).length ∧ ¬ (0 ≤ k ∧ k < n)) ∧ AFp (QR on wi) (fl (FR3 (pkR σ 113) (QR on wi)) p ++ fl (GR3 (pkR σ 113) (QR on wi) p) q) (τ 111 37)) (fun (n : Int) (q : Int) (τ : jS) => (100 - q).toNat) ?_ _ _ _ ⟨by omega, S, by rw [GR3_0, List.append_nil]; exact hI11.2.2⟩
    intro n q τ hI55 ih55
    have S := hI55.2.1
    have e13 : τ 113 = σ 113 := S.1 113 (by decide) (by decide)
    have hNt := okN_c hN e13
    have vb := AFp_b hI55.2.2.2
    refine r_iload (dc dkX13_goTriangles 29 rfl) rfl (np 57 rfl ?_)
    refine r_bipush (dc dkX13_goTriangles 30 rfl) bp_100 (np 59 rfl ?_)
    refine r_icmp_ge (tgt := 299) (dc dkX13_goTriangles 31 rfl) rfl (by first | assumption | decide | omega) (by first | assumption | decide | omega) (fun h59 => ?_) (fun h59 => (np 62 rfl ?_))
    · skip
      refine r_iinc (lv' := [(5, _), (0, _), (1, _), (2, _), (3, _), (4, _), (6, _), (7, _), (8, _)]) (dc dkX13_goTriangles 156 rfl) (Nat.le_of_ble_eq_true rfl) rfl rfl (np 302 rfl ?_)
      refine r_goto (tgt := 11) (dc dkX13_goTriangles 157 rfl) rfl ?_
      refine r_pick [1, 2, 3, 4, 5, 0] rfl ?_
      exact ih11 _ _ _ (by first | (refine ⟨by omega, S, ?_⟩; rw [fl_s _ (by omega), show FR3 (pkR σ 113) (QR on wi) p = [] from lif_f h43, List.append_nil]; exact hI11.2.2) | (refine ⟨by omega, S, ?_⟩; rw [fl_s _ (by omega), show FR3 (pkR σ 113) (QR on wi) p = fl (GR3 (pkR σ 113) (QR on wi) p) 100 from lif_t h43]; rw [show q = 100 by omega] at hI55; exact hI55.2.2)) (by omega)
    refine r_iload (dc dkX13_goTriangles 32 rfl) rfl (np 64 rfl ?_)
    refine r_bipush (dc dkX13_goTriangles 33 rfl) bp_10 (np 66 rfl ?_)
    refine r_iremn (dc dkX13_goTriangles 34 rfl) (by first | assumption | decide | omega) (by first | assumption | decide | omega) (np 67 rfl ?_)
    refine r_istore (lv' := [(9, _), (0, _), (1, _), (2, _), (3, _), (4, _), (5, _), (6, _), (7, _), (8, _)]) (dc dkX13_goTriangles 35 rfl) (Nat.le_of_ble_eq_true rfl) rfl (np 69 rfl ?_)
    refine r_iload (dc dkX13_goTriangles 36 rfl) rfl (np 71 rfl ?_)
    refine r_bipush (dc dkX13_goTriangles 37 rfl) bp_10 (np 73 rfl ?_)
    refine r_idivn (dc dkX13_goTriangles 38 rfl) (by first | assumption | decide | omega) (by first | assumption | decide | omega) (np 74 rfl ?_)
    refine r_istore (lv' := [(10, _), (9, _), (0, _), (1, _), (2, _), (3, _), (4, _), (5, _), (6, _), (7, _), (8, _)]) (dc dkX13_goTriangles 39 rfl) (Nat.le_of_ble_eq_true rfl) rfl (np 76 rfl ?_)
    refine r_aload_n (dc dkX13_goTriangles 40 rfl) rfl (np 77 rfl ?_)
    refine r_getR (dc dkX13_goTriangles 41 rfl) flX13_13 fd_111_15 (np 80 rfl ?_)
    refine r_iload (dc dkX13_goTriangles 42 rfl) rfl (np 82 rfl ?_)
    refine r_iload (dc dkX13_goTriangles 43 rfl) rfl (np 84 rfl ?_)
    refine r_pS3 (y' := miX13_isPeg) (dc dkX13_goTriangles 44 rfl) mlX13_226 seX13_isPeg (Nat.le_of_ble_eq_true rfl) (Nat.le_of_ble_eq_true rfl) (c_X13_isPeg ar_113 (by decide) hNt.1 (by omega) (by omega)) (np 87 rfl ?_)
    refine r_eqI _ (pkR_1 e13 (by omega)) ?_
    refine r_bn (tgt := 93) (dc dkX13_goTriangles 45 rfl) rfl (fun h87 => ?_) (fun h87 => (np 90 rfl ?_))
    · skip
      refine r_iload (dc dkX13_goTriangles 47 rfl) rfl (np 95 rfl ?_)
      refine r_iload (dc dkX13_goTriangles 48 rfl) rfl (np 97 rfl ?_)
      refine r_isub (dc dkX13_goTriangles 49 rfl) (np 98 rfl ?_)
      refine r_iload (dc dkX13_goTriangles 50 rfl) rfl (np 100 rfl ?_)
      refine r_iload (dc dkX13_goTriangles 51 rfl) rfl (np 102 rfl ?_)
      refine r_isub (dc dkX13_goTriangles 52 rfl) (np 103 rfl ?_)
      refine r_pS2 (y' := miX13_common) (dc dkX13_goTriangles 53 rfl) mlX13_295 seX13_common (Nat.le_of_ble_eq_true rfl) (Nat.le_of_ble_eq_true rfl) (c_X13_common (by omega) (by omega)) (np 106 rfl ?_)
      refine r_eqI (pts p q) (gd_neg _ _ _ _) ?_
      refine r_istore (lv' := [(11, _), (10, _), (9, _), (0, _), (1, _), (2, _), (3, _), (4, _), (5, _), (6, _), (7, _), (8, _)]) (dc dkX13_goTriangles 54 rfl) (Nat.le_of_ble_eq_true rfl) rfl (np 108 rfl ?_)
      refine r_iload (dc dkX13_goTriangles 55 rfl) rfl (np 110 rfl ?_)
      refine r_iconst (dc dkX13_goTriangles 56 rfl) (np 111 rfl ?_)
      refine r_iadd (dc dkX13_goTriangles 57 rfl) (np 112 rfl ?_)
      refine r_istore (lv' := [(12, _), (11, _), (10, _), (9, _), (0, _), (1, _), (2, _), (3, _), (4, _), (5, _), (6, _), (7, _), (8, _)]) (dc dkX13_goTriangles 58 rfl) (Nat.le_of_ble_eq_true rfl) rfl (np 114 rfl ?_)
      refine r_pick [4, 5, 6, 7, 8, 9, 10, 11, 12, 3, 2, 1, 0] (lv' := [(0, _), (1, _), (2, _), (3, _), (4, _), (5, _), (6, _), (7, _), (8, _), (9, _), (10, _), (11, _), (12, _)]) rfl ?_
      refine jlp3 (P := fun (n : Int) (r : Int) (τ : jS) => jR _ _ _ 114 [(0, .ref 111), (1, vI on), (2, vI wi), (3, vI k), (4, vI n), (5, vI p), (6, vI (p % 10)), (7, vI (p / 10)), (8, vI q), (9, vI (q % 10)), (10, vI (q / 10)), (11, vI (pts p q)), (12, vI r)] [] τ) (I := fun (n : Int) (r : Int) (τ : jS) => (q + 1 ≤ r ∧ r ≤ 100) ∧ mdT [37] [] σ τ ∧ (n = (fl (FR3 (pkR σ 113) (QR on wi)) p ++ (fl (GR3 (pkR σ 113) (QR on wi) p) q ++ fl (HR3 (pkR σ 113) (QR on wi) p q) r)).length ∧ ¬ (0 ≤ k ∧ k < n)) ∧ AFp (QR on wi) (fl (FR3 (pkR σ 113) (QR on wi)) p ++ (fl (GR3 (pkR σ 113) (QR on wi) p) q ++ fl (HR3 (pkR σ 113) (QR on wi) p q) r)) (τ 111 37)) (fun (n : Int) (r : Int) (τ : jS) => (100 - r).toNat) ?_ _ _ _ ⟨by omega, S, by rw [HR3_0, List.append_nil]; exact hI55.2.2⟩
      intro n r τ hI114 ih114
      have S := hI114.2.1
      have e13 : τ 113 = σ 113 := S.1 113 (by decide) (by decide)
      have hNt := okN_c hN e13
      have vb := AFp_b hI114.2.2.2
      refine r_iload (dc dkX13_goTriangles 59 rfl) rfl (np 116 rfl ?_)
      refine r_bipush (dc dkX13_goTriangles 60 rfl) bp_100 (np 118 rfl ?_)
      refine r_icmp_ge (tgt := 293) (dc dkX13_goTriangles 61 rfl) rfl (by first | assumption | decide | omega) (by first | assumption | decide | omega) (fun h118 => ?_) (fun h118 => (np 121 rfl ?_))
      · skip
        refine r_iinc (lv' := [(8, _), (0, _), (1, _), (2, _), (3, _), (4, _), (5, _), (6, _), (7, _), (9, _), (10, _), (11, _), (12, _)]) (dc dkX13_goTriangles 154 rfl) (Nat.le_of_ble_eq_true rfl) rfl rfl (np 296 rfl ?_)
        refine r_goto (tgt := 55) (dc dkX13_goTriangles 155 rfl) rfl ?_
        refine r_pick [1, 2, 3, 4, 5, 6, 7, 8, 0] rfl ?_
        exact ih55 _ _ _ (by first | (refine ⟨by omega, S, ?_⟩; rw [fl_s _ (by omega), show GR3 (pkR σ 113) (QR on wi) p q = [] from lif_f h87, List.append_nil]; exact hI55.2.2) | (refine ⟨by omega, S, ?_⟩; rw [fl_s _ (by omega), show GR3 (pkR σ 113) (QR on wi) p q = fl (HR3 (pkR σ 113) (QR on wi) p q) 100 by unfold GR3; rw [lif_t h87, lif_t (by omega)]]; rw [show r = 100 by omega] at hI114; exact hI114.2.2)) (by omega)
      have jj287 : ∀ (n2 : Int) (τ2 : jS), (mdT [37] [] σ τ2 ∧ (n2 = (fl (FR3 (pkR σ 113) (QR on wi)) p ++ (fl (GR3 (pkR σ 113) (QR on wi) p) q ++ (fl (HR3 (pkR σ 113) (QR on wi) p q) r ++ HR3 (pkR σ 113) (QR on wi) p q r))).length ∧ ¬ (0 ≤ k ∧ k < n2)) ∧ AFp (QR on wi) (fl (FR3 (pkR σ 113) (QR on wi)) p ++ (fl (GR3 (pkR σ 113) (QR on wi) p) q ++ (fl (HR3 (pkR σ 113) (QR on wi) p q) r ++ HR3 (pkR σ 113) (QR on wi) p q r))) (τ2 111 37)) → jR 3 miX13_goTriangles (fun r τ => r = some (vI (nthL (TL (pkR σ 113) (QR on wi)) k)) ∧ mdT [37] [] σ τ ∧ (k = -1 → AFp (QR on wi) (TL (pkR σ 113) (QR on wi)) (τ 111 37))) 287 [(0, .ref 111), (1, vI on), (2, vI wi), (3, vI k), (4, vI n2), (5, vI p), (6, vI (p % 10)), (7, vI (p / 10)), (8, vI q), (9, vI (q % 10)), (10, vI (q / 10)), (11, vI (pts p q)), (12, vI r)] [] τ2 := by
        intro n2 τ2 hq
        refine r_iinc (lv' := [(12, _), (0, _), (1, _), (2, _), (3, _), (4, _), (5, _), (6, _), (7, _), (8, _), (9, _), (10, _), (11, _)]) (dc dkX13_goTriangles 152 rfl) (Nat.le_of_ble_eq_true rfl) rfl rfl (np 290 rfl ?_)
        refine r_goto (tgt := 114) (dc dkX13_goTriangles 153 rfl) rfl ?_
        refine r_pick [1, 2, 3, 4, 5, 6, 7, 8, 9, 10, 11, 12, 0] rfl ?_
        exact ih114 _ _ _ ⟨by omega, hq.1, by rw [fl_s _ (by omega)]; exact hq.2⟩ (by omega)
      have tb := tn_b (a := p) (b := q) (c := r) (by omega) (by omega) (by omega)
      refine r_iload (dc dkX13_goTriangles 62 rfl) rfl (np 123 rfl ?_)
      refine r_bipush (dc dkX13_goTriangles 63 rfl) bp_10 (np 125 rfl ?_)
      refine r_iremn (dc dkX13_goTriangles 64 rfl) (by first | assumption | decide | omega) (by first | assumption | decide | omega) (np 126 rfl ?_)
      refine r_istore (lv' := [(13, _), (0, _), (1, _), (2, _), (3, _), (4, _), (5, _), (6, _), (7, _), (8, _), (9, _), (10, _), (11, _), (12, _)]) (dc dkX13_goTriangles 65 rfl) (Nat.le_of_ble_eq_true rfl) rfl (np 128 rfl ?_)
      refine r_iload (dc dkX13_goTriangles 66 rfl) rfl (np 130 rfl ?_)
      refine r_bipush (dc dkX13_goTriangles 67 rfl) bp_10 (np 132 rfl ?_)
      refine r_idivn (dc dkX13_goTriangles 68 rfl) (by first | assumption | decide | omega) (by first | assumption | decide | omega) (np 133 rfl ?_)
      refine r_istore (lv' := [(14, _), (13, _), (0, _), (1, _), (2, _), (3, _), (4, _), (5, _), (6, _), (7, _), (8, _), (9, _), (10, _), (11, _), (12, _)]) (dc dkX13_goTriangles 69 rfl) (Nat.le_of_ble_eq_true rfl) rfl (np 135 rfl ?_)
      refine r_iload (dc dkX13_goTriangles 70 rfl) rfl (np 137 rfl ?_)
      refine r_iload (dc dkX13_goTriangles 71 rfl) rfl (np 139 rfl ?_)
      refine r_isub (dc dkX13_goTriangles 72 rfl) (np 140 rfl ?_)
      refine r_iload (dc dkX13_goTriangles 73 rfl) rfl (np 142 rfl ?_)
      refine r_iload (dc dkX13_goTriangles 74 rfl) rfl (np 144 rfl ?_)
      refine r_isub (dc dkX13_goTriangles 75 rfl) (np 145 rfl ?_)
      refine r_imul (dc dkX13_goTriangles 76 rfl) (np 146 rfl ?_)
      refine r_iload (dc dkX13_goTriangles 77 rfl) rfl (np 148 rfl ?_)
      refine r_iload (dc dkX13_goTriangles 78 rfl) rfl (np 150 rfl ?_)
      refine r_isub (dc dkX13_goTriangles 79 rfl) (np 151 rfl ?_)
      refine r_iload (dc dkX13_goTriangles 80 rfl) rfl (np 153 rfl ?_)
      refine r_iload (dc dkX13_goTriangles 81 rfl) rfl (np 155 rfl ?_)
      refine r_isub (dc dkX13_goTriangles 82 rfl) (np 156 rfl ?_)
      refine r_imul (dc dkX13_goTriangles 83 rfl) (np 157 rfl ?_)
      refine r_isub (dc dkX13_goTriangles 84 rfl) (np 158 rfl ?_)
      refine r_eqI (tn p q r) rfl ?_
      refine r_pS1 (y' := miX13_size) (dc dkX13_goTriangles 85 rfl) mlX13_105 seX13_size (Nat.le_of_ble_eq_true rfl) (Nat.le_of_ble_eq_true rfl) (c_X13_size (by omega)) (np 161 rfl ?_)
      refine r_istore (lv' := [(15, _), (14, _), (13, _), (0, _), (1, _), (2, _), (3, _), (4, _), (5, _), (6, _), (7, _), (8, _), (9, _), (10, _), (11, _), (12, _)]) (dc dkX13_goTriangles 86 rfl) (Nat.le_of_ble_eq_true rfl) rfl (np 163 rfl ?_)
      refine r_iload (dc dkX13_goTriangles 87 rfl) rfl (np 165 rfl ?_)
      refine r_if_eq (tgt := 287) (dc dkX13_goTriangles 88 rfl) rfl (by first | assumption | decide | omega) (fun h165 => ?_) (fun h165 => (np 168 rfl ?_))
      · skip
        refine r_pick [3, 4, 5, 6, 7, 8, 9, 10, 11, 12, 13, 14, 15] rfl ?_
        exact jj287 _ _ (by
              first
              | (refine ⟨S, ?_⟩; rw [HR3_f (fun z => z.1 (by omega)), List.append_nil]; exact hI114.2.2)
              | (refine ⟨S, ?_⟩; rw [show HR3 (pkR σ 113) (QR on wi) p q r = [] from lif_f h179, List.append_nil]; exact hI114.2.2)
              | (refine ⟨S, ?_⟩; rw [HR3_f (fun z => by have := z.2.1; omega), List.append_nil]; exact hI114.2.2)
              | (refine ⟨S, ?_⟩; rw [HR3_f (fun z => by have := z.2.2; omega), List.append_nil]; exact hI114.2.2)
              | (have hQ : QR on wi p q r := ⟨by omega, by omega, by omega⟩
                 have w := fnd_s (c := cd3 p q r) hI114.2.2.1.1 hI114.2.2.1.2 (by omega)
                 rw [HR3_t (by omega) h179 hQ]
                 rw [List.append_assoc, List.append_assoc] at w
                 refine ⟨S, w, ?_⟩
                 have z := AFp_k (x := cd3 p q r) hI114.2.2.2 (by omega)
                 rw [List.append_assoc, List.append_assoc] at z
                 exact z)
              | (have hQ : QR on wi p q r := ⟨by omega, by omega, by omega⟩
                 have w := fnd_s (c := cd3 p q r) hI114.2.2.1.1 hI114.2.2.1.2 (by omega)
                 rw [HR3_t (by omega) h179 hQ]
                 rw [List.append_assoc, List.append_assoc] at w
                 refine ⟨S.put (by decide), w, ?_⟩
                 rw [ju_at]
                 have z := AFp_n (L := fl (FR3 (pkR σ 113) (QR on wi)) p ++ (fl (GR3 (pkR σ 113) (QR on wi) p) q ++ fl (HR3 (pkR σ 113) (QR on wi) p q) r)) (x := cd3 p q r) (v := ((tn p q r).natAbs : Int)) (show cB 99 p ∧ cB 99 q ∧ cB 99 r by omega) hQ rfl
                 rw [List.append_assoc, List.append_assoc] at z
                 exact z))
      refine r_aload_n (dc dkX13_goTriangles 89 rfl) rfl (np 169 rfl ?_)
      refine r_getR (dc dkX13_goTriangles 90 rfl) flX13_13 fd_111_15 (np 172 rfl ?_)
      refine r_iload (dc dkX13_goTriangles 91 rfl) rfl (np 174 rfl ?_)
      refine r_iload (dc dkX13_goTriangles 92 rfl) rfl (np 176 rfl ?_)
      refine r_pS3 (y' := miX13_isPeg) (dc dkX13_goTriangles 93 rfl) mlX13_226 seX13_isPeg (Nat.le_of_ble_eq_true rfl) (Nat.le_of_ble_eq_true rfl) (c_X13_isPeg ar_113 (by decide) hNt.1 (by omega) (by omega)) (np 179 rfl ?_)
      refine r_eqI _ (pkR_1 e13 (by omega)) ?_
      refine r_bn (tgt := 185) (dc dkX13_goTriangles 94 rfl) rfl (fun h179 => ?_) (fun h179 => (np 182 rfl ?_))
      · skip
        have nb2 := R3_len (pk := pkR σ 113) (Q := QR on wi) (a := p) (b := q) (c := r) (by omega) (by omega) (by omega)
        rw [← Int.ofNat_le, ← hI114.2.2.1.1] at nb2
        have b1 := pts_b (a := p) (b := q) (by omega) (by omega)
        have b2 := pts_b (a := q) (b := r) (by omega) (by omega)
        have b3 := pts_b (a := r) (b := p) (by omega) (by omega)
        refine r_iload (dc dkX13_goTriangles 96 rfl) rfl (np 187 rfl ?_)
        refine r_iload (dc dkX13_goTriangles 97 rfl) rfl (np 189 rfl ?_)
        refine r_iload (dc dkX13_goTriangles 98 rfl) rfl (np 191 rfl ?_)
        refine r_isub (dc dkX13_goTriangles 99 rfl) (np 192 rfl ?_)
        refine r_iload (dc dkX13_goTriangles 100 rfl) rfl (np 194 rfl ?_)
        refine r_iload (dc dkX13_goTriangles 101 rfl) rfl (np 196 rfl ?_)
        refine r_isub (dc dkX13_goTriangles 102 rfl) (np 197 rfl ?_)
        refine r_pS2 (y' := miX13_common) (dc dkX13_goTriangles 103 rfl) mlX13_295 seX13_common (Nat.le_of_ble_eq_true rfl) (Nat.le_of_ble_eq_true rfl) (c_X13_common (by omega) (by omega)) (np 200 rfl ?_)
        refine r_eqI (pts q r) (gd_neg _ _ _ _) ?_
        refine r_iadd (dc dkX13_goTriangles 104 rfl) (np 201 rfl ?_)
        refine r_iload (dc dkX13_goTriangles 105 rfl) rfl (np 203 rfl ?_)
        refine r_iload (dc dkX13_goTriangles 106 rfl) rfl (np 205 rfl ?_)
        refine r_isub (dc dkX13_goTriangles 107 rfl) (np 206 rfl ?_)
        refine r_iload (dc dkX13_goTriangles 108 rfl) rfl (np 208 rfl ?_)
        refine r_iload (dc dkX13_goTriangles 109 rfl) rfl (np 210 rfl ?_)
        refine r_isub (dc dkX13_goTriangles 110 rfl) (np 211 rfl ?_)
        refine r_pS2 (y' := miX13_common) (dc dkX13_goTriangles 111 rfl) mlX13_295 seX13_common (Nat.le_of_ble_eq_true rfl) (Nat.le_of_ble_eq_true rfl) (c_X13_common (by omega) (by omega)) (np 214 rfl ?_)
        refine r_eqI (pts r p) rfl ?_
        refine r_iadd (dc dkX13_goTriangles 112 rfl) (np 215 rfl ?_)
        refine r_istore (lv' := [(16, _), (15, _), (14, _), (13, _), (0, _), (1, _), (2, _), (3, _), (4, _), (5, _), (6, _), (7, _), (8, _), (9, _), (10, _), (11, _), (12, _)]) (dc dkX13_goTriangles 113 rfl) (Nat.le_of_ble_eq_true rfl) rfl (np 217 rfl ?_)
        refine r_iload (dc dkX13_goTriangles 114 rfl) rfl (np 219 rfl ?_)
        refine r_iload_n (dc dkX13_goTriangles 115 rfl) rfl (np 220 rfl ?_)
        refine r_icmp_ne (tgt := 287) (dc dkX13_goTriangles 116 rfl) rfl (by first | assumption | decide | omega) (by first | assumption | decide | omega) (fun h220 => ?_) (fun h220 => (np 223 rfl ?_))
        · skip
          refine r_pick [4, 5, 6, 7, 8, 9, 10, 11, 12, 13, 14, 15, 16] rfl ?_
          exact jj287 _ _ (by
                first
                | (refine ⟨S, ?_⟩; rw [HR3_f (fun z => z.1 (by omega)), List.append_nil]; exact hI114.2.2)
                | (refine ⟨S, ?_⟩; rw [show HR3 (pkR σ 113) (QR on wi) p q r = [] from lif_f h179, List.append_nil]; exact hI114.2.2)
                | (refine ⟨S, ?_⟩; rw [HR3_f (fun z => by have := z.2.1; omega), List.append_nil]; exact hI114.2.2)
                | (refine ⟨S, ?_⟩; rw [HR3_f (fun z => by have := z.2.2; omega), List.append_nil]; exact hI114.2.2)
                | (have hQ : QR on wi p q r := ⟨by omega, by omega, by omega⟩
                   have w := fnd_s (c := cd3 p q r) hI114.2.2.1.1 hI114.2.2.1.2 (by omega)
                   rw [HR3_t (by omega) h179 hQ]
                   rw [List.append_assoc, List.append_assoc] at w
                   refine ⟨S, w, ?_⟩
                   have z := AFp_k (x := cd3 p q r) hI114.2.2.2 (by omega)
                   rw [List.append_assoc, List.append_assoc] at z
                   exact z)
                | (have hQ : QR on wi p q r := ⟨by omega, by omega, by omega⟩
                   have w := fnd_s (c := cd3 p q r) hI114.2.2.1.1 hI114.2.2.1.2 (by omega)
                   rw [HR3_t (by omega) h179 hQ]
                   rw [List.append_assoc, List.append_assoc] at w
                   refine ⟨S.put (by decide), w, ?_⟩
                   rw [ju_at]
                   have z := AFp_n (L := fl (FR3 (pkR σ 113) (QR on wi)) p ++ (fl (GR3 (pkR σ 113) (QR on wi) p) q ++ fl (HR3 (pkR σ 113) (QR on wi) p q) r)) (x := cd3 p q r) (v := ((tn p q r).natAbs : Int)) (show cB 99 p ∧ cB 99 q ∧ cB 99 r by omega) hQ rfl
                   rw [List.append_assoc, List.append_assoc] at z
                   exact z))
        refine r_iload (dc dkX13_goTriangles 117 rfl) rfl (np 225 rfl ?_)
        refine r_iload (dc dkX13_goTriangles 118 rfl) rfl (np 227 rfl ?_)
        refine r_isub (dc dkX13_goTriangles 119 rfl) (np 228 rfl ?_)
        refine r_iconst (dc dkX13_goTriangles 120 rfl) (np 229 rfl ?_)
        refine r_iadd (dc dkX13_goTriangles 121 rfl) (np 230 rfl ?_)
        refine r_iconst (dc dkX13_goTriangles 122 rfl) (np 231 rfl ?_)
        refine r_idiv (dc dkX13_goTriangles 123 rfl) (by first | assumption | decide | omega) (by first | assumption | decide | omega) (np 232 rfl ?_)
        have db := td2_b (x := ((tn p q r).natAbs : Int) - (pts p q + pts q r + pts r p) + 2) (M := 1000) (by omega)
        refine r_iload_n (dc dkX13_goTriangles 124 rfl) rfl (np 233 rfl ?_)
        refine r_icmp_eq (tgt := 239) (dc dkX13_goTriangles 125 rfl) rfl (by first | assumption | decide | omega) (by first | assumption | decide | omega) (fun h233 => ?_) (fun h233 => (np 236 rfl ?_))
        · skip
          refine r_iload (dc dkX13_goTriangles 127 rfl) rfl (np 241 rfl ?_)
          refine r_iload_n (dc dkX13_goTriangles 128 rfl) rfl (np 242 rfl ?_)
          refine r_icmp_ne (tgt := 261) (dc dkX13_goTriangles 129 rfl) rfl (by first | assumption | decide | omega) (by first | assumption | decide | omega) (fun h242 => ?_) (fun h242 => (np 245 rfl ?_))
          · skip
            refine r_iinc (lv' := [(4, _), (16, _), (15, _), (14, _), (13, _), (0, _), (1, _), (2, _), (3, _), (5, _), (6, _), (7, _), (8, _), (9, _), (10, _), (11, _), (12, _)]) (dc dkX13_goTriangles 140 rfl) (Nat.le_of_ble_eq_true rfl) rfl rfl (np 264 rfl ?_)
            refine r_aload_n (dc dkX13_goTriangles 141 rfl) rfl (np 265 rfl ?_)
            refine r_gI 37 (dc dkX13_goTriangles 142 rfl) flX13_408 fd_111_37 rfl (np 268 rfl ?_)
            refine r_iconst (dc dkX13_goTriangles 143 rfl) (np 269 rfl ?_)
            refine r_icmp_eq (tgt := 281) (dc dkX13_goTriangles 144 rfl) rfl (by first | assumption | decide | omega) (by first | assumption | decide | omega) (fun h269 => ?_) (fun h269 => (np 272 rfl ?_))
            · skip
              refine r_aload_n (dc dkX13_goTriangles 149 rfl) rfl (np 282 rfl ?_)
              refine r_iload (dc dkX13_goTriangles 150 rfl) rfl (np 284 rfl ?_)
              refine r_pI 37 (dc dkX13_goTriangles 151 rfl) fpX13_408 fd_111_37 rfl (np 287 rfl ?_)
              refine r_pick [5, 6, 7, 8, 0, 9, 10, 11, 12, 13, 14, 15, 16] rfl ?_
              exact jj287 _ _ (by
                    first
                    | (refine ⟨S, ?_⟩; rw [HR3_f (fun z => z.1 (by omega)), List.append_nil]; exact hI114.2.2)
                    | (refine ⟨S, ?_⟩; rw [show HR3 (pkR σ 113) (QR on wi) p q r = [] from lif_f h179, List.append_nil]; exact hI114.2.2)
                    | (refine ⟨S, ?_⟩; rw [HR3_f (fun z => by have := z.2.1; omega), List.append_nil]; exact hI114.2.2)
                    | (refine ⟨S, ?_⟩; rw [HR3_f (fun z => by have := z.2.2; omega), List.append_nil]; exact hI114.2.2)
                    | (have hQ : QR on wi p q r := ⟨by omega, by omega, by omega⟩
                       have w := fnd_s (c := cd3 p q r) hI114.2.2.1.1 hI114.2.2.1.2 (by omega)
                       rw [HR3_t (by omega) h179 hQ]
                       rw [List.append_assoc, List.append_assoc] at w
                       refine ⟨S, w, ?_⟩
                       have z := AFp_k (x := cd3 p q r) hI114.2.2.2 (by omega)
                       rw [List.append_assoc, List.append_assoc] at z
                       exact z)
                    | (have hQ : QR on wi p q r := ⟨by omega, by omega, by omega⟩
                       have w := fnd_s (c := cd3 p q r) hI114.2.2.1.1 hI114.2.2.1.2 (by omega)
                       rw [HR3_t (by omega) h179 hQ]
                       rw [List.append_assoc, List.append_assoc] at w
                       refine ⟨S.put (by decide), w, ?_⟩
                       rw [ju_at]
                       have z := AFp_n (L := fl (FR3 (pkR σ 113) (QR on wi)) p ++ (fl (GR3 (pkR σ 113) (QR on wi) p) q ++ fl (HR3 (pkR σ 113) (QR on wi) p q) r)) (x := cd3 p q r) (v := ((tn p q r).natAbs : Int)) (show cB 99 p ∧ cB 99 q ∧ cB 99 r by omega) hQ rfl
                       rw [List.append_assoc, List.append_assoc] at z
                       exact z))
            refine r_iload (dc dkX13_goTriangles 145 rfl) rfl (np 274 rfl ?_)
            refine r_aload_n (dc dkX13_goTriangles 146 rfl) rfl (np 275 rfl ?_)
            refine r_gI 37 (dc dkX13_goTriangles 147 rfl) flX13_408 fd_111_37 rfl (np 278 rfl ?_)
            refine r_icmp_ge (tgt := 287) (dc dkX13_goTriangles 148 rfl) rfl (by first | assumption | decide | omega) (by first | assumption | decide | omega) (fun h278 => ?_) (fun h278 => (np 281 rfl ?_))
            · skip
              refine r_pick [5, 6, 7, 8, 0, 9, 10, 11, 12, 13, 14, 15, 16] rfl ?_
              exact jj287 _ _ (by
                    first
                    | (refine ⟨S, ?_⟩; rw [HR3_f (fun z => z.1 (by omega)), List.append_nil]; exact hI114.2.2)
                    | (refine ⟨S, ?_⟩; rw [show HR3 (pkR σ 113) (QR on wi) p q r = [] from lif_f h179, List.append_nil]; exact hI114.2.2)
                    | (refine ⟨S, ?_⟩; rw [HR3_f (fun z => by have := z.2.1; omega), List.append_nil]; exact hI114.2.2)
                    | (refine ⟨S, ?_⟩; rw [HR3_f (fun z => by have := z.2.2; omega), List.append_nil]; exact hI114.2.2)
                    | (have hQ : QR on wi p q r := ⟨by omega, by omega, by omega⟩
                       have w := fnd_s (c := cd3 p q r) hI114.2.2.1.1 hI114.2.2.1.2 (by omega)
                       rw [HR3_t (by omega) h179 hQ]
                       rw [List.append_assoc, List.append_assoc] at w
                       refine ⟨S, w, ?_⟩
                       have z := AFp_k (x := cd3 p q r) hI114.2.2.2 (by omega)
                       rw [List.append_assoc, List.append_assoc] at z
                       exact z)
                    | (have hQ : QR on wi p q r := ⟨by omega, by omega, by omega⟩
                       have w := fnd_s (c := cd3 p q r) hI114.2.2.1.1 hI114.2.2.1.2 (by omega)
                       rw [HR3_t (by omega) h179 hQ]
                       rw [List.append_assoc, List.append_assoc] at w
                       refine ⟨S.put (by decide), w, ?_⟩
                       rw [ju_at]
                       have z := AFp_n (L := fl (FR3 (pkR σ 113) (QR on wi)) p ++ (fl (GR3 (pkR σ 113) (QR on wi) p) q ++ fl (HR3 (pkR σ 113) (QR on wi) p q) r)) (x := cd3 p q r) (v := ((tn p q r).natAbs : Int)) (show cB 99 p ∧ cB 99 q ∧ cB 99 r by omega) hQ rfl
                       rw [List.append_assoc, List.append_assoc] at z
                       exact z))
            refine r_aload_n (dc dkX13_goTriangles 149 rfl) rfl (np 282 rfl ?_)
            refine r_iload (dc dkX13_goTriangles 150 rfl) rfl (np 284 rfl ?_)
            refine r_pI 37 (dc dkX13_goTriangles 151 rfl) fpX13_408 fd_111_37 rfl (np 287 rfl ?_)
            refine r_pick [5, 6, 7, 8, 0, 9, 10, 11, 12, 13, 14, 15, 16] rfl ?_
            exact jj287 _ _ (by
                  first
                  | (refine ⟨S, ?_⟩; rw [HR3_f (fun z => z.1 (by omega)), List.append_nil]; exact hI114.2.2)
                  | (refine ⟨S, ?_⟩; rw [show HR3 (pkR σ 113) (QR on wi) p q r = [] from lif_f h179, List.append_nil]; exact hI114.2.2)
                  | (refine ⟨S, ?_⟩; rw [HR3_f (fun z => by have := z.2.1; omega), List.append_nil]; exact hI114.2.2)
                  | (refine ⟨S, ?_⟩; rw [HR3_f (fun z => by have := z.2.2; omega), List.append_nil]; exact hI114.2.2)
                  | (have hQ : QR on wi p q r := ⟨by omega, by omega, by omega⟩
                     have w := fnd_s (c := cd3 p q r) hI114.2.2.1.1 hI114.2.2.1.2 (by omega)
                     rw [HR3_t (by omega) h179 hQ]
                     rw [List.append_assoc, List.append_assoc] at w
                     refine ⟨S, w, ?_⟩
                     have z := AFp_k (x := cd3 p q r) hI114.2.2.2 (by omega)
                     rw [List.append_assoc, List.append_assoc] at z
                     exact z)
                  | (have hQ : QR on wi p q r := ⟨by omega, by omega, by omega⟩
                     have w := fnd_s (c := cd3 p q r) hI114.2.2.1.1 hI114.2.2.1.2 (by omega)
                     rw [HR3_t (by omega) h179 hQ]
                     rw [List.append_assoc, List.append_assoc] at w
                     refine ⟨S.put (by decide), w, ?_⟩
                     rw [ju_at]
                     have z := AFp_n (L := fl (FR3 (pkR σ 113) (QR on wi)) p ++ (fl (GR3 (pkR σ 113) (QR on wi) p) q ++ fl (HR3 (pkR σ 113) (QR on wi) p q) r)) (x := cd3 p q r) (v := ((tn p q r).natAbs : Int)) (show cB 99 p ∧ cB 99 q ∧ cB 99 r by omega) hQ rfl
                     rw [List.append_assoc, List.append_assoc] at z
                     exact z))
          refine r_sipush (dc dkX13_goTriangles 130 rfl) sp_10000 (np 248 rfl ?_)
          refine r_iload (dc dkX13_goTriangles 131 rfl) rfl (np 250 rfl ?_)
          refine r_imul (dc dkX13_goTriangles 132 rfl) (np 251 rfl ?_)
          refine r_bipush (dc dkX13_goTriangles 133 rfl) bp_100 (np 253 rfl ?_)
          refine r_iload (dc dkX13_goTriangles 134 rfl) rfl (np 255 rfl ?_)
          refine r_imul (dc dkX13_goTriangles 135 rfl) (np 256 rfl ?_)
          refine r_iadd (dc dkX13_goTriangles 136 rfl) (np 257 rfl ?_)
          refine r_iload (dc dkX13_goTriangles 137 rfl) rfl (np 259 rfl ?_)
          refine r_iadd (dc dkX13_goTriangles 138 rfl) (np 260 rfl ?_)
          exact r_iret (dc dkX13_goTriangles 139 rfl) rfl ⟨congrArg (fun z => some (vI z)) (nthL_at (FR3_at (by omega) (by omega) (by omega) h43 h87 h179 ⟨by omega, by omega, by omega⟩) (by rw [← hI114.2.2.1.1]; omega)).symm, S, fun z => by omega⟩
        refine r_goto (tgt := 287) (dc dkX13_goTriangles 126 rfl) rfl ?_
        refine r_pick [4, 5, 6, 7, 8, 9, 10, 11, 12, 13, 14, 15, 16] rfl ?_
        exact jj287 _ _ (by
              first
              | (refine ⟨S, ?_⟩; rw [HR3_f (fun z => z.1 (by omega)), List.append_nil]; exact hI114.2.2)
              | (refine ⟨S, ?_⟩; rw [show HR3 (pkR σ 113) (QR on wi) p q r = [] from lif_f h179, List.append_nil]; exact hI114.2.2)
              | (refine ⟨S, ?_⟩; rw [HR3_f (fun z => by have := z.2.1; omega), List.append_nil]; exact hI114.2.2)
              | (refine ⟨S, ?_⟩; rw [HR3_f (fun z => by have := z.2.2; omega), List.append_nil]; exact hI114.2.2)
              | (have hQ : QR on wi p q r := ⟨by omega, by omega, by omega⟩
                 have w := fnd_s (c := cd3 p q r) hI114.2.2.1.1 hI114.2.2.1.2 (by omega)
                 rw [HR3_t (by omega) h179 hQ]
                 rw [List.append_assoc, List.append_assoc] at w
                 refine ⟨S, w, ?_⟩
                 have z := AFp_k (x := cd3 p q r) hI114.2.2.2 (by omega)
                 rw [List.append_assoc, List.append_assoc] at z
                 exact z)
              | (have hQ : QR on wi p q r := ⟨by omega, by omega, by omega⟩
                 have w := fnd_s (c := cd3 p q r) hI114.2.2.1.1 hI114.2.2.1.2 (by omega)
                 rw [HR3_t (by omega) h179 hQ]
                 rw [List.append_assoc, List.append_assoc] at w
                 refine ⟨S.put (by decide), w, ?_⟩
                 rw [ju_at]
                 have z := AFp_n (L := fl (FR3 (pkR σ 113) (QR on wi)) p ++ (fl (GR3 (pkR σ 113) (QR on wi) p) q ++ fl (HR3 (pkR σ 113) (QR on wi) p q) r)) (x := cd3 p q r) (v := ((tn p q r).natAbs : Int)) (show cB 99 p ∧ cB 99 q ∧ cB 99 r by omega) hQ rfl
                 rw [List.append_assoc, List.append_assoc] at z
                 exact z))
      refine r_goto (tgt := 287) (dc dkX13_goTriangles 95 rfl) rfl ?_
      refine r_pick [3, 4, 5, 6, 7, 8, 9, 10, 11, 12, 13, 14, 15] rfl ?_
      exact jj287 _ _ (by
            first
            | (refine ⟨S, ?_⟩; rw [HR3_f (fun z => z.1 (by omega)), List.append_nil]; exact hI114.2.2)
            | (refine ⟨S, ?_⟩; rw [show HR3 (pkR σ 113) (QR on wi) p q r = [] from lif_f h179, List.append_nil]; exact hI114.2.2)
            | (refine ⟨S, ?_⟩; rw [HR3_f (fun z => by have := z.2.1; omega), List.append_nil]; exact hI114.2.2)
            | (refine ⟨S, ?_⟩; rw [HR3_f (fun z => by have := z.2.2; omega), List.append_nil]; exact hI114.2.2)
            | (have hQ : QR on wi p q r := ⟨by omega, by omega, by omega⟩
               have w := fnd_s (c := cd3 p q r) hI114.2.2.1.1 hI114.2.2.1.2 (by omega)
               rw [HR3_t (by omega) h179 hQ]
               rw [List.append_assoc, List.append_assoc] at w
               refine ⟨S, w, ?_⟩
               have z := AFp_k (x := cd3 p q r) hI114.2.2.2 (by omega)
               rw [List.append_assoc, List.append_assoc] at z
               exact z)
            | (have hQ : QR on wi p q r := ⟨by omega, by omega, by omega⟩
               have w := fnd_s (c := cd3 p q r) hI114.2.2.1.1 hI114.2.2.1.2 (by omega)
               rw [HR3_t (by omega) h179 hQ]
               rw [List.append_assoc, List.append_assoc] at w
               refine ⟨S.put (by decide), w, ?_⟩
               rw [ju_at]
               have z := AFp_n (L := fl (FR3 (pkR σ 113) (QR on wi)) p ++ (fl (GR3 (pkR σ 113) (QR on wi) p) q ++ fl (HR3 (pkR σ 113) (QR on wi) p q) r)) (x := cd3 p q r) (v := ((tn p q r).natAbs : Int)) (show cB 99 p ∧ cB 99 q ∧ cB 99 r by omega) hQ rfl
               rw [List.append_assoc, List.append_assoc] at z
               exact z))
    refine r_goto (tgt := 293) (dc dkX13_goTriangles 46 rfl) rfl ?_
    refine r_iinc (lv' := [(8, _), (10, _), (9, _), (0, _), (1, _), (2, _), (3, _), (4, _), (5, _), (6, _), (7, _)]) (dc dkX13_goTriangles 154 rfl) (Nat.le_of_ble_eq_true rfl) rfl rfl (np 296 rfl ?_)
    refine r_goto (tgt := 55) (dc dkX13_goTriangles 155 rfl) rfl ?_
    refine r_pick [3, 4, 5, 6, 7, 8, 9, 10, 0] rfl ?_
    exact ih55 _ _ _ (by first | (refine ⟨by omega, S, ?_⟩; rw [fl_s _ (by omega), show GR3 (pkR σ 113) (QR on wi) p q = [] from lif_f h87, List.append_nil]; exact hI55.2.2) | (refine ⟨by omega, S, ?_⟩; rw [fl_s _ (by omega), show GR3 (pkR σ 113) (QR on wi) p q = fl (HR3 (pkR σ 113) (QR on wi) p q) 100 by unfold GR3; rw [lif_t h87, lif_t (by omega)]]; rw [show r = 100 by omega] at hI114; exact hI114.2.2)) (by omega)
  refine r_goto (tgt := 299) (dc dkX13_goTriangles 24 rfl) rfl ?_
  refine r_iinc (lv' := [(5, _), (7, _), (6, _), (0, _), (1, _), (2, _), (3, _), (4, _)]) (dc dkX13_goTriangles 156 rfl) (Nat.le_of_ble_eq_true rfl) rfl rfl (np 302 rfl ?_)
  refine r_goto (tgt := 11) (dc dkX13_goTriangles 157 rfl) rfl ?_
  refine r_pick [3, 4, 5, 6, 7, 0] rfl ?_
  exact ih11 _ _ _ (by first | (refine ⟨by omega, S, ?_⟩; rw [fl_s _ (by omega), show FR3 (pkR σ 113) (QR on wi) p = [] from lif_f h43, List.append_nil]; exact hI11.2.2) | (refine ⟨by omega, S, ?_⟩; rw [fl_s _ (by omega), show FR3 (pkR σ 113) (QR on wi) p = fl (GR3 (pkR σ 113) (QR on wi) p) 100 from lif_t h43]; rw [show q = 100 by omega] at hI55; exact hI55.2.2)) (by omega)
theorem pkR_e {σ τ : jS} (e : τ 113 = σ 113) : pkR τ 113 = pkR σ 113 := by
  funext p
  unfold pkR
  rw [e]
set_option maxRecDepth 100000 in
set_option maxHeartbeats 4000000 in
theorem c_X13_triangles {σ : jS} (hN : okN σ) {on wi k : Int} (hon : iR on) (hwi : iR wi) (hk : iR k) : Jm 4 miX13_triangles [.ref 111, vI on, vI wi, vI k] σ (fun r τ => r = some (vI (gte (((0 ≤ on ∧ on ≤ 999) ∧ (0 ≤ wi ∧ wi ≤ 999)) ∧ 0 < σ 113 0) (nthL (TL (pkR σ 113) (QR on wi)) k) (-1))) ∧ mdT [0, 37] [] σ τ ∧ τ 111 0 = 0) := by
  refine jm_ofF (Po := (fun r τ => r = some (vI (gte (((0 ≤ on ∧ on ≤ 999) ∧ (0 ≤ wi ∧ wi ≤ 999)) ∧ 0 < σ 113 0) (nthL (TL (pkR σ 113) (QR on wi)) k) (-1))) ∧ mdT [0, 37] [] σ τ ∧ τ 111 0 = 0)) (plainFor_of_name (by decide)) (Nat.le_of_ble_eq_true rfl) (lv := [(0, _), (1, _), (2, _), (3, _)]) rfl ?_
  refine r_aload_n (dc dkX13_triangles 0 rfl) rfl (np 1 rfl ?_)
  refine r_iconst (dc dkX13_triangles 1 rfl) (np 2 rfl ?_)
  refine r_pI 0 (dc dkX13_triangles 2 rfl) fpX13_94 fd_111_0 rfl (np 5 rfl ?_)
  refine r_abs (fun ρ => ρ = ju σ 111 0 0) rfl ?_
  intro σ0 hσ0
  have e0 : σ0 113 = σ 113 := by rw [hσ0]; exact ju_off _ _ _ _ _ (by decide)
  have hN0 := okN_c hN e0
  have e4 : σ0 113 4 = σ 113 4 := by rw [e0]
  have ec : ∀ b, cn σ0 113 b = cn σ 113 b := cn_c e0
  have eP : ∀ b, rP σ0 113 b = rP σ 113 b := rP_c2 e0
  have m1 := hN.1.2.2.2.2.1
  have w1 := hN.1.1
  have w2 := hN.1.2.1
  refine r_iload_n (dc dkX13_triangles 3 rfl) rfl (np 6 rfl ?_)
  refine r_iconst (dc dkX13_triangles 4 rfl) (np 7 rfl ?_)
  refine r_sipush (dc dkX13_triangles 5 rfl) sp_999 (np 10 rfl ?_)
  refine r_pS3 (y' := miX13_isIn) (dc dkX13_triangles 6 rfl) mlX13_168 seX13_isIn (Nat.le_of_ble_eq_true rfl) (Nat.le_of_ble_eq_true rfl) (c_X13_isIn (by omega) (by decide) (by decide)) (np 13 rfl ?_)
  refine r_bz (tgt := 46) (dc dkX13_triangles 7 rfl) rfl (fun h13 => ?_) (fun h13 => (np 16 rfl ?_))
  · skip
    refine r_iconst (dc dkX13_triangles 24 rfl) (np 47 rfl ?_)
    exact r_iret (dc dkX13_triangles 25 rfl) rfl (by
          have z0 : σ0 111 0 = 0 := by rw [hσ0, ju_at]
          first | exact ⟨congrArg (fun z => some (vI z)) (by rw [gte_f (by omega)]), by rw [hσ0]; exact (mdT.refl _ _ _).put (by decide), z0⟩ | exact ⟨congrArg (fun z => some (vI z)) (by rw [gte_t ⟨⟨h13, h24⟩, by omega⟩, pkR_e e0]), mdT.tr (by rw [hσ0]; exact (mdT.refl _ _ _).put (by decide)) (S.wide (by decide) (by decide)), by rw [S.2 0 (by decide), z0]⟩)
  refine r_iload_n (dc dkX13_triangles 8 rfl) rfl (np 17 rfl ?_)
  refine r_iconst (dc dkX13_triangles 9 rfl) (np 18 rfl ?_)
  refine r_sipush (dc dkX13_triangles 10 rfl) sp_999 (np 21 rfl ?_)
  refine r_pS3 (y' := miX13_isIn) (dc dkX13_triangles 11 rfl) mlX13_168 seX13_isIn (Nat.le_of_ble_eq_true rfl) (Nat.le_of_ble_eq_true rfl) (c_X13_isIn (by omega) (by decide) (by decide)) (np 24 rfl ?_)
  refine r_bz (tgt := 46) (dc dkX13_triangles 12 rfl) rfl (fun h24 => ?_) (fun h24 => (np 27 rfl ?_))
  · skip
    refine r_iconst (dc dkX13_triangles 24 rfl) (np 47 rfl ?_)
    exact r_iret (dc dkX13_triangles 25 rfl) rfl (by
          have z0 : σ0 111 0 = 0 := by rw [hσ0, ju_at]
          first | exact ⟨congrArg (fun z => some (vI z)) (by rw [gte_f (by omega)]), by rw [hσ0]; exact (mdT.refl _ _ _).put (by decide), z0⟩ | exact ⟨congrArg (fun z => some (vI z)) (by rw [gte_t ⟨⟨h13, h24⟩, by omega⟩, pkR_e e0]), mdT.tr (by rw [hσ0]; exact (mdT.refl _ _ _).put (by decide)) (S.wide (by decide) (by decide)), by rw [S.2 0 (by decide), z0]⟩)
  refine r_aload_n (dc dkX13_triangles 13 rfl) rfl (np 28 rfl ?_)
  refine r_getR (dc dkX13_triangles 14 rfl) flX13_13 fd_111_15 (np 31 rfl ?_)
  refine r_iconst (dc dkX13_triangles 15 rfl) (np 32 rfl ?_)
  refine r_iald (dc dkX13_triangles 16 rfl) ar_113 (by omega) (np 33 rfl ?_)
  have e00 : σ0 113 0 = σ 113 0 := by rw [e0]
  refine r_if_le (tgt := 46) (dc dkX13_triangles 17 rfl) rfl (by first | assumption | decide | omega) (fun h33 => ?_) (fun h33 => (np 36 rfl ?_))
  · skip
    refine r_iconst (dc dkX13_triangles 24 rfl) (np 47 rfl ?_)
    exact r_iret (dc dkX13_triangles 25 rfl) rfl (by
          have z0 : σ0 111 0 = 0 := by rw [hσ0, ju_at]
          first | exact ⟨congrArg (fun z => some (vI z)) (by rw [gte_f (by omega)]), by rw [hσ0]; exact (mdT.refl _ _ _).put (by decide), z0⟩ | exact ⟨congrArg (fun z => some (vI z)) (by rw [gte_t ⟨⟨h13, h24⟩, by omega⟩, pkR_e e0]), mdT.tr (by rw [hσ0]; exact (mdT.refl _ _ _).put (by decide)) (S.wide (by decide) (by decide)), by rw [S.2 0 (by decide), z0]⟩)
  refine r_aload_n (dc dkX13_triangles 18 rfl) rfl (np 37 rfl ?_)
  refine r_iload_n (dc dkX13_triangles 19 rfl) rfl (np 38 rfl ?_)
  refine r_iload_n (dc dkX13_triangles 20 rfl) rfl (np 39 rfl ?_)
  refine r_iload_n (dc dkX13_triangles 21 rfl) rfl (np 40 rfl ?_)
  refine r_cV3 (y' := miX13_goTriangles) (dc dkX13_triangles 22 rfl) mlX13_411 ceX13_goTriangles ob_111 (Nat.le_of_ble_eq_true rfl) (Nat.le_of_ble_eq_true rfl) (c_X13_goTriangles hN0 h13 h24 (by omega)) (fun r τ hp => (np 43 rfl ?_))
  obtain ⟨rfl, S, A⟩ := hp
  rw [pkR_e e0] at A
  refine r_goto (tgt := 47) (dc dkX13_triangles 23 rfl) rfl ?_
  exact r_iret (dc dkX13_triangles 25 rfl) rfl (by
        have z0 : σ0 111 0 = 0 := by rw [hσ0, ju_at]
        first | exact ⟨congrArg (fun z => some (vI z)) (by rw [gte_f (by omega)]), by rw [hσ0]; exact (mdT.refl _ _ _).put (by decide), z0⟩ | exact ⟨congrArg (fun z => some (vI z)) (by rw [gte_t ⟨⟨h13, h24⟩, by omega⟩, pkR_e e0]), mdT.tr (by rw [hσ0]; exact (mdT.refl _ _ _).put (by decide)) (S.wide (by decide) (by decide)), by rw [S.2 0 (by decide), z0]⟩)
set_option maxRecDepth 100000 in
set_option maxHeartbeats 4000000 in
theorem c_X13_smallest {σ : jS} (hN : okN σ) {on wi : Int} (hon : iR on) (hwi : iR wi) : Jm 4 miX13_smallest [.ref 111, vI on, vI wi] σ (fun r τ => (∃ v, r = some (vI v) ∧ (((0 ≤ on ∧ on ≤ 999) ∧ (0 ≤ wi ∧ wi ≤ 999)) → AFp (QR on wi) (TL (pkR σ 113) (QR on wi)) v) ∧ (¬ ((0 ≤ on ∧ on ≤ 999) ∧ (0 ≤ wi ∧ wi ≤ 999)) → v = -1)) ∧ mdT [0, 37] [] σ τ ∧ τ 111 0 = 0) := by
  refine jm_ofF (Po := (fun r τ => (∃ v, r = some (vI v) ∧ (((0 ≤ on ∧ on ≤ 999) ∧ (0 ≤ wi ∧ wi ≤ 999)) → AFp (QR on wi) (TL (pkR σ 113) (QR on wi)) v) ∧ (¬ ((0 ≤ on ∧ on ≤ 999) ∧ (0 ≤ wi ∧ wi ≤ 999)) → v = -1)) ∧ mdT [0, 37] [] σ τ ∧ τ 111 0 = 0)) (plainFor_of_name (by decide)) (Nat.le_of_ble_eq_true rfl) (lv := [(0, _), (1, _), (2, _)]) rfl ?_
  refine r_aload_n (dc dkX13_smallest 0 rfl) rfl (np 1 rfl ?_)
  refine r_iconst (dc dkX13_smallest 1 rfl) (np 2 rfl ?_)
  refine r_pI 0 (dc dkX13_smallest 2 rfl) fpX13_94 fd_111_0 rfl (np 5 rfl ?_)
  refine r_abs (fun ρ => ρ = ju σ 111 0 0) rfl ?_
  intro σ0 hσ0
  have e0 : σ0 113 = σ 113 := by rw [hσ0]; exact ju_off _ _ _ _ _ (by decide)
  have hN0 := okN_c hN e0
  have e4 : σ0 113 4 = σ 113 4 := by rw [e0]
  have ec : ∀ b, cn σ0 113 b = cn σ 113 b := cn_c e0
  have eP : ∀ b, rP σ0 113 b = rP σ 113 b := rP_c2 e0
  have m1 := hN.1.2.2.2.2.1
  have w1 := hN.1.1
  have w2 := hN.1.2.1
  refine r_iload_n (dc dkX13_smallest 3 rfl) rfl (np 6 rfl ?_)
  refine r_iconst (dc dkX13_smallest 4 rfl) (np 7 rfl ?_)
  refine r_sipush (dc dkX13_smallest 5 rfl) sp_999 (np 10 rfl ?_)
  refine r_pS3 (y' := miX13_isIn) (dc dkX13_smallest 6 rfl) mlX13_168 seX13_isIn (Nat.le_of_ble_eq_true rfl) (Nat.le_of_ble_eq_true rfl) (c_X13_isIn (by omega) (by decide) (by decide)) (np 13 rfl ?_)
  refine r_bz (tgt := 27) (dc dkX13_smallest 7 rfl) rfl (fun h13 => ?_) (fun h13 => (np 16 rfl ?_))
  · skip
    refine r_iconst (dc dkX13_smallest 13 rfl) (np 28 rfl ?_)
    exact r_iret (dc dkX13_smallest 14 rfl) rfl (by
          have z0 : σ0 111 0 = 0 := by rw [hσ0, ju_at]
          first | exact ⟨⟨_, rfl, fun z => absurd z (by omega), fun _ => rfl⟩, by rw [hσ0]; exact (mdT.refl _ _ _).put (by decide), z0⟩ | exact ⟨⟨_, rfl, fun _ => A rfl, fun z => absurd ⟨h13, h24⟩ z⟩, mdT.tr (by rw [hσ0]; exact (mdT.refl _ _ _).put (by decide)) (S.wide (by decide) (by decide)), by rw [S.2 0 (by decide), z0]⟩)
  refine r_iload_n (dc dkX13_smallest 8 rfl) rfl (np 17 rfl ?_)
  refine r_iconst (dc dkX13_smallest 9 rfl) (np 18 rfl ?_)
  refine r_sipush (dc dkX13_smallest 10 rfl) sp_999 (np 21 rfl ?_)
  refine r_pS3 (y' := miX13_isIn) (dc dkX13_smallest 11 rfl) mlX13_168 seX13_isIn (Nat.le_of_ble_eq_true rfl) (Nat.le_of_ble_eq_true rfl) (c_X13_isIn (by omega) (by decide) (by decide)) (np 24 rfl ?_)
  refine r_bn (tgt := 29) (dc dkX13_smallest 12 rfl) rfl (fun h24 => ?_) (fun h24 => (np 27 rfl ?_))
  · skip
    refine r_aload_n (dc dkX13_smallest 15 rfl) rfl (np 30 rfl ?_)
    refine r_iload_n (dc dkX13_smallest 16 rfl) rfl (np 31 rfl ?_)
    refine r_iload_n (dc dkX13_smallest 17 rfl) rfl (np 32 rfl ?_)
    refine r_iconst (dc dkX13_smallest 18 rfl) (np 33 rfl ?_)
    refine r_cV3 (y' := miX13_goTriangles) (dc dkX13_smallest 19 rfl) mlX13_411 ceX13_goTriangles ob_111 (Nat.le_of_ble_eq_true rfl) (Nat.le_of_ble_eq_true rfl) (c_X13_goTriangles hN0 h13 h24 (by decide)) (fun r τ hp => (np 36 rfl ?_))
    obtain ⟨rfl, S, A⟩ := hp
    rw [pkR_e e0] at A
    refine r_pop (dc dkX13_smallest 20 rfl) rfl (np 37 rfl ?_)
    refine r_aload_n (dc dkX13_smallest 21 rfl) rfl (np 38 rfl ?_)
    refine r_gI 37 (dc dkX13_smallest 22 rfl) flX13_408 fd_111_37 rfl (np 41 rfl ?_)
    exact r_iret (dc dkX13_smallest 23 rfl) rfl (by
          have z0 : σ0 111 0 = 0 := by rw [hσ0, ju_at]
          first | exact ⟨⟨_, rfl, fun z => absurd z (by omega), fun _ => rfl⟩, by rw [hσ0]; exact (mdT.refl _ _ _).put (by decide), z0⟩ | exact ⟨⟨_, rfl, fun _ => A rfl, fun z => absurd ⟨h13, h24⟩ z⟩, mdT.tr (by rw [hσ0]; exact (mdT.refl _ _ _).put (by decide)) (S.wide (by decide) (by decide)), by rw [S.2 0 (by decide), z0]⟩)
  refine r_iconst (dc dkX13_smallest 13 rfl) (np 28 rfl ?_)
  exact r_iret (dc dkX13_smallest 14 rfl) rfl (by
        have z0 : σ0 111 0 = 0 := by rw [hσ0, ju_at]
        first | exact ⟨⟨_, rfl, fun z => absurd z (by omega), fun _ => rfl⟩, by rw [hσ0]; exact (mdT.refl _ _ _).put (by decide), z0⟩ | exact ⟨⟨_, rfl, fun _ => A rfl, fun z => absurd ⟨h13, h24⟩ z⟩, mdT.tr (by rw [hσ0]; exact (mdT.refl _ _ _).put (by decide)) (S.wide (by decide) (by decide)), by rw [S.2 0 (by decide), z0]⟩)
