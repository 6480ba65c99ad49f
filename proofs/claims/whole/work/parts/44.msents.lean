def MPg (c : Int) (σ : jS) (t : Int → Int) (L m : Int) (idn : Int → Int) (Y : X3) (τ : jS) (a : Int) : Prop := mdT XS [137, 138] σ τ ∧ mR t L m Y.1 τ ∧ (Y.1.1 = 0 → τ 111 47 = Y.2.1 ∧ (σ 111 47 < Y.2.1 ∧ Y.2.1 ≤ 20) ∧ τ 111 48 = σ 111 48 ∧ (σ 111 46 ≤ τ 111 46 ∧ τ 111 46 ≤ σ 111 46 + 2 * (Y.2.1 - σ 111 47) - 1 + c) ∧ (σ 111 50 ≤ τ 111 50 ∧ τ 111 50 ≤ σ 111 50 + (Y.2.1 - σ 111 47)) ∧ (∀ j, j < 4 * σ 111 46 → τ 137 j = σ 137 j) ∧ (∀ j, j < σ 111 50 → τ 138 j = σ 138 j) ∧ okNd (τ 111 46) (τ 111 50) (τ 137) ∧ okSy (τ 111 50) (τ 138) ∧ rpM (τ 111 46) (τ 111 50) (τ 137) (τ 138) idn a Y.2.2)
theorem MPo_g {σ τ : jS} {t : Int → Int} {L m : Int} {idn : Int → Int} {Y : X3} : MPo σ t L m idn Y τ ↔ MPg 0 σ t L m idn Y τ (τ 111 49) := by
  unfold MPo MPg
  simp only [Int.add_zero]
def mOne (f : Nat) (d : Int) : Prop := ∀ {σ : jS} {t : Int → Int} {L m : Int} {ex : Int → Prop} {idn : Int → Int} {R : Int × Int} {n : Int}, MPp σ t L m ex R n d → Jm (8 + 4 * f) miX13_readOne [.ref 111] σ (fun r τ => r = some (vI (bI ((pO t L m ex idn f d R n).1.1 = 0))) ∧ MPo σ t L m idn (pO t L m ex idn f d R n) τ)
def mAnd (f : Nat) (d : Int) : Prop := ∀ {σ : jS} {t : Int → Int} {L m : Int} {ex : Int → Prop} {idn : Int → Int} {R : Int × Int} {n : Int}, MPp σ t L m ex R n d → Jm (9 + 4 * f) miX13_readAnd [.ref 111] σ (fun r τ => r = some (vI (bI ((pAl t L m (pO t L m ex idn f d) R n).1.1 = 0))) ∧ MPo σ t L m idn (pAl t L m (pO t L m ex idn f d) R n) τ)
def mOr (f : Nat) (d : Int) : Prop := ∀ {σ : jS} {t : Int → Int} {L m : Int} {ex : Int → Prop} {idn : Int → Int} {R : Int × Int} {n : Int}, MPp σ t L m ex R n d → Jm (10 + 4 * f) miX13_readOr [.ref 111] σ (fun r τ => r = some (vI (bI ((pAn t L m (pO t L m ex idn f d) R n).1.1 = 0))) ∧ MPo σ t L m idn (pAn t L m (pO t L m ex idn f d) R n) τ)
theorem MP_step {σ τ τ3 : jS} {t : Int → Int} {L m : Int} {ex : Int → Prop} {idn : Int → Int} {R : Int × Int} {n d a : Int} {x : X3} (hP : MPp σ t L m ex R n d) (hx : MPg 0 σ t L m idn x τ a) (h0 : x.1.1 = 0) (hs : mdS [5, 6, 7, 8, 9, 13] τ τ3) (hR : mR t L m (stR t L m x.1) τ3) : MPp τ3 t L m ex (stR t L m x.1) x.2.1 d := by
  obtain ⟨p1, p2, p3, p4, p5, p6, p7, p8, p9, p10⟩ := hP
  obtain ⟨x1, x2, x3⟩ := hx
  obtain ⟨y1, y2, y3, y4, y5, y6, y7, y8, y9, y10⟩ := x3 h0
  have r0 : (stR t L m x.1).1 = 0 := by rw [stR_f]; exact h0
  refine ⟨hR.1 r0, r0, by rw [hs.2 47 (by decide)]; exact y1, by omega, by rw [hs.2 48 (by decide), y3]; exact p5, by rw [hs.2 46 (by decide)]; omega, by rw [hs.2 50 (by decide)]; omega, ?_, ?_, MPn_s p10 ?_ ?_⟩
  · rw [hs.2 46 (by decide), hs.2 50 (by decide), hs.1 137 (by decide)]; exact y8
  · rw [hs.2 50 (by decide), hs.1 138 (by decide)]; exact y9
  · rw [hs.1 113 (by decide), x1.1 113 (by decide) (by decide)]
  · rw [hs.1 118 (by decide), x1.1 118 (by decide) (by decide)]
theorem MP_join {σ τ τ3 τ4 τ5 : jS} {t : Int → Int} {L m : Int} {ex : Int → Prop} {idn : Int → Int} {R : Int × Int} {n d a W : Int} {x y : X3} {J : Prop → Prop → Prop} (hW : W = 2 ∨ W = 3) (hJ : ∀ (N M a b : Int) (nd nd2 sy : Int → Int) (e e2 : Fm), 0 ≤ N → nwN N W a b 0 nd nd2 → rpM N M nd sy idn a e → rpM N M nd sy idn b e2 → rpM (N + 1) M nd2 sy idn N (fun v => J (e v) (e2 v))) (hP : MPp σ t L m ex R n d) (hx : MPg 0 σ t L m idn x τ a) (h0 : x.1.1 = 0) (hs : mdS [5, 6, 7, 8, 9, 13] τ τ3) (hy : MPo τ3 t L m idn y τ4) (hy0 : y.1.1 = 0) (s5 : mdT [46] [137] τ4 τ5) (n5 : τ5 111 46 = τ4 111 46 + 1) (w5 : nwN (τ4 111 46) W a (τ4 111 49) 0 (τ4 137) (τ5 137)) : MPg 0 σ t L m idn (y.1, y.2.1, fun v => J (x.2.2 v) (y.2.2 v)) τ5 (τ4 111 46) := by
  obtain ⟨p1, p2, p3, p4, p5, p6, p7, p8, p9, p10⟩ := hP
  obtain ⟨x1, x2, x3⟩ := hx
  obtain ⟨x4, x5, x6, x7, x8, x9, x10, x11, x12, x13⟩ := x3 h0
  obtain ⟨y1, y2, y3⟩ := hy
  obtain ⟨y4, y5, y6, y7, y8, y9, y10, y11, y12, y13⟩ := y3 hy0
  have e46 : τ3 111 46 = τ 111 46 := hs.2 46 (by decide)
  have e47 : τ3 111 47 = τ 111 47 := hs.2 47 (by decide)
  have e48 : τ3 111 48 = τ 111 48 := hs.2 48 (by decide)
  have e50 : τ3 111 50 = τ 111 50 := hs.2 50 (by decide)
  have e137 : τ3 137 = τ 137 := hs.1 137 (by decide)
  have e138 : τ3 138 = τ 138 := hs.1 138 (by decide)
  rw [e46] at y7 y9
  rw [e47] at y5 y7 y8
  rw [e48] at y6
  rw [e50] at y8 y10
  rw [e137] at y9
  rw [e138] at y10
  have f50 : τ5 111 50 = τ4 111 50 := s5.2 50 (by decide)
  have f138 : τ5 138 = τ4 138 := s5.1 138 (by decide) (by decide)
  have ra : rpM (τ4 111 46) (τ4 111 50) (τ4 137) (τ4 138) idn a x.2.2 := rpM_x x13 (by omega) (by omega) (fun j j0 j1 => y9 j j1) (fun j j0 j1 => y10 j j1)
  refine ⟨((x1.trS hs (by decide)).tr y1).tr (s5.wide (by decide) (by decide)), mR_T y2 s5 (by decide) (by decide), fun _ => ?_⟩
  show τ5 111 47 = y.2.1 ∧ (σ 111 47 < y.2.1 ∧ y.2.1 ≤ 20) ∧ τ5 111 48 = σ 111 48 ∧ (σ 111 46 ≤ τ5 111 46 ∧ τ5 111 46 ≤ σ 111 46 + 2 * (y.2.1 - σ 111 47) - 1 + 0) ∧ (σ 111 50 ≤ τ5 111 50 ∧ τ5 111 50 ≤ σ 111 50 + (y.2.1 - σ 111 47)) ∧ (∀ j, j < 4 * σ 111 46 → τ5 137 j = σ 137 j) ∧ (∀ j, j < σ 111 50 → τ5 138 j = σ 138 j) ∧ okNd (τ5 111 46) (τ5 111 50) (τ5 137) ∧ okSy (τ5 111 50) (τ5 138) ∧ rpM (τ5 111 46) (τ5 111 50) (τ5 137) (τ5 138) idn (τ4 111 46) (fun v => J (x.2.2 v) (y.2.2 v))
  rw [f50, f138, n5]
  refine ⟨by rw [s5.2 47 (by decide)]; exact y4, by omega, by rw [s5.2 48 (by decide), y6, x6], by omega, by omega, fun j hj => ?_, fun j hj => by rw [y10 j (by omega), x10 j hj], ?_, y12, ?_⟩
  · rw [w5.1 j (by omega), y9 j (by omega), x9 j hj]
  · exact nwN_ok (by omega) y11 (Int.le_refl _) w5 (Or.inr (Or.inl ⟨hW, ⟨ra.1.1, ra.1.2⟩, ⟨y13.1.1, y13.1.2⟩⟩))
  · exact hJ _ _ _ _ _ _ _ _ _ (by omega) w5 ra y13
theorem MP_out {σ τ2 τ5 : jS} {t : Int → Int} {L m : Int} {idn : Int → Int} {n d : Int} {Y : X3} (hn : σ 111 47 = n) (hd : σ 111 48 = d - 1) (f2 : mdT XS [137, 138] σ τ2) (e46 : τ2 111 46 = σ 111 46) (e50 : τ2 111 50 = σ 111 50) (e137 : τ2 137 = σ 137) (e138 : τ2 138 = σ 138) (n2 : τ2 111 47 = n + 1) (d2 : τ2 111 48 = d) (h : MPg 1 τ2 t L m idn Y τ5 (τ5 111 49)) : MPo σ t L m idn Y (ju τ5 111 48 (τ5 111 48 - 1)) := by
  obtain ⟨x1, x2, x3⟩ := h
  have s : mdT [48] [] τ5 (ju τ5 111 48 (τ5 111 48 - 1)) := (mdT.refl _ _ _).put (by decide)
  refine ⟨(f2.tr x1).tr (s.wide (by decide) (by decide)), mR_T x2 s (by decide) (by decide), fun z => ?_⟩
  obtain ⟨y1, y2, y3, y4, y5, y6, y7, y8, y9, y10⟩ := x3 z
  rw [e46] at y4 y6
  rw [n2] at y2 y4 y5
  rw [e50] at y5 y7
  rw [e137] at y6
  rw [e138] at y7
  rw [ju_ne (by decide), ju_at, ju_ne (by decide), ju_ne (by decide), ju_ne (by decide), ju_off _ _ _ _ _ (by decide), ju_off _ _ _ _ _ (by decide)]
  exact ⟨y1, by omega, by omega, by omega, by omega, y6, y7, y8, y9, y10⟩
theorem MP_atom {σ τ2 τ5 : jS} {t : Int → Int} {L m : Int} {idn : Int → Int} {n d w a b r c : Int} {R' : Int × Int} (hn : σ 111 47 = n) (hb : n < 20) (hd : σ 111 48 = d - 1) (hN : 0 ≤ σ 111 46) (hM : 0 ≤ σ 111 50) (ho : okNd (σ 111 46) (σ 111 50) (σ 137)) (f2 : mdT XS [137, 138] σ τ2) (n2 : τ2 111 47 = n + 1) (d2 : τ2 111 48 = d) (s : mdT [5, 6, 7, 8, 9, 10, 11, 13, 14, 46, 49, 50] [137, 138] τ2 τ5) (hR : mR t L m R' τ5) (hw : 59 ≤ w ∧ w ≤ 66) (hp : R'.1 = 0 → τ5 111 46 = σ 111 46 + 1 ∧ τ5 111 49 = σ 111 46 ∧ (σ 111 50 ≤ τ5 111 50 ∧ τ5 111 50 ≤ σ 111 50 + 1) ∧ nwN (σ 111 46) w a b r (σ 137) (τ5 137) ∧ (∀ j, j < σ 111 50 → τ5 138 j = σ 138 j) ∧ okSy (τ5 111 50) (τ5 138) ∧ ((w = 59 ∨ w = 60) → 0 ≤ a ∧ a < τ5 111 50) ∧ (62 ≤ w → (60 ≤ r ∧ r ≤ 62) ∧ (0 ≤ b ∧ b ≤ 999)) ∧ c = if w = 59 ∨ w = 60 then (w - 50) * 3000 + idn (τ5 138 a) else if w = 61 then 33000 else (w - 50) * 3000 + (r - 60) * 1000 + b) : MPo σ t L m idn (R', n + 1, fun v => v c) (ju τ5 111 48 (τ5 111 48 - 1)) := by
  have s2 : mdT [48] [] τ5 (ju τ5 111 48 (τ5 111 48 - 1)) := (mdT.refl _ _ _).put (by decide)
  refine ⟨(f2.tr (s.wide (by decide) (by decide))).tr (s2.wide (by decide) (by decide)), mR_T hR s2 (by decide) (by decide), fun z => ?_⟩
  obtain ⟨q1, q2, q3, q4, q5, q6, q7, q8, q9⟩ := hp z
  rw [ju_ne (by decide), ju_at, ju_ne (by decide), ju_ne (by decide), ju_ne (by decide), ju_off _ _ _ _ _ (by decide), ju_off _ _ _ _ _ (by decide), q1, q2, s.2 47 (by decide), s.2 48 (by decide), n2, d2]
  show n + 1 = n + 1 ∧ (σ 111 47 < n + 1 ∧ n + 1 ≤ 20) ∧ d - 1 = σ 111 48 ∧ (σ 111 46 ≤ σ 111 46 + 1 ∧ σ 111 46 + 1 ≤ σ 111 46 + 2 * (n + 1 - σ 111 47) - 1) ∧ (σ 111 50 ≤ τ5 111 50 ∧ τ5 111 50 ≤ σ 111 50 + (n + 1 - σ 111 47)) ∧ (∀ j, j < 4 * σ 111 46 → τ5 137 j = σ 137 j) ∧ (∀ j, j < σ 111 50 → τ5 138 j = σ 138 j) ∧ okNd (σ 111 46 + 1) (τ5 111 50) (τ5 137) ∧ okSy (τ5 111 50) (τ5 138) ∧ rpM (σ 111 46 + 1) (τ5 111 50) (τ5 137) (τ5 138) idn (σ 111 46) (fun v => v c)
  refine ⟨rfl, by omega, by omega, by omega, by omega, fun j hj => q4.1 j (by omega), q5, nwN_ok hN ho q3.1 q4 ?_, q6, rpM_at hN q4 hw q7 q9⟩
  by_cases h1 : w = 59 ∨ w = 60
  · exact Or.inr (Or.inr (Or.inl ⟨h1, q7 h1⟩))
  · by_cases h2 : w = 61
    · exact Or.inr (Or.inr (Or.inr (Or.inl h2)))
    · exact Or.inr (Or.inr (Or.inr (Or.inr ⟨by omega, (q8 (by omega)).1, (q8 (by omega)).2⟩)))
set_option maxRecDepth 100000 in
set_option maxHeartbeats 4000000 in
theorem c_X13_readAnd {f : Nat} {d : Int} (ih : mOne f d) {σ : jS} {t : Int → Int} {L m : Int} {ex : Int → Prop} {idn : Int → Int} {R : Int × Int} {n : Int} (hP : MPp σ t L m ex R n d) : Jm (9 + 4 * f) miX13_readAnd [.ref 111] σ (fun r τ => r = some (vI (bI ((pAl t L m (pO t L m ex idn f d) R n).1.1 = 0))) ∧ MPo σ t L m idn (pAl t L m (pO t L m ex idn f d) R n) τ) := by
  have hn := hP.2.2.1
  have hnb := hP.2.2.2.1
  refine jm_ofF (Po := (fun r τ => r = some (vI (bI ((pAl t L m (pO t L m ex idn f d) R n).1.1 = 0))) ∧ MPo σ t L m idn (pAl t L m (pO t L m ex idn f d) R n) τ)) (plainFor_of_name (by decide)) (Nat.le_of_ble_eq_true rfl) (lv := [(0, _)]) rfl ?_
  refine r_aload_n (dc dkX13_readAnd 0 rfl) rfl (np 1 rfl ?_)
  refine r_cV0 (y' := miX13_readOne) (dc dkX13_readAnd 1 rfl) mlX13_460 ceX13_readOne ob_111 (by omega) (Nat.le_of_ble_eq_true rfl) (ih (idn := idn) hP) (fun r τ1 hp1 => (np 4 rfl ?_))
  obtain ⟨rfl, hx1⟩ := hp1
  refine r_bn (tgt := 9) (dc dkX13_readAnd 2 rfl) rfl (fun h4 => ?_) (fun h4 => (np 7 rfl ?_))
  · skip
    refine r_aload_n (dc dkX13_readAnd 5 rfl) rfl (np 10 rfl ?_)
    refine r_gI 49 (dc dkX13_readAnd 6 rfl) flX13_453 fd_111_49 rfl (np 13 rfl ?_)
    refine r_istore_n (lv' := [(1, _), (0, _)]) (dc dkX13_readAnd 7 rfl) (Nat.le_of_ble_eq_true rfl) rfl (np 14 rfl ?_)
    refine r_pick [1, 0] (lv' := [(0, _), (1, _)]) rfl ?_
    refine jlp2 (P := fun (a : Int) (τ : jS) => jR _ _ _ 14 [(0, .ref 111), (1, vI a)] [] τ) (I := fun (a : Int) (τ : jS) => ∃ (i : Int) (x : X3), 0 ≤ i ∧ i + 1 ≤ x.2.1 ∧ x.1.1 = 0 ∧ MPg 0 σ t L m idn x τ a ∧ pAl t L m (pO t L m ex idn f d) R n = lpF t L m (pO t L m ex idn f d) 107 And (20 - i).toNat x) (fun (a : Int) (τ : jS) => (20 - τ 111 47).toNat) ?_ _ _ ⟨0, _, by omega, by have := (hx1.2.2 h4).2.1; omega, h4, MPo_g.mp hx1, rfl⟩
    intro a τ hI14 ih14
    obtain ⟨i, x, hi0, hi1, h0, hx, hF⟩ := hI14
    have hx3 := hx.2.2 h0
    have hx4 := hx3.1
    have hx5 := hx3.2.1
    refine r_aload_n (dc dkX13_readAnd 8 rfl) rfl (np 15 rfl ?_)
    refine r_bipush (dc dkX13_readAnd 9 rfl) bp_7 (np 17 rfl ?_)
    refine r_pV1 (y' := miX13_isWord) (dc dkX13_readAnd 10 rfl) mlX13_252 ceX13_isWord ob_111 (by omega) (Nat.le_of_ble_eq_true rfl) (c_X13_isWord (hx.2.1.1 h0) (by decide)) (np 20 rfl ?_)
    refine r_bz (tgt := 51) (dc dkX13_readAnd 11 rfl) rfl (fun h20 => ?_) (fun h20 => (np 23 rfl ?_))
    · skip
      refine r_aload_n (dc dkX13_readAnd 28 rfl) rfl (np 52 rfl ?_)
      refine r_iload_n (dc dkX13_readAnd 29 rfl) rfl (np 53 rfl ?_)
      refine r_pI 49 (dc dkX13_readAnd 30 rfl) fpX13_453 fd_111_49 rfl (np 56 rfl ?_)
      refine r_iconst (dc dkX13_readAnd 31 rfl) (np 57 rfl ?_)
      exact r_zret (dc dkX13_readAnd 32 rfl) rfl (by first | exact Or.inl rfl | exact Or.inr rfl) (by
          have e : pAl t L m (pO t L m ex idn f d) R n = x := by rw [hF, lpF_n (k := 107) (fun z => h20 z.2)]
          rw [e]
          refine ⟨by rw [bI_t h0], hx.1.put (by decide), mR_T hx.2.1 ((mdT.refl [49] [] _).put (by decide)) (by decide) (by decide), fun _ => ?_⟩
          rw [ju_ne (by decide), ju_ne (by decide), ju_ne (by decide), ju_ne (by decide), ju_at, ju_off _ _ _ _ _ (by decide), ju_off _ _ _ _ _ (by decide)]
          obtain ⟨q1, q2, q3, q4, q5, q6, q7, q8, q9, q10⟩ := hx3
          exact ⟨q1, q2, q3, by omega, q5, q6, q7, q8, q9, q10⟩)
    refine r_aload_n (dc dkX13_readAnd 12 rfl) rfl (np 24 rfl ?_)
    refine r_cV0 (y' := miX13_go) (dc dkX13_readAnd 13 rfl) mlX13_179 ceX13_go ob_111 (by omega) (Nat.le_of_ble_eq_true rfl) (c_goR h0 (hx.2.1.1 h0)) (fun r τ3 hp3 => (np 27 rfl ?_))
    obtain ⟨rfl, hs3, hM3⟩ := hp3
    refine r_aload_n (dc dkX13_readAnd 14 rfl) rfl (np 28 rfl ?_)
    refine r_cV0 (y' := miX13_readOne) (dc dkX13_readAnd 15 rfl) mlX13_460 ceX13_readOne ob_111 (by omega) (Nat.le_of_ble_eq_true rfl) (ih (idn := idn) (MP_step hP hx h0 hs3 hM3)) (fun r τ4 hp4 => (np 31 rfl ?_))
    obtain ⟨rfl, hy⟩ := hp4
    refine r_bn (tgt := 36) (dc dkX13_readAnd 16 rfl) rfl (fun h31 => ?_) (fun h31 => (np 34 rfl ?_))
    · skip
      refine r_aload_n (dc dkX13_readAnd 19 rfl) rfl (np 37 rfl ?_)
      refine r_iconst (dc dkX13_readAnd 20 rfl) (np 38 rfl ?_)
      refine r_iload_n (dc dkX13_readAnd 21 rfl) rfl (np 39 rfl ?_)
      refine r_aload_n (dc dkX13_readAnd 22 rfl) rfl (np 40 rfl ?_)
      refine r_gI 49 (dc dkX13_readAnd 23 rfl) flX13_453 fd_111_49 rfl (np 43 rfl ?_)
      refine r_iconst (dc dkX13_readAnd 24 rfl) (np 44 rfl ?_)
      refine r_cV4 (y' := miX13_lays) (dc dkX13_readAnd 25 rfl) mlX13_456 ceX13_lays ob_111 (by omega) (Nat.le_of_ble_eq_true rfl) (c_X13_lays (by have b := MP_step hP hx h0 hs3 hM3; have b1 := b.2.2.2.2.2.1; have b2 := b.2.2.1; have c := hy.2.2 h31; have c1 := c.2.2.2.1; have c2 := c.2.1; omega)) (fun r τ5 hp5 => (np 47 rfl ?_))
      obtain ⟨rfl, hs5, n5, w5⟩ := hp5
      refine r_istore_n (lv' := [(1, _), (0, _)]) (dc dkX13_readAnd 26 rfl) (Nat.le_of_ble_eq_true rfl) rfl (np 48 rfl ?_)
      refine r_goto (tgt := 14) (dc dkX13_readAnd 27 rfl) rfl ?_
      refine r_pick [1, 0] rfl ?_
      exact ih14 _ _ (by have c2 := (hy.2.2 h31).2.1; have b2 := (MP_step hP hx h0 hs3 hM3).2.2.1; exact ⟨i + 1, (((pO t L m ex idn f d) (stR t L m x.1) x.2.1).1, ((pO t L m ex idn f d) (stR t L m x.1) x.2.1).2.1, fun v => And (x.2.2 v) (((pO t L m ex idn f d) (stR t L m x.1) x.2.1).2.2 v)), by omega, by show i + 1 + 1 ≤ ((pO t L m ex idn f d) (stR t L m x.1) x.2.1).2.1; omega, h31, MP_join (W := 2) (J := And) (Or.inl rfl) (fun N M a b nd nd2 sy e e2 h0 h1 h2 h3 => rpM_and h0 h1 h2 h3) hP hx h0 hs3 hy h31 hs5 n5 w5, by rw [hF, show (20 - i).toNat = (20 - (i + 1)).toNat + 1 by omega, lpF_y (k := 107) ⟨h0, h20⟩]⟩) (by have c2 := (hy.2.2 h31).2.1; have c1 := (hy.2.2 h31).1; have b2 := (MP_step hP hx h0 hs3 hM3).2.2.1; have s47 := hs5.2 47 (by decide); omega)
    refine r_iconst (dc dkX13_readAnd 17 rfl) (np 35 rfl ?_)
    exact r_zret (dc dkX13_readAnd 18 rfl) rfl (by first | exact Or.inl rfl | exact Or.inr rfl) (by
        have b2 := (MP_step hP hx h0 hs3 hM3).2.2.1
        have e : pAl t L m (pO t L m ex idn f d) R n = (((pO t L m ex idn f d) (stR t L m x.1) x.2.1).1, ((pO t L m ex idn f d) (stR t L m x.1) x.2.1).2.1, fun v => And (x.2.2 v) (((pO t L m ex idn f d) (stR t L m x.1) x.2.1).2.2 v)) := by rw [hF, show (20 - i).toNat = (20 - (i + 1)).toNat + 1 by omega, lpF_y (k := 107) ⟨h0, h20⟩]; exact lpF_n (fun z => h31 z.1)
        rw [e]
        exact ⟨by rw [bI_f h31], ((hx.1.trS hs3 (by decide)).tr hy.1), hy.2.1, fun z => absurd z h31⟩)
  refine r_iconst (dc dkX13_readAnd 3 rfl) (np 8 rfl ?_)
  exact r_zret (dc dkX13_readAnd 4 rfl) rfl (by first | exact Or.inl rfl | exact Or.inr rfl) (by
      have e : pAl t L m (pO t L m ex idn f d) R n = pO t L m ex idn f d R n := lpF_n (fun z => h4 z.1)
      rw [e]
      exact ⟨by rw [bI_f h4], hx1⟩)
set_option maxRecDepth 100000 in
set_option maxHeartbeats 4000000 in
theorem c_X13_readOr {f : Nat} {d : Int} (ih : mAnd f d) {σ : jS} {t : Int → Int} {L m : Int} {ex : Int → Prop} {idn : Int → Int} {R : Int × Int} {n : Int} (hP : MPp σ t L m ex R n d) : Jm (10 + 4 * f) miX13_readOr [.ref 111] σ (fun r τ => r = some (vI (bI ((pAn t L m (pO t L m ex idn f d) R n).1.1 = 0))) ∧ MPo σ t L m idn (pAn t L m (pO t L m ex idn f d) R n) τ) := by
  have hn := hP.2.2.1
  have hnb := hP.2.2.2.1
  refine jm_ofF (Po := (fun r τ => r = some (vI (bI ((pAn t L m (pO t L m ex idn f d) R n).1.1 = 0))) ∧ MPo σ t L m idn (pAn t L m (pO t L m ex idn f d) R n) τ)) (plainFor_of_name (by decide)) (Nat.le_of_ble_eq_true rfl) (lv := [(0, _)]) rfl ?_
  refine r_aload_n (dc dkX13_readOr 0 rfl) rfl (np 1 rfl ?_)
  refine r_cV0 (y' := miX13_readAnd) (dc dkX13_readOr 1 rfl) mlX13_450 ceX13_readAnd ob_111 (by omega) (Nat.le_of_ble_eq_true rfl) (ih (idn := idn) hP) (fun r τ1 hp1 => (np 4 rfl ?_))
  obtain ⟨rfl, hx1⟩ := hp1
  refine r_bn (tgt := 9) (dc dkX13_readOr 2 rfl) rfl (fun h4 => ?_) (fun h4 => (np 7 rfl ?_))
  · skip
    refine r_aload_n (dc dkX13_readOr 5 rfl) rfl (np 10 rfl ?_)
    refine r_gI 49 (dc dkX13_readOr 6 rfl) flX13_453 fd_111_49 rfl (np 13 rfl ?_)
    refine r_istore_n (lv' := [(1, _), (0, _)]) (dc dkX13_readOr 7 rfl) (Nat.le_of_ble_eq_true rfl) rfl (np 14 rfl ?_)
    refine r_pick [1, 0] (lv' := [(0, _), (1, _)]) rfl ?_
    refine jlp2 (P := fun (a : Int) (τ : jS) => jR _ _ _ 14 [(0, .ref 111), (1, vI a)] [] τ) (I := fun (a : Int) (τ : jS) => ∃ (i : Int) (x : X3), 0 ≤ i ∧ i + 1 ≤ x.2.1 ∧ x.1.1 = 0 ∧ MPg 0 σ t L m idn x τ a ∧ pAn t L m (pO t L m ex idn f d) R n = lpF t L m (pAl t L m (pO t L m ex idn f d)) 106 Or (20 - i).toNat x) (fun (a : Int) (τ : jS) => (20 - τ 111 47).toNat) ?_ _ _ ⟨0, _, by omega, by have := (hx1.2.2 h4).2.1; omega, h4, MPo_g.mp hx1, rfl⟩
    intro a τ hI14 ih14
    obtain ⟨i, x, hi0, hi1, h0, hx, hF⟩ := hI14
    have hx3 := hx.2.2 h0
    have hx4 := hx3.1
    have hx5 := hx3.2.1
    refine r_aload_n (dc dkX13_readOr 8 rfl) rfl (np 15 rfl ?_)
    refine r_bipush (dc dkX13_readOr 9 rfl) bp_6 (np 17 rfl ?_)
    refine r_pV1 (y' := miX13_isWord) (dc dkX13_readOr 10 rfl) mlX13_252 ceX13_isWord ob_111 (by omega) (Nat.le_of_ble_eq_true rfl) (c_X13_isWord (hx.2.1.1 h0) (by decide)) (np 20 rfl ?_)
    refine r_bz (tgt := 51) (dc dkX13_readOr 11 rfl) rfl (fun h20 => ?_) (fun h20 => (np 23 rfl ?_))
    · skip
      refine r_aload_n (dc dkX13_readOr 28 rfl) rfl (np 52 rfl ?_)
      refine r_iload_n (dc dkX13_readOr 29 rfl) rfl (np 53 rfl ?_)
      refine r_pI 49 (dc dkX13_readOr 30 rfl) fpX13_453 fd_111_49 rfl (np 56 rfl ?_)
      refine r_iconst (dc dkX13_readOr 31 rfl) (np 57 rfl ?_)
      exact r_zret (dc dkX13_readOr 32 rfl) rfl (by first | exact Or.inl rfl | exact Or.inr rfl) (by
          have e : pAn t L m (pO t L m ex idn f d) R n = x := by rw [hF, lpF_n (k := 106) (fun z => h20 z.2)]
          rw [e]
          refine ⟨by rw [bI_t h0], hx.1.put (by decide), mR_T hx.2.1 ((mdT.refl [49] [] _).put (by decide)) (by decide) (by decide), fun _ => ?_⟩
          rw [ju_ne (by decide), ju_ne (by decide), ju_ne (by decide), ju_ne (by decide), ju_at, ju_off _ _ _ _ _ (by decide), ju_off _ _ _ _ _ (by decide)]
          obtain ⟨q1, q2, q3, q4, q5, q6, q7, q8, q9, q10⟩ := hx3
          exact ⟨q1, q2, q3, by omega, q5, q6, q7, q8, q9, q10⟩)
    refine r_aload_n (dc dkX13_readOr 12 rfl) rfl (np 24 rfl ?_)
    refine r_cV0 (y' := miX13_go) (dc dkX13_readOr 13 rfl) mlX13_179 ceX13_go ob_111 (by omega) (Nat.le_of_ble_eq_true rfl) (c_goR h0 (hx.2.1.1 h0)) (fun r τ3 hp3 => (np 27 rfl ?_))
    obtain ⟨rfl, hs3, hM3⟩ := hp3
    refine r_aload_n (dc dkX13_readOr 14 rfl) rfl (np 28 rfl ?_)
    refine r_cV0 (y' := miX13_readAnd) (dc dkX13_readOr 15 rfl) mlX13_450 ceX13_readAnd ob_111 (by omega) (Nat.le_of_ble_eq_true rfl) (ih (idn := idn) (MP_step hP hx h0 hs3 hM3)) (fun r τ4 hp4 => (np 31 rfl ?_))
    obtain ⟨rfl, hy⟩ := hp4
    refine r_bn (tgt := 36) (dc dkX13_readOr 16 rfl) rfl (fun h31 => ?_) (fun h31 => (np 34 rfl ?_))
    · skip
      refine r_aload_n (dc dkX13_readOr 19 rfl) rfl (np 37 rfl ?_)
      refine r_iconst (dc dkX13_readOr 20 rfl) (np 38 rfl ?_)
      refine r_iload_n (dc dkX13_readOr 21 rfl) rfl (np 39 rfl ?_)
      refine r_aload_n (dc dkX13_readOr 22 rfl) rfl (np 40 rfl ?_)
      refine r_gI 49 (dc dkX13_readOr 23 rfl) flX13_453 fd_111_49 rfl (np 43 rfl ?_)
      refine r_iconst (dc dkX13_readOr 24 rfl) (np 44 rfl ?_)
      refine r_cV4 (y' := miX13_lays) (dc dkX13_readOr 25 rfl) mlX13_456 ceX13_lays ob_111 (by omega) (Nat.le_of_ble_eq_true rfl) (c_X13_lays (by have b := MP_step hP hx h0 hs3 hM3; have b1 := b.2.2.2.2.2.1; have b2 := b.2.2.1; have c := hy.2.2 h31; have c1 := c.2.2.2.1; have c2 := c.2.1; omega)) (fun r τ5 hp5 => (np 47 rfl ?_))
      obtain ⟨rfl, hs5, n5, w5⟩ := hp5
      refine r_istore_n (lv' := [(1, _), (0, _)]) (dc dkX13_readOr 26 rfl) (Nat.le_of_ble_eq_true rfl) rfl (np 48 rfl ?_)
      refine r_goto (tgt := 14) (dc dkX13_readOr 27 rfl) rfl ?_
      refine r_pick [1, 0] rfl ?_
      exact ih14 _ _ (by have c2 := (hy.2.2 h31).2.1; have b2 := (MP_step hP hx h0 hs3 hM3).2.2.1; exact ⟨i + 1, (((pAl t L m (pO t L m ex idn f d)) (stR t L m x.1) x.2.1).1, ((pAl t L m (pO t L m ex idn f d)) (stR t L m x.1) x.2.1).2.1, fun v => Or (x.2.2 v) (((pAl t L m (pO t L m ex idn f d)) (stR t L m x.1) x.2.1).2.2 v)), by omega, by show i + 1 + 1 ≤ ((pAl t L m (pO t L m ex idn f d)) (stR t L m x.1) x.2.1).2.1; omega, h31, MP_join (W := 3) (J := Or) (Or.inr rfl) (fun N M a b nd nd2 sy e e2 h0 h1 h2 h3 => rpM_or h0 h1 h2 h3) hP hx h0 hs3 hy h31 hs5 n5 w5, by rw [hF, show (20 - i).toNat = (20 - (i + 1)).toNat + 1 by omega, lpF_y (k := 106) ⟨h0, h20⟩]⟩) (by have c2 := (hy.2.2 h31).2.1; have c1 := (hy.2.2 h31).1; have b2 := (MP_step hP hx h0 hs3 hM3).2.2.1; have s47 := hs5.2 47 (by decide); omega)
    refine r_iconst (dc dkX13_readOr 17 rfl) (np 35 rfl ?_)
    exact r_zret (dc dkX13_readOr 18 rfl) rfl (by first | exact Or.inl rfl | exact Or.inr rfl) (by
        have b2 := (MP_step hP hx h0 hs3 hM3).2.2.1
        have e : pAn t L m (pO t L m ex idn f d) R n = (((pAl t L m (pO t L m ex idn f d)) (stR t L m x.1) x.2.1).1, ((pAl t L m (pO t L m ex idn f d)) (stR t L m x.1) x.2.1).2.1, fun v => Or (x.2.2 v) (((pAl t L m (pO t L m ex idn f d)) (stR t L m x.1) x.2.1).2.2 v)) := by rw [hF, show (20 - i).toNat = (20 - (i + 1)).toNat + 1 by omega, lpF_y (k := 106) ⟨h0, h20⟩]; exact lpF_n (fun z => h31 z.1)
        rw [e]
        exact ⟨by rw [bI_f h31], ((hx.1.trS hs3 (by decide)).tr hy.1), hy.2.1, fun z => absurd z h31⟩)
  refine r_iconst (dc dkX13_readOr 3 rfl) (np 8 rfl ?_)
  exact r_zret (dc dkX13_readOr 4 rfl) rfl (by first | exact Or.inl rfl | exact Or.inr rfl) (by
      have e : pAn t L m (pO t L m ex idn f d) R n = pAl t L m (pO t L m ex idn f d) R n := lpF_n (fun z => h4 z.1)
      rw [e]
      exact ⟨by rw [bI_f h4], hx1⟩)
set_option maxRecDepth 100000 in
set_option maxHeartbeats 4000000 in
theorem c_X13_readNot {f : Nat} {d : Int} (ih : mOne f d) {σ : jS} {t : Int → Int} {L m : Int} {ex : Int → Prop} {idn : Int → Int} {R : Int × Int} {n : Int} (hP : MPp σ t L m ex R n d) : Jm (9 + 4 * f) miX13_readNot [.ref 111] σ (fun r τ => r = some (vI (bI ((pO t L m ex idn f d R n).1.1 = 0))) ∧ MPg 1 σ t L m idn ((pO t L m ex idn f d R n).1, (pO t L m ex idn f d R n).2.1, fun v => ¬ (pO t L m ex idn f d R n).2.2 v) τ (τ 111 49)) := by
  refine jm_ofF (Po := (fun r τ => r = some (vI (bI ((pO t L m ex idn f d R n).1.1 = 0))) ∧ MPg 1 σ t L m idn ((pO t L m ex idn f d R n).1, (pO t L m ex idn f d R n).2.1, fun v => ¬ (pO t L m ex idn f d R n).2.2 v) τ (τ 111 49))) (plainFor_of_name (by decide)) (Nat.le_of_ble_eq_true rfl) (lv := [(0, _)]) rfl ?_
  refine r_aload_n (dc dkX13_readNot 0 rfl) rfl (np 1 rfl ?_)
  refine r_cV0 (y' := miX13_readOne) (dc dkX13_readNot 1 rfl) mlX13_460 ceX13_readOne ob_111 (by omega) (Nat.le_of_ble_eq_true rfl) (ih (idn := idn) hP) (fun r τ1 hp1 => (np 4 rfl ?_))
  obtain ⟨rfl, hx1⟩ := hp1
  refine r_bn (tgt := 9) (dc dkX13_readNot 2 rfl) rfl (fun h4 => ?_) (fun h4 => (np 7 rfl ?_))
  · skip
    refine r_aload_n (dc dkX13_readNot 5 rfl) rfl (np 10 rfl ?_)
    refine r_aload_n (dc dkX13_readNot 6 rfl) rfl (np 11 rfl ?_)
    refine r_iconst (dc dkX13_readNot 7 rfl) (np 12 rfl ?_)
    refine r_aload_n (dc dkX13_readNot 8 rfl) rfl (np 13 rfl ?_)
    refine r_gI 49 (dc dkX13_readNot 9 rfl) flX13_453 fd_111_49 rfl (np 16 rfl ?_)
    refine r_iconst (dc dkX13_readNot 10 rfl) (np 17 rfl ?_)
    refine r_iconst (dc dkX13_readNot 11 rfl) (np 18 rfl ?_)
    refine r_cV4 (y' := miX13_lays) (dc dkX13_readNot 12 rfl) mlX13_456 ceX13_lays ob_111 (by omega) (Nat.le_of_ble_eq_true rfl) (c_X13_lays (by have c := hx1.2.2 h4; have c1 := c.2.2.2.1; have c2 := c.2.1; have b1 := hP.2.2.2.2.2.1; have b2 := hP.2.2.1; omega)) (fun r τ5 hp5 => (np 21 rfl ?_))
    obtain ⟨rfl, hs5, n5, w5⟩ := hp5
    refine r_pI 49 (dc dkX13_readNot 13 rfl) fpX13_453 fd_111_49 rfl (np 24 rfl ?_)
    refine r_iconst (dc dkX13_readNot 14 rfl) (np 25 rfl ?_)
    exact r_zret (dc dkX13_readNot 15 rfl) rfl (by first | exact Or.inl rfl | exact Or.inr rfl) (by
        obtain ⟨q1, q2, q3, q4, q5, q6, q7, q8, q9, q10⟩ := hx1.2.2 h4
        have b1 := hP.2.2.2.2.2.1
        have s : mdT [46, 49] [137] τ1 (ju τ5 111 49 (τ1 111 46)) := (hs5.wide (by decide) (by decide)).put (by decide)
        refine ⟨by rw [bI_t h4], hx1.1.tr (s.wide (by decide) (by decide)), mR_T hx1.2.1 s (by decide) (by decide), fun _ => ?_⟩
        show (ju τ5 111 49 (τ1 111 46)) 111 47 = (pO t L m ex idn f d R n).2.1 ∧ (σ 111 47 < (pO t L m ex idn f d R n).2.1 ∧ (pO t L m ex idn f d R n).2.1 ≤ 20) ∧ (ju τ5 111 49 (τ1 111 46)) 111 48 = σ 111 48 ∧ (σ 111 46 ≤ (ju τ5 111 49 (τ1 111 46)) 111 46 ∧ (ju τ5 111 49 (τ1 111 46)) 111 46 ≤ σ 111 46 + 2 * ((pO t L m ex idn f d R n).2.1 - σ 111 47) - 1 + 1) ∧ (σ 111 50 ≤ (ju τ5 111 49 (τ1 111 46)) 111 50 ∧ (ju τ5 111 49 (τ1 111 46)) 111 50 ≤ σ 111 50 + ((pO t L m ex idn f d R n).2.1 - σ 111 47)) ∧ (∀ j, j < 4 * σ 111 46 → (ju τ5 111 49 (τ1 111 46)) 137 j = σ 137 j) ∧ (∀ j, j < σ 111 50 → (ju τ5 111 49 (τ1 111 46)) 138 j = σ 138 j) ∧ okNd ((ju τ5 111 49 (τ1 111 46)) 111 46) ((ju τ5 111 49 (τ1 111 46)) 111 50) ((ju τ5 111 49 (τ1 111 46)) 137) ∧ okSy ((ju τ5 111 49 (τ1 111 46)) 111 50) ((ju τ5 111 49 (τ1 111 46)) 138) ∧ rpM ((ju τ5 111 49 (τ1 111 46)) 111 46) ((ju τ5 111 49 (τ1 111 46)) 111 50) ((ju τ5 111 49 (τ1 111 46)) 137) ((ju τ5 111 49 (τ1 111 46)) 138) idn ((ju τ5 111 49 (τ1 111 46)) 111 49) (fun v => ¬ (pO t L m ex idn f d R n).2.2 v)
        rw [ju_ne (by decide), ju_ne (by decide), ju_ne (by decide), ju_ne (by decide), ju_at, ju_off _ _ _ _ _ (by decide), ju_off _ _ _ _ _ (by decide), hs5.2 47 (by decide), hs5.2 48 (by decide), hs5.2 50 (by decide), hs5.1 138 (by decide) (by decide), n5]
        refine ⟨q1, q2, q3, by omega, q5, fun j hj => by rw [w5.1 j (by omega)]; exact q6 j hj, q7, nwN_ok (by omega) q8 (Int.le_refl _) w5 (Or.inl ⟨rfl, q10.1.1, q10.1.2⟩), q9, rpM_not (by omega) w5 q10⟩)
  refine r_iconst (dc dkX13_readNot 3 rfl) (np 8 rfl ?_)
  exact r_zret (dc dkX13_readNot 4 rfl) rfl (by first | exact Or.inl rfl | exact Or.inr rfl) ⟨by rw [bI_f h4], hx1.1, hx1.2.1, fun z => absurd z h4⟩
set_option maxRecDepth 100000 in
set_option maxHeartbeats 4000000 in
theorem c_X13_readBracket {f : Nat} {d : Int} (ih : mOr f d) {σ : jS} {t : Int → Int} {L m : Int} {ex : Int → Prop} {idn : Int → Int} {R : Int × Int} {n : Int} (hP : MPp σ t L m ex R n d) : Jm (11 + 4 * f) miX13_readBracket [.ref 111] σ (fun r τ => r = some (vI (bI ((xpR t L m 41 (pAn t L m (pO t L m ex idn f d) R n).1).1 = 0))) ∧ MPg 1 σ t L m idn (xpR t L m 41 (pAn t L m (pO t L m ex idn f d) R n).1, (pAn t L m (pO t L m ex idn f d) R n).2.1, (pAn t L m (pO t L m ex idn f d) R n).2.2) τ (τ 111 49)) := by
  refine jm_ofF (Po := (fun r τ => r = some (vI (bI ((xpR t L m 41 (pAn t L m (pO t L m ex idn f d) R n).1).1 = 0))) ∧ MPg 1 σ t L m idn (xpR t L m 41 (pAn t L m (pO t L m ex idn f d) R n).1, (pAn t L m (pO t L m ex idn f d) R n).2.1, (pAn t L m (pO t L m ex idn f d) R n).2.2) τ (τ 111 49))) (plainFor_of_name (by decide)) (Nat.le_of_ble_eq_true rfl) (lv := [(0, _)]) rfl ?_
  refine r_aload_n (dc dkX13_readBracket 0 rfl) rfl (np 1 rfl ?_)
  refine r_cV0 (y' := miX13_readOr) (dc dkX13_readBracket 1 rfl) mlX13_480 ceX13_readOr ob_111 (by omega) (Nat.le_of_ble_eq_true rfl) (ih (idn := idn) hP) (fun r τ1 hp1 => (np 4 rfl ?_))
  obtain ⟨rfl, hx1⟩ := hp1
  refine r_bn (tgt := 9) (dc dkX13_readBracket 2 rfl) rfl (fun h4 => ?_) (fun h4 => (np 7 rfl ?_))
  · skip
    refine r_aload_n (dc dkX13_readBracket 5 rfl) rfl (np 10 rfl ?_)
    refine r_bipush (dc dkX13_readBracket 6 rfl) bp_41 (np 12 rfl ?_)
    refine r_pV1 (y' := miX13_isSign) (dc dkX13_readBracket 7 rfl) mlX13_182 ceX13_isSign ob_111 (by omega) (Nat.le_of_ble_eq_true rfl) (c_X13_isSign (hx1.2.1.1 h4) (by decide)) (np 15 rfl ?_)
    refine r_bn (tgt := 24) (dc dkX13_readBracket 8 rfl) rfl (fun h15 => ?_) (fun h15 => (np 18 rfl ?_))
    · skip
      refine r_aload_n (dc dkX13_readBracket 13 rfl) rfl (np 25 rfl ?_)
      refine r_cV0 (y' := miX13_go) (dc dkX13_readBracket 14 rfl) mlX13_179 ceX13_go ob_111 (by omega) (Nat.le_of_ble_eq_true rfl) (c_goR h4 (hx1.2.1.1 h4)) (fun r τ2 hp2 => (np 28 rfl ?_))
      obtain ⟨rfl, hs2, hM2⟩ := hp2
      refine r_iconst (dc dkX13_readBracket 15 rfl) (np 29 rfl ?_)
      exact r_zret (dc dkX13_readBracket 16 rfl) rfl (by first | exact Or.inl rfl | exact Or.inr rfl) (by
          have e : xpR t L m 41 (pAn t L m (pO t L m ex idn f d) R n).1 = stR t L m (pAn t L m (pO t L m ex idn f d) R n).1 := xpR_y ⟨h4, h15⟩
          rw [e]
          obtain ⟨q1, q2, q3, q4, q5, q6, q7, q8, q9, q10⟩ := hx1.2.2 h4
          refine ⟨by rw [bI_t (by rw [stR_f]; exact h4)], hx1.1.trS hs2 (by decide), hM2, fun _ => ?_⟩
          rw [hs2.2 46 (by decide), hs2.2 47 (by decide), hs2.2 48 (by decide), hs2.2 49 (by decide), hs2.2 50 (by decide), hs2.1 137 (by decide), hs2.1 138 (by decide)]
          exact ⟨q1, q2, q3, ⟨q4.1, by have := q4.2; show τ1 111 46 ≤ σ 111 46 + 2 * ((pAn t L m (pO t L m ex idn f d) R n).2.1 - σ 111 47) - 1 + 1; omega⟩, q5, q6, q7, q8, q9, q10⟩)
    refine r_aload_n (dc dkX13_readBracket 9 rfl) rfl (np 19 rfl ?_)
    refine r_iconst (dc dkX13_readBracket 10 rfl) (np 20 rfl ?_)
    refine r_cV1 (y' := miX13_bad) (dc dkX13_readBracket 11 rfl) mlX13_165 ceX13_bad ob_111 (by omega) (Nat.le_of_ble_eq_true rfl) (c_bdR h4 (hx1.2.1.1 h4) (by decide) (fun _ => rfl)) (fun r τ2 hp2 => (np 23 rfl ?_))
    obtain ⟨rfl, hs2, hM2⟩ := hp2
    exact r_zret (dc dkX13_readBracket 12 rfl) rfl (by first | exact Or.inl rfl | exact Or.inr rfl) (by
        have e : xpR t L m 41 (pAn t L m (pO t L m ex idn f d) R n).1 = flR t L m 1 (pAn t L m (pO t L m ex idn f d) R n).1 := xpR_n (fun z => h15 z.2)
        rw [e]
        exact ⟨by rw [bI_f (flR_f (by decide))], hx1.1.trS hs2 (by decide), hM2, fun z => absurd z (flR_f (by decide))⟩)
  refine r_iconst (dc dkX13_readBracket 3 rfl) (np 8 rfl ?_)
  exact r_zret (dc dkX13_readBracket 4 rfl) rfl (by first | exact Or.inl rfl | exact Or.inr rfl) (by
      have e : xpR t L m 41 (pAn t L m (pO t L m ex idn f d) R n).1 = (pAn t L m (pO t L m ex idn f d) R n).1 := xpR_e h4
      rw [e]
      exact ⟨by rw [bI_f h4], hx1.1, hx1.2.1, fun z => absurd z h4⟩)
set_option maxRecDepth 100000 in
set_option maxHeartbeats 4000000 in
theorem c_X13_readOne {f : Nat} {d : Int} (hd : (f : Int) + d = 9) (hd1 : 1 ≤ d) (ih : 0 < f → mOne f (d + 1)) (ia : 0 < f → mOr f (d + 1)) {σ : jS} {t : Int → Int} {L m : Int} {ex : Int → Prop} {idn : Int → Int} {R : Int × Int} {n : Int} (hP : MPp σ t L m ex R n d) : Jm (8 + 4 * (f + 1)) miX13_readOne [.ref 111] σ (fun r τ => r = some (vI (bI ((pO t L m ex idn (f + 1) d R n).1.1 = 0))) ∧ MPo σ t L m idn (pO t L m ex idn (f + 1) d R n) τ) := by
  have hP0 := hP
  obtain ⟨p1, p2, p3, p4, p5, p6, p7, p8, p9, p10⟩ := hP
  have kb := tK_b (t := t) (L := L) (m := m) (p := R.2)
  refine jm_ofF (Po := (fun r τ => r = some (vI (bI ((pO t L m ex idn (f + 1) d R n).1.1 = 0))) ∧ MPo σ t L m idn (pO t L m ex idn (f + 1) d R n) τ)) (plainFor_of_name (by decide)) (Nat.le_of_ble_eq_true rfl) (lv := [(0, _)]) rfl ?_
  refine r_aload_n (dc dkX13_readOne 0 rfl) rfl (np 1 rfl ?_)
  refine r_bipush (dc dkX13_readOne 1 rfl) bp_40 (np 3 rfl ?_)
  refine r_pV1 (y' := miX13_isSign) (dc dkX13_readOne 2 rfl) mlX13_182 ceX13_isSign ob_111 (by omega) (Nat.le_of_ble_eq_true rfl) (c_X13_isSign p1 (by decide)) (np 6 rfl ?_)
  refine r_istore_n (lv' := [(1, _), (0, _)]) (dc dkX13_readOne 3 rfl) (Nat.le_of_ble_eq_true rfl) rfl (np 7 rfl ?_)
  refine r_bipush (dc dkX13_readOne 4 rfl) bp_8 (np 9 rfl ?_)
  refine r_istore_n (lv' := [(2, _), (1, _), (0, _)]) (dc dkX13_readOne 5 rfl) (Nat.le_of_ble_eq_true rfl) rfl (np 10 rfl ?_)
  refine r_pick [2, 1, 0] (lv' := [(0, _), (1, _), (2, _)]) rfl ?_
  refine jlp1 (P := fun (w : Int) => jR _ _ _ 10 [(0, .ref 111), (1, vI (bI (tK t L m R.2 = 40))), (2, vI w)] [] σ) (I := fun (w : Int) => (8 ≤ w ∧ w ≤ 17) ∧ ∀ j, 8 ≤ j → j < w → ¬ tK t L m R.2 = 100 + j) (fun (w : Int) => (17 - w).toNat) ?_ _ ⟨by omega, fun j _ _ => by omega⟩
  intro w hI10 ih10
  refine r_iload_n (dc dkX13_readOne 6 rfl) rfl (np 11 rfl ?_)
  refine r_bipush (dc dkX13_readOne 7 rfl) bp_16 (np 13 rfl ?_)
  refine r_icmp_gt (tgt := 30) (dc dkX13_readOne 8 rfl) rfl (by first | assumption | decide | omega) (by first | assumption | decide | omega) (fun h13 => ?_) (fun h13 => (np 16 rfl ?_))
  · skip
    have jj46 : (tK t L m R.2 = 40 ∨ (108 ≤ tK t L m R.2 ∧ tK t L m R.2 ≤ 116)) ∧ (¬ tK t L m R.2 = 40 → tK t L m R.2 = 100 + w ∧ 8 ≤ w ∧ w ≤ 16) → jR (8 + 4 * (f + 1)) miX13_readOne (fun r τ => r = some (vI (bI ((pO t L m ex idn (f + 1) d R n).1.1 = 0))) ∧ MPo σ t L m idn (pO t L m ex idn (f + 1) d R n) τ) 46 [(0, .ref 111), (1, vI (bI (tK t L m R.2 = 40))), (2, vI w)] [] σ := by
      intro hk
      refine r_aload_n (dc dkX13_readOne 24 rfl) rfl (np 47 rfl ?_)
      have jj64 : 20 ≤ n ∨ 8 < d → jR (8 + 4 * (f + 1)) miX13_readOne (fun r τ => r = some (vI (bI ((pO t L m ex idn (f + 1) d R n).1.1 = 0))) ∧ MPo σ t L m idn (pO t L m ex idn (f + 1) d R n) τ) 64 [(0, .ref 111), (1, vI (bI (tK t L m R.2 = 40))), (2, vI w)] [] σ := by
        intro hm
        refine r_aload_n (dc dkX13_readOne 32 rfl) rfl (np 65 rfl ?_)
        refine r_iconst (dc dkX13_readOne 33 rfl) (np 66 rfl ?_)
        refine r_cV1 (y' := miX13_bad) (dc dkX13_readOne 34 rfl) mlX13_165 ceX13_bad ob_111 (by omega) (Nat.le_of_ble_eq_true rfl) (c_bdR p2 p1 (by decide) (fun z => by omega)) (fun r τ2 hp2 => (np 69 rfl ?_))
        obtain ⟨rfl, hs2, hM2⟩ := hp2
        exact r_zret (dc dkX13_readOne 35 rfl) rfl (by first | exact Or.inl rfl | exact Or.inr rfl) (by
            have x0 : ¬ (flR t L m 4 R).1 = 0 := flR_f (by decide)
            have e0 : on0 t L m d R n = flR t L m 4 R := by rw [on0, gte_t hk.1, gte_t hm]
            have e : pO t L m ex idn (f + 1) d R n = (flR t L m 4 R, n, fun _ => False) := by rw [pO, e0, gte_f x0]
            rw [e]
            exact ⟨by rw [bI_f x0], mdT.of hs2 (by decide), hM2, fun z => absurd z x0⟩)
      refine r_gI 47 (dc dkX13_readOne 25 rfl) flX13_463 fd_111_47 rfl (np 50 rfl ?_)
      refine r_bipush (dc dkX13_readOne 26 rfl) bp_20 (np 52 rfl ?_)
      refine r_icmp_eq (tgt := 64) (dc dkX13_readOne 27 rfl) rfl (by omega) (by first | assumption | decide | omega) (fun h52 => ?_) (fun h52 => (np 55 rfl ?_))
      · skip
        refine r_pick [0, 1, 2] rfl ?_
        exact jj64 (by omega)
      refine r_aload_n (dc dkX13_readOne 28 rfl) rfl (np 56 rfl ?_)
      refine r_gI 48 (dc dkX13_readOne 29 rfl) flX13_466 fd_111_48 rfl (np 59 rfl ?_)
      refine r_bipush (dc dkX13_readOne 30 rfl) bp_8 (np 61 rfl ?_)
      refine r_icmp_ne (tgt := 70) (dc dkX13_readOne 31 rfl) rfl (by omega) (by first | assumption | decide | omega) (fun h61 => ?_) (fun h61 => (np 64 rfl ?_))
      · skip
        refine r_aload_n (dc dkX13_readOne 36 rfl) rfl (np 71 rfl ?_)
        refine r_dup (dc dkX13_readOne 37 rfl) rfl (np 72 rfl ?_)
        refine r_gI 47 (dc dkX13_readOne 38 rfl) flX13_463 fd_111_47 rfl (np 75 rfl ?_)
        refine r_iconst (dc dkX13_readOne 39 rfl) (np 76 rfl ?_)
        refine r_iadd (dc dkX13_readOne 40 rfl) (np 77 rfl ?_)
        refine r_pI 47 (dc dkX13_readOne 41 rfl) fpX13_463 fd_111_47 rfl (np 80 rfl ?_)
        refine r_aload_n (dc dkX13_readOne 42 rfl) rfl (np 81 rfl ?_)
        refine r_dup (dc dkX13_readOne 43 rfl) rfl (np 82 rfl ?_)
        refine r_gI 48 (dc dkX13_readOne 44 rfl) flX13_466 fd_111_48 rfl (np 85 rfl ?_)
        refine r_iconst (dc dkX13_readOne 45 rfl) (np 86 rfl ?_)
        refine r_iadd (dc dkX13_readOne 46 rfl) (np 87 rfl ?_)
        refine r_pI 48 (dc dkX13_readOne 47 rfl) fpX13_466 fd_111_48 rfl (np 90 rfl ?_)
        refine r_aload_n (dc dkX13_readOne 48 rfl) rfl (np 91 rfl ?_)
        refine r_cV0 (y' := miX13_go) (dc dkX13_readOne 49 rfl) mlX13_179 ceX13_go ob_111 (by omega) (Nat.le_of_ble_eq_true rfl) (c_goR p2 (md_T p1 (((mdT.refl [47, 48] [] _).put (by decide)).put (by decide)) (by decide) (by decide))) (fun r τ2 hp2 => (np 94 rfl ?_))
        obtain ⟨rfl, hs2, hM2⟩ := hp2
        have h59 : on0 t L m d R n = R := by rw [on0, gte_t (by omega), gte_f (by omega)]
        have fpos : 0 < f := by omega
        have r3 : (stR t L m R).1 = 0 := by rw [stR_f]; exact p2
        have hPO : pO t L m ex idn (f + 1) d R n = pB t L m ex idn (pO t L m ex idn f (d + 1)) (pAn t L m (pO t L m ex idn f (d + 1))) (tK t L m R.2) (stR t L m R) (n + 1) := by rw [pO, gte_t (by rw [h59]; exact p2)]
        have f2 : mdT XS [137, 138] σ τ2 := (((mdT.refl _ _ _).put (by decide)).put (by decide)).trS hs2 (by decide)
        have n2 : τ2 111 47 = n + 1 := by rw [hs2.2 47 (by decide), ju_ne (by decide), ju_at, p3]
        have d2 : τ2 111 48 = d := by rw [hs2.2 48 (by decide), ju_at, ju_ne (by decide), p5]; omega
        have e46 : τ2 111 46 = σ 111 46 := by rw [hs2.2 46 (by decide), ju_ne (by decide), ju_ne (by decide)]
        have e50 : τ2 111 50 = σ 111 50 := by rw [hs2.2 50 (by decide), ju_ne (by decide), ju_ne (by decide)]
        have e137 : τ2 137 = σ 137 := by rw [hs2.1 137 (by decide), ju_off _ _ _ _ _ (by decide), ju_off _ _ _ _ _ (by decide)]
        have e138 : τ2 138 = σ 138 := by rw [hs2.1 138 (by decide), ju_off _ _ _ _ _ (by decide), ju_off _ _ _ _ _ (by decide)]
        have hM3 := hM2.1 r3
        have mn2 : MPn τ2 ex := MPn_s p10 (f2.1 113 (by decide) (by decide)) (f2.1 118 (by decide) (by decide))
        have SP2 : MPp τ2 t L m ex (stR t L m R) (n + 1) (d + 1) := ⟨hM3, r3, n2, by omega, by omega, by omega, by omega, by rw [e46, e50, e137]; exact p8, by rw [e50, e138]; exact p9, mn2⟩
        have jj166 : ∀ (g : Int) (τ5 : jS), g = bI ((pO t L m ex idn (f + 1) d R n).1.1 = 0) ∧ MPo σ t L m idn (pO t L m ex idn (f + 1) d R n) (ju τ5 111 48 (τ5 111 48 - 1)) → jR (8 + 4 * (f + 1)) miX13_readOne (fun r τ => r = some (vI (bI ((pO t L m ex idn (f + 1) d R n).1.1 = 0))) ∧ MPo σ t L m idn (pO t L m ex idn (f + 1) d R n) τ) 166 [(0, .ref 111), (1, vI (bI (tK t L m R.2 = 40))), (2, vI w), (3, vI g)] [] τ5 := by
          intro g τ5 hq
          obtain ⟨hg, hq⟩ := hq
          refine r_aload_n (dc dkX13_readOne 90 rfl) rfl (np 167 rfl ?_)
          refine r_dup (dc dkX13_readOne 91 rfl) rfl (np 168 rfl ?_)
          refine r_gI 48 (dc dkX13_readOne 92 rfl) flX13_466 fd_111_48 rfl (np 171 rfl ?_)
          refine r_iconst (dc dkX13_readOne 93 rfl) (np 172 rfl ?_)
          refine r_isub (dc dkX13_readOne 94 rfl) (np 173 rfl ?_)
          refine r_pI 48 (dc dkX13_readOne 95 rfl) fpX13_466 fd_111_48 rfl (np 176 rfl ?_)
          refine r_iload_n (dc dkX13_readOne 96 rfl) rfl (np 177 rfl ?_)
          exact r_zret (dc dkX13_readOne 97 rfl) rfl (by rw [hg]; exact bI_01 _) ⟨by rw [hg], hq⟩
        refine r_iconst (dc dkX13_readOne 50 rfl) (np 95 rfl ?_)
        refine r_istore_n (lv' := [(3, _), (0, _), (1, _), (2, _)]) (dc dkX13_readOne 51 rfl) (Nat.le_of_ble_eq_true rfl) rfl (np 96 rfl ?_)
        refine r_iload_n (dc dkX13_readOne 52 rfl) rfl (np 97 rfl ?_)
        refine r_bz (tgt := 108) (dc dkX13_readOne 53 rfl) rfl (fun h97 => ?_) (fun h97 => (np 100 rfl ?_))
        · skip
          refine r_iload_n (dc dkX13_readOne 58 rfl) rfl (np 109 rfl ?_)
          refine r_bipush (dc dkX13_readOne 59 rfl) bp_8 (np 111 rfl ?_)
          refine r_icmp_ne (tgt := 122) (dc dkX13_readOne 60 rfl) rfl (by first | assumption | decide | omega) (by first | assumption | decide | omega) (fun h111 => ?_) (fun h111 => (np 114 rfl ?_))
          · skip
            refine r_iload_n (dc dkX13_readOne 65 rfl) rfl (np 123 rfl ?_)
            refine r_bipush (dc dkX13_readOne 66 rfl) bp_11 (np 125 rfl ?_)
            refine r_icmp_ne (tgt := 146) (dc dkX13_readOne 67 rfl) rfl (by first | assumption | decide | omega) (by first | assumption | decide | omega) (fun h125 => ?_) (fun h125 => (np 128 rfl ?_))
            · skip
              refine r_iload_n (dc dkX13_readOne 79 rfl) rfl (np 147 rfl ?_)
              refine r_bipush (dc dkX13_readOne 80 rfl) bp_11 (np 149 rfl ?_)
              refine r_icmp_ge (tgt := 160) (dc dkX13_readOne 81 rfl) rfl (by first | assumption | decide | omega) (by first | assumption | decide | omega) (fun h149 => ?_) (fun h149 => (np 152 rfl ?_))
              · skip
                refine r_aload_n (dc dkX13_readOne 86 rfl) rfl (np 161 rfl ?_)
                refine r_iload_n (dc dkX13_readOne 87 rfl) rfl (np 162 rfl ?_)
                refine r_cV1 (y' := miX13_readCompare) (dc dkX13_readOne 88 rfl) mlX13_477 ceX13_readCompare ob_111 (by omega) (Nat.le_of_ble_eq_true rfl) (c_X13_readCompare r3 hM3 (by omega) (by omega)) (fun r τ5 hp5 => (np 165 rfl ?_))
                obtain ⟨rfl, s5, R5, q5⟩ := hp5
                refine r_istore_n (lv' := [(3, _), (0, _), (1, _), (2, _)]) (dc dkX13_readOne 89 rfl) (Nat.le_of_ble_eq_true rfl) rfl (np 166 rfl ?_)
                refine r_pick [1, 2, 3, 0] rfl ?_
                exact jj166 _ _ (by
                       first
                       | (have e : pO t L m ex idn (f + 1) d R n = (xpR t L m 41 (pAn t L m (pO t L m ex idn f (d + 1)) (stR t L m R) (n + 1)).1, (pAn t L m (pO t L m ex idn f (d + 1)) (stR t L m R) (n + 1)).2.1, (pAn t L m (pO t L m ex idn f (d + 1)) (stR t L m R) (n + 1)).2.2) := by rw [hPO, pB, gte_f (by omega), gte_t (by omega)]
                          rw [e]
                          exact ⟨rfl, MP_out p3 p5 f2 e46 e50 e137 e138 n2 d2 hy⟩)
                       | (have e : pO t L m ex idn (f + 1) d R n = ((pO t L m ex idn f (d + 1) (stR t L m R) (n + 1)).1, (pO t L m ex idn f (d + 1) (stR t L m R) (n + 1)).2.1, fun v => ¬ (pO t L m ex idn f (d + 1) (stR t L m R) (n + 1)).2.2 v) := by rw [hPO, pB, gte_t (by omega)]
                          rw [e]
                          exact ⟨rfl, MP_out p3 p5 f2 e46 e50 e137 e138 n2 d2 hy⟩)
                       | (have hk2 := hk.2 (by assumption)
                          have e : pO t L m ex idn (f + 1) d R n = (stR t L m R, n + 1, fun v => v 33000) := by rw [hPO, pB, gte_f (by omega), gte_f (by omega), gte_f (by omega), gte_t (by omega)]
                          rw [e]
                          rw [e46, e137] at w5
                          rw [e46] at n5
                          have s : mdT [5, 6, 7, 8, 9, 10, 11, 13, 14, 46, 49, 50] [137, 138] τ2 (ju τ5 111 49 (τ2 111 46)) := (hs5.wide (by decide) (by decide)).put (by decide)
                          refine ⟨by rw [bI_t r3], MP_atom p3 (by omega) p5 p6.1 p7.1 p8 f2 n2 d2 s (mR_T (mR_T hM2 hs5 (by decide) (by decide)) ((mdT.refl [49] [] _).put (by decide)) (by decide) (by decide)) (w := 50 + w) (a := 0) (b := 0) (r := 0) (by omega) (fun _ => ?_)⟩
                          rw [ju_ne (by decide), ju_at, ju_ne (by decide), ju_off _ _ _ _ _ (by decide), ju_off _ _ _ _ _ (by decide), hs5.2 50 (by decide), hs5.1 138 (by decide) (by decide), e50, e138]
                          exact ⟨n5, e46, by omega, w5, fun _ _ => rfl, p9, fun z => by omega, fun z => by omega, by rw [if_neg (by omega), if_pos (by omega)]⟩)
                       | (have hk2 := hk.2 (by assumption)
                          have e : pO t L m ex idn (f + 1) d R n = (nmB t L m ex (stR t L m R), n + 1, fun v => v ((tK t L m R.2 - 100) * 3000 + idn (wQ t L m (stR t L m R).2))) := by rw [hPO, pB, gte_f (by omega), gte_f (by omega), gte_t (by omega)]
                          rw [e]
                          refine ⟨rfl, MP_atom p3 (by omega) p5 p6.1 p7.1 p8 f2 n2 d2 s5 R5 (w := 50 + w) (a := σ 111 50) (b := 0) (r := 0) (by omega) (fun z => ?_)⟩
                          obtain ⟨c1, c2, c3, c4, c5, c6, c7⟩ := q5 z
                          rw [e46] at c2 c3 c5
                          rw [e50] at c4 c5 c6 c7
                          rw [e137] at c5
                          refine ⟨c2, c3, by omega, c5, fun j hj => by rw [c7 j (by omega), e138], fun j j0 j1 => ?_, fun _ => by omega, fun z => by omega, ?_⟩
                          · by_cases hj : j = σ 111 50
                            · rw [hj, c6]; exact c1
                            · rw [c7 j hj, e138]; exact p9 j j0 (by omega)
                          · rw [if_pos (by omega), c6]; omega)
                       | (have hk2 := hk.2 (by assumption)
                          have e : pO t L m ex idn (f + 1) d R n = (ms2 t L m (stR t L m R), n + 1, fun v => v ((tK t L m R.2 - 100) * 3000 + (tK t L m (stR t L m R).2 - 60) * 1000 + nQ t L m (ms1 t L m (stR t L m R)).2)) := by rw [hPO, pB, gte_f (by omega), gte_f (by omega), gte_f (by omega), gte_f (by omega)]
                          rw [e]
                          refine ⟨rfl, MP_atom p3 (by omega) p5 p6.1 p7.1 p8 f2 n2 d2 s5 R5 (w := 50 + w) (a := 0) (b := nQ t L m (ms1 t L m (stR t L m R)).2) (r := tK t L m (stR t L m R).2) (by omega) (fun z => ?_)⟩
                          obtain ⟨c1, c2, c3, c4, c5, c6, c7⟩ := q5 z
                          rw [e46] at c3 c4 c6
                          rw [e50] at c5
                          rw [e137] at c6
                          rw [e138] at c7
                          refine ⟨c3, c4, by omega, c6, fun j hj => by rw [c7], by rw [c5, c7]; exact p9, fun z => by omega, fun _ => ⟨c1, c2⟩, ?_⟩
                          rw [if_neg (by omega), if_neg (by omega)]; omega))
              refine r_aload_n (dc dkX13_readOne 82 rfl) rfl (np 153 rfl ?_)
              refine r_iload_n (dc dkX13_readOne 83 rfl) rfl (np 154 rfl ?_)
              refine r_cV1 (y' := miX13_readNamed) (dc dkX13_readOne 84 rfl) mlX13_474 ceX13_readNamed ob_111 (by omega) (Nat.le_of_ble_eq_true rfl) (c_X13_readNamed r3 hM3 mn2 (by omega) (by omega) (by omega)) (fun r τ5 hp5 => (np 157 rfl ?_))
              obtain ⟨rfl, s5, R5, q5⟩ := hp5
              refine r_goto (tgt := 165) (dc dkX13_readOne 85 rfl) rfl ?_
              refine r_istore_n (lv' := [(3, _), (0, _), (1, _), (2, _)]) (dc dkX13_readOne 89 rfl) (Nat.le_of_ble_eq_true rfl) rfl (np 166 rfl ?_)
              refine r_pick [1, 2, 3, 0] rfl ?_
              exact jj166 _ _ (by
                     first
                     | (have e : pO t L m ex idn (f + 1) d R n = (xpR t L m 41 (pAn t L m (pO t L m ex idn f (d + 1)) (stR t L m R) (n + 1)).1, (pAn t L m (pO t L m ex idn f (d + 1)) (stR t L m R) (n + 1)).2.1, (pAn t L m (pO t L m ex idn f (d + 1)) (stR t L m R) (n + 1)).2.2) := by rw [hPO, pB, gte_f (by omega), gte_t (by omega)]
                        rw [e]
                        exact ⟨rfl, MP_out p3 p5 f2 e46 e50 e137 e138 n2 d2 hy⟩)
                     | (have e : pO t L m ex idn (f + 1) d R n = ((pO t L m ex idn f (d + 1) (stR t L m R) (n + 1)).1, (pO t L m ex idn f (d + 1) (stR t L m R) (n + 1)).2.1, fun v => ¬ (pO t L m ex idn f (d + 1) (stR t L m R) (n + 1)).2.2 v) := by rw [hPO, pB, gte_t (by omega)]
                        rw [e]
                        exact ⟨rfl, MP_out p3 p5 f2 e46 e50 e137 e138 n2 d2 hy⟩)
                     | (have hk2 := hk.2 (by assumption)
                        have e : pO t L m ex idn (f + 1) d R n = (stR t L m R, n + 1, fun v => v 33000) := by rw [hPO, pB, gte_f (by omega), gte_f (by omega), gte_f (by omega), gte_t (by omega)]
                        rw [e]
                        rw [e46, e137] at w5
                        rw [e46] at n5
                        have s : mdT [5, 6, 7, 8, 9, 10, 11, 13, 14, 46, 49, 50] [137, 138] τ2 (ju τ5 111 49 (τ2 111 46)) := (hs5.wide (by decide) (by decide)).put (by decide)
                        refine ⟨by rw [bI_t r3], MP_atom p3 (by omega) p5 p6.1 p7.1 p8 f2 n2 d2 s (mR_T (mR_T hM2 hs5 (by decide) (by decide)) ((mdT.refl [49] [] _).put (by decide)) (by decide) (by decide)) (w := 50 + w) (a := 0) (b := 0) (r := 0) (by omega) (fun _ => ?_)⟩
                        rw [ju_ne (by decide), ju_at, ju_ne (by decide), ju_off _ _ _ _ _ (by decide), ju_off _ _ _ _ _ (by decide), hs5.2 50 (by decide), hs5.1 138 (by decide) (by decide), e50, e138]
                        exact ⟨n5, e46, by omega, w5, fun _ _ => rfl, p9, fun z => by omega, fun z => by omega, by rw [if_neg (by omega), if_pos (by omega)]⟩)
                     | (have hk2 := hk.2 (by assumption)
                        have e : pO t L m ex idn (f + 1) d R n = (nmB t L m ex (stR t L m R), n + 1, fun v => v ((tK t L m R.2 - 100) * 3000 + idn (wQ t L m (stR t L m R).2))) := by rw [hPO, pB, gte_f (by omega), gte_f (by omega), gte_t (by omega)]
                        rw [e]
                        refine ⟨rfl, MP_atom p3 (by omega) p5 p6.1 p7.1 p8 f2 n2 d2 s5 R5 (w := 50 + w) (a := σ 111 50) (b := 0) (r := 0) (by omega) (fun z => ?_)⟩
                        obtain ⟨c1, c2, c3, c4, c5, c6, c7⟩ := q5 z
                        rw [e46] at c2 c3 c5
                        rw [e50] at c4 c5 c6 c7
                        rw [e137] at c5
                        refine ⟨c2, c3, by omega, c5, fun j hj => by rw [c7 j (by omega), e138], fun j j0 j1 => ?_, fun _ => by omega, fun z => by omega, ?_⟩
                        · by_cases hj : j = σ 111 50
                          · rw [hj, c6]; exact c1
                          · rw [c7 j hj, e138]; exact p9 j j0 (by omega)
                        · rw [if_pos (by omega), c6]; omega)
                     | (have hk2 := hk.2 (by assumption)
                        have e : pO t L m ex idn (f + 1) d R n = (ms2 t L m (stR t L m R), n + 1, fun v => v ((tK t L m R.2 - 100) * 3000 + (tK t L m (stR t L m R).2 - 60) * 1000 + nQ t L m (ms1 t L m (stR t L m R)).2)) := by rw [hPO, pB, gte_f (by omega), gte_f (by omega), gte_f (by omega), gte_f (by omega)]
                        rw [e]
                        refine ⟨rfl, MP_atom p3 (by omega) p5 p6.1 p7.1 p8 f2 n2 d2 s5 R5 (w := 50 + w) (a := 0) (b := nQ t L m (ms1 t L m (stR t L m R)).2) (r := tK t L m (stR t L m R).2) (by omega) (fun z => ?_)⟩
                        obtain ⟨c1, c2, c3, c4, c5, c6, c7⟩ := q5 z
                        rw [e46] at c3 c4 c6
                        rw [e50] at c5
                        rw [e137] at c6
                        rw [e138] at c7
                        refine ⟨c3, c4, by omega, c6, fun j hj => by rw [c7], by rw [c5, c7]; exact p9, fun z => by omega, fun _ => ⟨c1, c2⟩, ?_⟩
                        rw [if_neg (by omega), if_neg (by omega)]; omega))
            refine r_aload_n (dc dkX13_readOne 68 rfl) rfl (np 129 rfl ?_)
            refine r_aload_n (dc dkX13_readOne 69 rfl) rfl (np 130 rfl ?_)
            refine r_bipush (dc dkX13_readOne 70 rfl) bp_50 (np 132 rfl ?_)
            refine r_iload_n (dc dkX13_readOne 71 rfl) rfl (np 133 rfl ?_)
            refine r_iadd (dc dkX13_readOne 72 rfl) (np 134 rfl ?_)
            refine r_iconst (dc dkX13_readOne 73 rfl) (np 135 rfl ?_)
            refine r_iconst (dc dkX13_readOne 74 rfl) (np 136 rfl ?_)
            refine r_iconst (dc dkX13_readOne 75 rfl) (np 137 rfl ?_)
            refine r_cV4 (y' := miX13_lays) (dc dkX13_readOne 76 rfl) mlX13_456 ceX13_lays ob_111 (by omega) (Nat.le_of_ble_eq_true rfl) (c_X13_lays (by omega)) (fun r τ5 hp5 => (np 140 rfl ?_))
            obtain ⟨rfl, hs5, n5, w5⟩ := hp5
            refine r_pI 49 (dc dkX13_readOne 77 rfl) fpX13_453 fd_111_49 rfl (np 143 rfl ?_)
            refine r_goto (tgt := 166) (dc dkX13_readOne 78 rfl) rfl ?_
            refine r_pick [1, 2, 3, 0] rfl ?_
            exact jj166 _ _ (by
                   first
                   | (have e : pO t L m ex idn (f + 1) d R n = (xpR t L m 41 (pAn t L m (pO t L m ex idn f (d + 1)) (stR t L m R) (n + 1)).1, (pAn t L m (pO t L m ex idn f (d + 1)) (stR t L m R) (n + 1)).2.1, (pAn t L m (pO t L m ex idn f (d + 1)) (stR t L m R) (n + 1)).2.2) := by rw [hPO, pB, gte_f (by omega), gte_t (by omega)]
                      rw [e]
                      exact ⟨rfl, MP_out p3 p5 f2 e46 e50 e137 e138 n2 d2 hy⟩)
                   | (have e : pO t L m ex idn (f + 1) d R n = ((pO t L m ex idn f (d + 1) (stR t L m R) (n + 1)).1, (pO t L m ex idn f (d + 1) (stR t L m R) (n + 1)).2.1, fun v => ¬ (pO t L m ex idn f (d + 1) (stR t L m R) (n + 1)).2.2 v) := by rw [hPO, pB, gte_t (by omega)]
                      rw [e]
                      exact ⟨rfl, MP_out p3 p5 f2 e46 e50 e137 e138 n2 d2 hy⟩)
                   | (have hk2 := hk.2 (by assumption)
                      have e : pO t L m ex idn (f + 1) d R n = (stR t L m R, n + 1, fun v => v 33000) := by rw [hPO, pB, gte_f (by omega), gte_f (by omega), gte_f (by omega), gte_t (by omega)]
                      rw [e]
                      rw [e46, e137] at w5
                      rw [e46] at n5
                      have s : mdT [5, 6, 7, 8, 9, 10, 11, 13, 14, 46, 49, 50] [137, 138] τ2 (ju τ5 111 49 (τ2 111 46)) := (hs5.wide (by decide) (by decide)).put (by decide)
                      refine ⟨by rw [bI_t r3], MP_atom p3 (by omega) p5 p6.1 p7.1 p8 f2 n2 d2 s (mR_T (mR_T hM2 hs5 (by decide) (by decide)) ((mdT.refl [49] [] _).put (by decide)) (by decide) (by decide)) (w := 50 + w) (a := 0) (b := 0) (r := 0) (by omega) (fun _ => ?_)⟩
                      rw [ju_ne (by decide), ju_at, ju_ne (by decide), ju_off _ _ _ _ _ (by decide), ju_off _ _ _ _ _ (by decide), hs5.2 50 (by decide), hs5.1 138 (by decide) (by decide), e50, e138]
                      exact ⟨n5, e46, by omega, w5, fun _ _ => rfl, p9, fun z => by omega, fun z => by omega, by rw [if_neg (by omega), if_pos (by omega)]⟩)
                   | (have hk2 := hk.2 (by assumption)
                      have e : pO t L m ex idn (f + 1) d R n = (nmB t L m ex (stR t L m R), n + 1, fun v => v ((tK t L m R.2 - 100) * 3000 + idn (wQ t L m (stR t L m R).2))) := by rw [hPO, pB, gte_f (by omega), gte_f (by omega), gte_t (by omega)]
                      rw [e]
                      refine ⟨rfl, MP_atom p3 (by omega) p5 p6.1 p7.1 p8 f2 n2 d2 s5 R5 (w := 50 + w) (a := σ 111 50) (b := 0) (r := 0) (by omega) (fun z => ?_)⟩
                      obtain ⟨c1, c2, c3, c4, c5, c6, c7⟩ := q5 z
                      rw [e46] at c2 c3 c5
                      rw [e50] at c4 c5 c6 c7
                      rw [e137] at c5
                      refine ⟨c2, c3, by omega, c5, fun j hj => by rw [c7 j (by omega), e138], fun j j0 j1 => ?_, fun _ => by omega, fun z => by omega, ?_⟩
                      · by_cases hj : j = σ 111 50
                        · rw [hj, c6]; exact c1
                        · rw [c7 j hj, e138]; exact p9 j j0 (by omega)
                      · rw [if_pos (by omega), c6]; omega)
                   | (have hk2 := hk.2 (by assumption)
                      have e : pO t L m ex idn (f + 1) d R n = (ms2 t L m (stR t L m R), n + 1, fun v => v ((tK t L m R.2 - 100) * 3000 + (tK t L m (stR t L m R).2 - 60) * 1000 + nQ t L m (ms1 t L m (stR t L m R)).2)) := by rw [hPO, pB, gte_f (by omega), gte_f (by omega), gte_f (by omega), gte_f (by omega)]
                      rw [e]
                      refine ⟨rfl, MP_atom p3 (by omega) p5 p6.1 p7.1 p8 f2 n2 d2 s5 R5 (w := 50 + w) (a := 0) (b := nQ t L m (ms1 t L m (stR t L m R)).2) (r := tK t L m (stR t L m R).2) (by omega) (fun z => ?_)⟩
                      obtain ⟨c1, c2, c3, c4, c5, c6, c7⟩ := q5 z
                      rw [e46] at c3 c4 c6
                      rw [e50] at c5
                      rw [e137] at c6
                      rw [e138] at c7
                      refine ⟨c3, c4, by omega, c6, fun j hj => by rw [c7], by rw [c5, c7]; exact p9, fun z => by omega, fun _ => ⟨c1, c2⟩, ?_⟩
                      rw [if_neg (by omega), if_neg (by omega)]; omega))
          refine r_aload_n (dc dkX13_readOne 61 rfl) rfl (np 115 rfl ?_)
          refine r_cV0 (y' := miX13_readNot) (dc dkX13_readOne 62 rfl) mlX13_471 ceX13_readNot ob_111 (by omega) (Nat.le_of_ble_eq_true rfl) (c_X13_readNot (idn := idn) (ih fpos) SP2) (fun r τ5 hp5 => (np 118 rfl ?_))
          obtain ⟨rfl, hy⟩ := hp5
          refine r_istore_n (lv' := [(3, _), (0, _), (1, _), (2, _)]) (dc dkX13_readOne 63 rfl) (Nat.le_of_ble_eq_true rfl) rfl (np 119 rfl ?_)
          refine r_goto (tgt := 166) (dc dkX13_readOne 64 rfl) rfl ?_
          refine r_pick [1, 2, 3, 0] rfl ?_
          exact jj166 _ _ (by
                 first
                 | (have e : pO t L m ex idn (f + 1) d R n = (xpR t L m 41 (pAn t L m (pO t L m ex idn f (d + 1)) (stR t L m R) (n + 1)).1, (pAn t L m (pO t L m ex idn f (d + 1)) (stR t L m R) (n + 1)).2.1, (pAn t L m (pO t L m ex idn f (d + 1)) (stR t L m R) (n + 1)).2.2) := by rw [hPO, pB, gte_f (by omega), gte_t (by omega)]
                    rw [e]
                    exact ⟨rfl, MP_out p3 p5 f2 e46 e50 e137 e138 n2 d2 hy⟩)
                 | (have e : pO t L m ex idn (f + 1) d R n = ((pO t L m ex idn f (d + 1) (stR t L m R) (n + 1)).1, (pO t L m ex idn f (d + 1) (stR t L m R) (n + 1)).2.1, fun v => ¬ (pO t L m ex idn f (d + 1) (stR t L m R) (n + 1)).2.2 v) := by rw [hPO, pB, gte_t (by omega)]
                    rw [e]
                    exact ⟨rfl, MP_out p3 p5 f2 e46 e50 e137 e138 n2 d2 hy⟩)
                 | (have hk2 := hk.2 (by assumption)
                    have e : pO t L m ex idn (f + 1) d R n = (stR t L m R, n + 1, fun v => v 33000) := by rw [hPO, pB, gte_f (by omega), gte_f (by omega), gte_f (by omega), gte_t (by omega)]
                    rw [e]
                    rw [e46, e137] at w5
                    rw [e46] at n5
                    have s : mdT [5, 6, 7, 8, 9, 10, 11, 13, 14, 46, 49, 50] [137, 138] τ2 (ju τ5 111 49 (τ2 111 46)) := (hs5.wide (by decide) (by decide)).put (by decide)
                    refine ⟨by rw [bI_t r3], MP_atom p3 (by omega) p5 p6.1 p7.1 p8 f2 n2 d2 s (mR_T (mR_T hM2 hs5 (by decide) (by decide)) ((mdT.refl [49] [] _).put (by decide)) (by decide) (by decide)) (w := 50 + w) (a := 0) (b := 0) (r := 0) (by omega) (fun _ => ?_)⟩
                    rw [ju_ne (by decide), ju_at, ju_ne (by decide), ju_off _ _ _ _ _ (by decide), ju_off _ _ _ _ _ (by decide), hs5.2 50 (by decide), hs5.1 138 (by decide) (by decide), e50, e138]
                    exact ⟨n5, e46, by omega, w5, fun _ _ => rfl, p9, fun z => by omega, fun z => by omega, by rw [if_neg (by omega), if_pos (by omega)]⟩)
                 | (have hk2 := hk.2 (by assumption)
                    have e : pO t L m ex idn (f + 1) d R n = (nmB t L m ex (stR t L m R), n + 1, fun v => v ((tK t L m R.2 - 100) * 3000 + idn (wQ t L m (stR t L m R).2))) := by rw [hPO, pB, gte_f (by omega), gte_f (by omega), gte_t (by omega)]
                    rw [e]
                    refine ⟨rfl, MP_atom p3 (by omega) p5 p6.1 p7.1 p8 f2 n2 d2 s5 R5 (w := 50 + w) (a := σ 111 50) (b := 0) (r := 0) (by omega) (fun z => ?_)⟩
                    obtain ⟨c1, c2, c3, c4, c5, c6, c7⟩ := q5 z
                    rw [e46] at c2 c3 c5
                    rw [e50] at c4 c5 c6 c7
                    rw [e137] at c5
                    refine ⟨c2, c3, by omega, c5, fun j hj => by rw [c7 j (by omega), e138], fun j j0 j1 => ?_, fun _ => by omega, fun z => by omega, ?_⟩
                    · by_cases hj : j = σ 111 50
                      · rw [hj, c6]; exact c1
                      · rw [c7 j hj, e138]; exact p9 j j0 (by omega)
                    · rw [if_pos (by omega), c6]; omega)
                 | (have hk2 := hk.2 (by assumption)
                    have e : pO t L m ex idn (f + 1) d R n = (ms2 t L m (stR t L m R), n + 1, fun v => v ((tK t L m R.2 - 100) * 3000 + (tK t L m (stR t L m R).2 - 60) * 1000 + nQ t L m (ms1 t L m (stR t L m R)).2)) := by rw [hPO, pB, gte_f (by omega), gte_f (by omega), gte_f (by omega), gte_f (by omega)]
                    rw [e]
                    refine ⟨rfl, MP_atom p3 (by omega) p5 p6.1 p7.1 p8 f2 n2 d2 s5 R5 (w := 50 + w) (a := 0) (b := nQ t L m (ms1 t L m (stR t L m R)).2) (r := tK t L m (stR t L m R).2) (by omega) (fun z => ?_)⟩
                    obtain ⟨c1, c2, c3, c4, c5, c6, c7⟩ := q5 z
                    rw [e46] at c3 c4 c6
                    rw [e50] at c5
                    rw [e137] at c6
                    rw [e138] at c7
                    refine ⟨c3, c4, by omega, c6, fun j hj => by rw [c7], by rw [c5, c7]; exact p9, fun z => by omega, fun _ => ⟨c1, c2⟩, ?_⟩
                    rw [if_neg (by omega), if_neg (by omega)]; omega))
        refine r_aload_n (dc dkX13_readOne 54 rfl) rfl (np 101 rfl ?_)
        refine r_cV0 (y' := miX13_readBracket) (dc dkX13_readOne 55 rfl) mlX13_468 ceX13_readBracket ob_111 (by omega) (Nat.le_of_ble_eq_true rfl) (c_X13_readBracket (idn := idn) (ia fpos) SP2) (fun r τ5 hp5 => (np 104 rfl ?_))
        obtain ⟨rfl, hy⟩ := hp5
        refine r_istore_n (lv' := [(3, _), (0, _), (1, _), (2, _)]) (dc dkX13_readOne 56 rfl) (Nat.le_of_ble_eq_true rfl) rfl (np 105 rfl ?_)
        refine r_goto (tgt := 166) (dc dkX13_readOne 57 rfl) rfl ?_
        refine r_pick [1, 2, 3, 0] rfl ?_
        exact jj166 _ _ (by
               first
               | (have e : pO t L m ex idn (f + 1) d R n = (xpR t L m 41 (pAn t L m (pO t L m ex idn f (d + 1)) (stR t L m R) (n + 1)).1, (pAn t L m (pO t L m ex idn f (d + 1)) (stR t L m R) (n + 1)).2.1, (pAn t L m (pO t L m ex idn f (d + 1)) (stR t L m R) (n + 1)).2.2) := by rw [hPO, pB, gte_f (by omega), gte_t (by omega)]
                  rw [e]
                  exact ⟨rfl, MP_out p3 p5 f2 e46 e50 e137 e138 n2 d2 hy⟩)
               | (have e : pO t L m ex idn (f + 1) d R n = ((pO t L m ex idn f (d + 1) (stR t L m R) (n + 1)).1, (pO t L m ex idn f (d + 1) (stR t L m R) (n + 1)).2.1, fun v => ¬ (pO t L m ex idn f (d + 1) (stR t L m R) (n + 1)).2.2 v) := by rw [hPO, pB, gte_t (by omega)]
                  rw [e]
                  exact ⟨rfl, MP_out p3 p5 f2 e46 e50 e137 e138 n2 d2 hy⟩)
               | (have hk2 := hk.2 (by assumption)
                  have e : pO t L m ex idn (f + 1) d R n = (stR t L m R, n + 1, fun v => v 33000) := by rw [hPO, pB, gte_f (by omega), gte_f (by omega), gte_f (by omega), gte_t (by omega)]
                  rw [e]
                  rw [e46, e137] at w5
                  rw [e46] at n5
                  have s : mdT [5, 6, 7, 8, 9, 10, 11, 13, 14, 46, 49, 50] [137, 138] τ2 (ju τ5 111 49 (τ2 111 46)) := (hs5.wide (by decide) (by decide)).put (by decide)
                  refine ⟨by rw [bI_t r3], MP_atom p3 (by omega) p5 p6.1 p7.1 p8 f2 n2 d2 s (mR_T (mR_T hM2 hs5 (by decide) (by decide)) ((mdT.refl [49] [] _).put (by decide)) (by decide) (by decide)) (w := 50 + w) (a := 0) (b := 0) (r := 0) (by omega) (fun _ => ?_)⟩
                  rw [ju_ne (by decide), ju_at, ju_ne (by decide), ju_off _ _ _ _ _ (by decide), ju_off _ _ _ _ _ (by decide), hs5.2 50 (by decide), hs5.1 138 (by decide) (by decide), e50, e138]
                  exact ⟨n5, e46, by omega, w5, fun _ _ => rfl, p9, fun z => by omega, fun z => by omega, by rw [if_neg (by omega), if_pos (by omega)]⟩)
               | (have hk2 := hk.2 (by assumption)
                  have e : pO t L m ex idn (f + 1) d R n = (nmB t L m ex (stR t L m R), n + 1, fun v => v ((tK t L m R.2 - 100) * 3000 + idn (wQ t L m (stR t L m R).2))) := by rw [hPO, pB, gte_f (by omega), gte_f (by omega), gte_t (by omega)]
                  rw [e]
                  refine ⟨rfl, MP_atom p3 (by omega) p5 p6.1 p7.1 p8 f2 n2 d2 s5 R5 (w := 50 + w) (a := σ 111 50) (b := 0) (r := 0) (by omega) (fun z => ?_)⟩
                  obtain ⟨c1, c2, c3, c4, c5, c6, c7⟩ := q5 z
                  rw [e46] at c2 c3 c5
                  rw [e50] at c4 c5 c6 c7
                  rw [e137] at c5
                  refine ⟨c2, c3, by omega, c5, fun j hj => by rw [c7 j (by omega), e138], fun j j0 j1 => ?_, fun _ => by omega, fun z => by omega, ?_⟩
                  · by_cases hj : j = σ 111 50
                    · rw [hj, c6]; exact c1
                    · rw [c7 j hj, e138]; exact p9 j j0 (by omega)
                  · rw [if_pos (by omega), c6]; omega)
               | (have hk2 := hk.2 (by assumption)
                  have e : pO t L m ex idn (f + 1) d R n = (ms2 t L m (stR t L m R), n + 1, fun v => v ((tK t L m R.2 - 100) * 3000 + (tK t L m (stR t L m R).2 - 60) * 1000 + nQ t L m (ms1 t L m (stR t L m R)).2)) := by rw [hPO, pB, gte_f (by omega), gte_f (by omega), gte_f (by omega), gte_f (by omega)]
                  rw [e]
                  refine ⟨rfl, MP_atom p3 (by omega) p5 p6.1 p7.1 p8 f2 n2 d2 s5 R5 (w := 50 + w) (a := 0) (b := nQ t L m (ms1 t L m (stR t L m R)).2) (r := tK t L m (stR t L m R).2) (by omega) (fun z => ?_)⟩
                  obtain ⟨c1, c2, c3, c4, c5, c6, c7⟩ := q5 z
                  rw [e46] at c3 c4 c6
                  rw [e50] at c5
                  rw [e137] at c6
                  rw [e138] at c7
                  refine ⟨c3, c4, by omega, c6, fun j hj => by rw [c7], by rw [c5, c7]; exact p9, fun z => by omega, fun _ => ⟨c1, c2⟩, ?_⟩
                  rw [if_neg (by omega), if_neg (by omega)]; omega))
      refine r_pick [0, 1, 2] rfl ?_
      exact jj64 (by omega)
    refine r_iload_n (dc dkX13_readOne 15 rfl) rfl (np 31 rfl ?_)
    refine r_bn (tgt := 46) (dc dkX13_readOne 16 rfl) rfl (fun h31 => ?_) (fun h31 => (np 34 rfl ?_))
    · skip
      refine r_pick [0, 1, 2] rfl ?_
      exact jj46 (by omega)
    refine r_iload_n (dc dkX13_readOne 17 rfl) rfl (np 35 rfl ?_)
    refine r_bipush (dc dkX13_readOne 18 rfl) bp_16 (np 37 rfl ?_)
    refine r_icmp_le (tgt := 46) (dc dkX13_readOne 19 rfl) rfl (by first | assumption | decide | omega) (by first | assumption | decide | omega) (fun h37 => ?_) (fun h37 => (np 40 rfl ?_))
    · skip
      refine r_pick [0, 1, 2] rfl ?_
      exact jj46 (by omega)
    refine r_aload_n (dc dkX13_readOne 20 rfl) rfl (np 41 rfl ?_)
    refine r_iconst (dc dkX13_readOne 21 rfl) (np 42 rfl ?_)
    refine r_cV1 (y' := miX13_bad) (dc dkX13_readOne 22 rfl) mlX13_165 ceX13_bad ob_111 (by omega) (Nat.le_of_ble_eq_true rfl) (c_bdR p2 p1 (by decide) (fun _ => rfl)) (fun r τ2 hp2 => (np 45 rfl ?_))
    obtain ⟨rfl, hs2, hM2⟩ := hp2
    exact r_zret (dc dkX13_readOne 23 rfl) rfl (by first | exact Or.inl rfl | exact Or.inr rfl) (by
        have x0 : ¬ (flR t L m 1 R).1 = 0 := flR_f (by decide)
        have e0 : on0 t L m d R n = flR t L m 1 R := by rw [on0, gte_f (fun z => by rcases z with z | z; exact h31 z; exact hI10.2 (tK t L m R.2 - 100) (by omega) (by omega) (by omega))]
        have e : pO t L m ex idn (f + 1) d R n = (flR t L m 1 R, n, fun _ => False) := by rw [pO, e0, gte_f x0]
        rw [e]
        exact ⟨by rw [bI_f x0], mdT.of hs2 (by decide), hM2, fun z => absurd z x0⟩)
  refine r_aload_n (dc dkX13_readOne 9 rfl) rfl (np 17 rfl ?_)
  refine r_iload_n (dc dkX13_readOne 10 rfl) rfl (np 18 rfl ?_)
  refine r_pV1 (y' := miX13_isWord) (dc dkX13_readOne 11 rfl) mlX13_252 ceX13_isWord ob_111 (by omega) (Nat.le_of_ble_eq_true rfl) (c_X13_isWord p1 (by omega)) (np 21 rfl ?_)
  refine r_bn (tgt := 30) (dc dkX13_readOne 12 rfl) rfl (fun h21 => ?_) (fun h21 => (np 24 rfl ?_))
  · skip
    have jj46 : (tK t L m R.2 = 40 ∨ (108 ≤ tK t L m R.2 ∧ tK t L m R.2 ≤ 116)) ∧ (¬ tK t L m R.2 = 40 → tK t L m R.2 = 100 + w ∧ 8 ≤ w ∧ w ≤ 16) → jR (8 + 4 * (f + 1)) miX13_readOne (fun r τ => r = some (vI (bI ((pO t L m ex idn (f + 1) d R n).1.1 = 0))) ∧ MPo σ t L m idn (pO t L m ex idn (f + 1) d R n) τ) 46 [(0, .ref 111), (1, vI (bI (tK t L m R.2 = 40))), (2, vI w)] [] σ := by
      intro hk
      refine r_aload_n (dc dkX13_readOne 24 rfl) rfl (np 47 rfl ?_)
      have jj64 : 20 ≤ n ∨ 8 < d → jR (8 + 4 * (f + 1)) miX13_readOne (fun r τ => r = some (vI (bI ((pO t L m ex idn (f + 1) d R n).1.1 = 0))) ∧ MPo σ t L m idn (pO t L m ex idn (f + 1) d R n) τ) 64 [(0, .ref 111), (1, vI (bI (tK t L m R.2 = 40))), (2, vI w)] [] σ := by
        intro hm
        refine r_aload_n (dc dkX13_readOne 32 rfl) rfl (np 65 rfl ?_)
        refine r_iconst (dc dkX13_readOne 33 rfl) (np 66 rfl ?_)
        refine r_cV1 (y' := miX13_bad) (dc dkX13_readOne 34 rfl) mlX13_165 ceX13_bad ob_111 (by omega) (Nat.le_of_ble_eq_true rfl) (c_bdR p2 p1 (by decide) (fun z => by omega)) (fun r τ2 hp2 => (np 69 rfl ?_))
        obtain ⟨rfl, hs2, hM2⟩ := hp2
        exact r_zret (dc dkX13_readOne 35 rfl) rfl (by first | exact Or.inl rfl | exact Or.inr rfl) (by
            have x0 : ¬ (flR t L m 4 R).1 = 0 := flR_f (by decide)
            have e0 : on0 t L m d R n = flR t L m 4 R := by rw [on0, gte_t hk.1, gte_t hm]
            have e : pO t L m ex idn (f + 1) d R n = (flR t L m 4 R, n, fun _ => False) := by rw [pO, e0, gte_f x0]
            rw [e]
            exact ⟨by rw [bI_f x0], mdT.of hs2 (by decide), hM2, fun z => absurd z x0⟩)
      refine r_gI 47 (dc dkX13_readOne 25 rfl) flX13_463 fd_111_47 rfl (np 50 rfl ?_)
      refine r_bipush (dc dkX13_readOne 26 rfl) bp_20 (np 52 rfl ?_)
      refine r_icmp_eq (tgt := 64) (dc dkX13_readOne 27 rfl) rfl (by omega) (by first | assumption | decide | omega) (fun h52 => ?_) (fun h52 => (np 55 rfl ?_))
      · skip
        refine r_pick [0, 1, 2] rfl ?_
        exact jj64 (by omega)
      refine r_aload_n (dc dkX13_readOne 28 rfl) rfl (np 56 rfl ?_)
      refine r_gI 48 (dc dkX13_readOne 29 rfl) flX13_466 fd_111_48 rfl (np 59 rfl ?_)
      refine r_bipush (dc dkX13_readOne 30 rfl) bp_8 (np 61 rfl ?_)
      refine r_icmp_ne (tgt := 70) (dc dkX13_readOne 31 rfl) rfl (by omega) (by first | assumption | decide | omega) (fun h61 => ?_) (fun h61 => (np 64 rfl ?_))
      · skip
        refine r_aload_n (dc dkX13_readOne 36 rfl) rfl (np 71 rfl ?_)
        refine r_dup (dc dkX13_readOne 37 rfl) rfl (np 72 rfl ?_)
        refine r_gI 47 (dc dkX13_readOne 38 rfl) flX13_463 fd_111_47 rfl (np 75 rfl ?_)
        refine r_iconst (dc dkX13_readOne 39 rfl) (np 76 rfl ?_)
        refine r_iadd (dc dkX13_readOne 40 rfl) (np 77 rfl ?_)
        refine r_pI 47 (dc dkX13_readOne 41 rfl) fpX13_463 fd_111_47 rfl (np 80 rfl ?_)
        refine r_aload_n (dc dkX13_readOne 42 rfl) rfl (np 81 rfl ?_)
        refine r_dup (dc dkX13_readOne 43 rfl) rfl (np 82 rfl ?_)
        refine r_gI 48 (dc dkX13_readOne 44 rfl) flX13_466 fd_111_48 rfl (np 85 rfl ?_)
        refine r_iconst (dc dkX13_readOne 45 rfl) (np 86 rfl ?_)
        refine r_iadd (dc dkX13_readOne 46 rfl) (np 87 rfl ?_)
        refine r_pI 48 (dc dkX13_readOne 47 rfl) fpX13_466 fd_111_48 rfl (np 90 rfl ?_)
        refine r_aload_n (dc dkX13_readOne 48 rfl) rfl (np 91 rfl ?_)
        refine r_cV0 (y' := miX13_go) (dc dkX13_readOne 49 rfl) mlX13_179 ceX13_go ob_111 (by omega) (Nat.le_of_ble_eq_true rfl) (c_goR p2 (md_T p1 (((mdT.refl [47, 48] [] _).put (by decide)).put (by decide)) (by decide) (by decide))) (fun r τ2 hp2 => (np 94 rfl ?_))
        obtain ⟨rfl, hs2, hM2⟩ := hp2
        have h59 : on0 t L m d R n = R := by rw [on0, gte_t (by omega), gte_f (by omega)]
        have fpos : 0 < f := by omega
        have r3 : (stR t L m R).1 = 0 := by rw [stR_f]; exact p2
        have hPO : pO t L m ex idn (f + 1) d R n = pB t L m ex idn (pO t L m ex idn f (d + 1)) (pAn t L m (pO t L m ex idn f (d + 1))) (tK t L m R.2) (stR t L m R) (n + 1) := by rw [pO, gte_t (by rw [h59]; exact p2)]
        have f2 : mdT XS [137, 138] σ τ2 := (((mdT.refl _ _ _).put (by decide)).put (by decide)).trS hs2 (by decide)
        have n2 : τ2 111 47 = n + 1 := by rw [hs2.2 47 (by decide), ju_ne (by decide), ju_at, p3]
        have d2 : τ2 111 48 = d := by rw [hs2.2 48 (by decide), ju_at, ju_ne (by decide), p5]; omega
        have e46 : τ2 111 46 = σ 111 46 := by rw [hs2.2 46 (by decide), ju_ne (by decide), ju_ne (by decide)]
        have e50 : τ2 111 50 = σ 111 50 := by rw [hs2.2 50 (by decide), ju_ne (by decide), ju_ne (by decide)]
        have e137 : τ2 137 = σ 137 := by rw [hs2.1 137 (by decide), ju_off _ _ _ _ _ (by decide), ju_off _ _ _ _ _ (by decide)]
        have e138 : τ2 138 = σ 138 := by rw [hs2.1 138 (by decide), ju_off _ _ _ _ _ (by decide), ju_off _ _ _ _ _ (by decide)]
        have hM3 := hM2.1 r3
        have mn2 : MPn τ2 ex := MPn_s p10 (f2.1 113 (by decide) (by decide)) (f2.1 118 (by decide) (by decide))
        have SP2 : MPp τ2 t L m ex (stR t L m R) (n + 1) (d + 1) := ⟨hM3, r3, n2, by omega, by omega, by omega, by omega, by rw [e46, e50, e137]; exact p8, by rw [e50, e138]; exact p9, mn2⟩
        have jj166 : ∀ (g : Int) (τ5 : jS), g = bI ((pO t L m ex idn (f + 1) d R n).1.1 = 0) ∧ MPo σ t L m idn (pO t L m ex idn (f + 1) d R n) (ju τ5 111 48 (τ5 111 48 - 1)) → jR (8 + 4 * (f + 1)) miX13_readOne (fun r τ => r = some (vI (bI ((pO t L m ex idn (f + 1) d R n).1.1 = 0))) ∧ MPo σ t L m idn (pO t L m ex idn (f + 1) d R n) τ) 166 [(0, .ref 111), (1, vI (bI (tK t L m R.2 = 40))), (2, vI w), (3, vI g)] [] τ5 := by
          intro g τ5 hq
          obtain ⟨hg, hq⟩ := hq
          refine r_aload_n (dc dkX13_readOne 90 rfl) rfl (np 167 rfl ?_)
          refine r_dup (dc dkX13_readOne 91 rfl) rfl (np 168 rfl ?_)
          refine r_gI 48 (dc dkX13_readOne 92 rfl) flX13_466 fd_111_48 rfl (np 171 rfl ?_)
          refine r_iconst (dc dkX13_readOne 93 rfl) (np 172 rfl ?_)
          refine r_isub (dc dkX13_readOne 94 rfl) (np 173 rfl ?_)
          refine r_pI 48 (dc dkX13_readOne 95 rfl) fpX13_466 fd_111_48 rfl (np 176 rfl ?_)
          refine r_iload_n (dc dkX13_readOne 96 rfl) rfl (np 177 rfl ?_)
          exact r_zret (dc dkX13_readOne 97 rfl) rfl (by rw [hg]; exact bI_01 _) ⟨by rw [hg], hq⟩
        refine r_iconst (dc dkX13_readOne 50 rfl) (np 95 rfl ?_)
        refine r_istore_n (lv' := [(3, _), (0, _), (1, _), (2, _)]) (dc dkX13_readOne 51 rfl) (Nat.le_of_ble_eq_true rfl) rfl (np 96 rfl ?_)
        refine r_iload_n (dc dkX13_readOne 52 rfl) rfl (np 97 rfl ?_)
        refine r_bz (tgt := 108) (dc dkX13_readOne 53 rfl) rfl (fun h97 => ?_) (fun h97 => (np 100 rfl ?_))
        · skip
          refine r_iload_n (dc dkX13_readOne 58 rfl) rfl (np 109 rfl ?_)
          refine r_bipush (dc dkX13_readOne 59 rfl) bp_8 (np 111 rfl ?_)
          refine r_icmp_ne (tgt := 122) (dc dkX13_readOne 60 rfl) rfl (by first | assumption | decide | omega) (by first | assumption | decide | omega) (fun h111 => ?_) (fun h111 => (np 114 rfl ?_))
          · skip
            refine r_iload_n (dc dkX13_readOne 65 rfl) rfl (np 123 rfl ?_)
            refine r_bipush (dc dkX13_readOne 66 rfl) bp_11 (np 125 rfl ?_)
            refine r_icmp_ne (tgt := 146) (dc dkX13_readOne 67 rfl) rfl (by first | assumption | decide | omega) (by first | assumption | decide | omega) (fun h125 => ?_) (fun h125 => (np 128 rfl ?_))
            · skip
              refine r_iload_n (dc dkX13_readOne 79 rfl) rfl (np 147 rfl ?_)
              refine r_bipush (dc dkX13_readOne 80 rfl) bp_11 (np 149 rfl ?_)
              refine r_icmp_ge (tgt := 160) (dc dkX13_readOne 81 rfl) rfl (by first | assumption | decide | omega) (by first | assumption | decide | omega) (fun h149 => ?_) (fun h149 => (np 152 rfl ?_))
              · skip
                refine r_aload_n (dc dkX13_readOne 86 rfl) rfl (np 161 rfl ?_)
                refine r_iload_n (dc dkX13_readOne 87 rfl) rfl (np 162 rfl ?_)
                refine r_cV1 (y' := miX13_readCompare) (dc dkX13_readOne 88 rfl) mlX13_477 ceX13_readCompare ob_111 (by omega) (Nat.le_of_ble_eq_true rfl) (c_X13_readCompare r3 hM3 (by omega) (by omega)) (fun r τ5 hp5 => (np 165 rfl ?_))
                obtain ⟨rfl, s5, R5, q5⟩ := hp5
                refine r_istore_n (lv' := [(3, _), (0, _), (1, _), (2, _)]) (dc dkX13_readOne 89 rfl) (Nat.le_of_ble_eq_true rfl) rfl (np 166 rfl ?_)
                refine r_pick [1, 2, 3, 0] rfl ?_
                exact jj166 _ _ (by
                       first
                       | (have e : pO t L m ex idn (f + 1) d R n = (xpR t L m 41 (pAn t L m (pO t L m ex idn f (d + 1)) (stR t L m R) (n + 1)).1, (pAn t L m (pO t L m ex idn f (d + 1)) (stR t L m R) (n + 1)).2.1, (pAn t L m (pO t L m ex idn f (d + 1)) (stR t L m R) (n + 1)).2.2) := by rw [hPO, pB, gte_f (by omega), gte_t (by omega)]
                          rw [e]
                          exact ⟨rfl, MP_out p3 p5 f2 e46 e50 e137 e138 n2 d2 hy⟩)
                       | (have e : pO t L m ex idn (f + 1) d R n = ((pO t L m ex idn f (d + 1) (stR t L m R) (n + 1)).1, (pO t L m ex idn f (d + 1) (stR t L m R) (n + 1)).2.1, fun v => ¬ (pO t L m ex idn f (d + 1) (stR t L m R) (n + 1)).2.2 v) := by rw [hPO, pB, gte_t (by omega)]
                          rw [e]
                          exact ⟨rfl, MP_out p3 p5 f2 e46 e50 e137 e138 n2 d2 hy⟩)
                       | (have hk2 := hk.2 (by assumption)
                          have e : pO t L m ex idn (f + 1) d R n = (stR t L m R, n + 1, fun v => v 33000) := by rw [hPO, pB, gte_f (by omega), gte_f (by omega), gte_f (by omega), gte_t (by omega)]
                          rw [e]
                          rw [e46, e137] at w5
                          rw [e46] at n5
                          have s : mdT [5, 6, 7, 8, 9, 10, 11, 13, 14, 46, 49, 50] [137, 138] τ2 (ju τ5 111 49 (τ2 111 46)) := (hs5.wide (by decide) (by decide)).put (by decide)
                          refine ⟨by rw [bI_t r3], MP_atom p3 (by omega) p5 p6.1 p7.1 p8 f2 n2 d2 s (mR_T (mR_T hM2 hs5 (by decide) (by decide)) ((mdT.refl [49] [] _).put (by decide)) (by decide) (by decide)) (w := 50 + w) (a := 0) (b := 0) (r := 0) (by omega) (fun _ => ?_)⟩
                          rw [ju_ne (by decide), ju_at, ju_ne (by decide), ju_off _ _ _ _ _ (by decide), ju_off _ _ _ _ _ (by decide), hs5.2 50 (by decide), hs5.1 138 (by decide) (by decide), e50, e138]
                          exact ⟨n5, e46, by omega, w5, fun _ _ => rfl, p9, fun z => by omega, fun z => by omega, by rw [if_neg (by omega), if_pos (by omega)]⟩)
                       | (have hk2 := hk.2 (by assumption)
                          have e : pO t L m ex idn (f + 1) d R n = (nmB t L m ex (stR t L m R), n + 1, fun v => v ((tK t L m R.2 - 100) * 3000 + idn (wQ t L m (stR t L m R).2))) := by rw [hPO, pB, gte_f (by omega), gte_f (by omega), gte_t (by omega)]
                          rw [e]
                          refine ⟨rfl, MP_atom p3 (by omega) p5 p6.1 p7.1 p8 f2 n2 d2 s5 R5 (w := 50 + w) (a := σ 111 50) (b := 0) (r := 0) (by omega) (fun z => ?_)⟩
                          obtain ⟨c1, c2, c3, c4, c5, c6, c7⟩ := q5 z
                          rw [e46] at c2 c3 c5
                          rw [e50] at c4 c5 c6 c7
                          rw [e137] at c5
                          refine ⟨c2, c3, by omega, c5, fun j hj => by rw [c7 j (by omega), e138], fun j j0 j1 => ?_, fun _ => by omega, fun z => by omega, ?_⟩
                          · by_cases hj : j = σ 111 50
                            · rw [hj, c6]; exact c1
                            · rw [c7 j hj, e138]; exact p9 j j0 (by omega)
                          · rw [if_pos (by omega), c6]; omega)
                       | (have hk2 := hk.2 (by assumption)
                          have e : pO t L m ex idn (f + 1) d R n = (ms2 t L m (stR t L m R), n + 1, fun v => v ((tK t L m R.2 - 100) * 3000 + (tK t L m (stR t L m R).2 - 60) * 1000 + nQ t L m (ms1 t L m (stR t L m R)).2)) := by rw [hPO, pB, gte_f (by omega), gte_f (by omega), gte_f (by omega), gte_f (by omega)]
                          rw [e]
                          refine ⟨rfl, MP_atom p3 (by omega) p5 p6.1 p7.1 p8 f2 n2 d2 s5 R5 (w := 50 + w) (a := 0) (b := nQ t L m (ms1 t L m (stR t L m R)).2) (r := tK t L m (stR t L m R).2) (by omega) (fun z => ?_)⟩
                          obtain ⟨c1, c2, c3, c4, c5, c6, c7⟩ := q5 z
                          rw [e46] at c3 c4 c6
                          rw [e50] at c5
                          rw [e137] at c6
                          rw [e138] at c7
                          refine ⟨c3, c4, by omega, c6, fun j hj => by rw [c7], by rw [c5, c7]; exact p9, fun z => by omega, fun _ => ⟨c1, c2⟩, ?_⟩
                          rw [if_neg (by omega), if_neg (by omega)]; omega))
              refine r_aload_n (dc dkX13_readOne 82 rfl) rfl (np 153 rfl ?_)
              refine r_iload_n (dc dkX13_readOne 83 rfl) rfl (np 154 rfl ?_)
              refine r_cV1 (y' := miX13_readNamed) (dc dkX13_readOne 84 rfl) mlX13_474 ceX13_readNamed ob_111 (by omega) (Nat.le_of_ble_eq_true rfl) (c_X13_readNamed r3 hM3 mn2 (by omega) (by omega) (by omega)) (fun r τ5 hp5 => (np 157 rfl ?_))
              obtain ⟨rfl, s5, R5, q5⟩ := hp5
              refine r_goto (tgt := 165) (dc dkX13_readOne 85 rfl) rfl ?_
              refine r_istore_n (lv' := [(3, _), (0, _), (1, _), (2, _)]) (dc dkX13_readOne 89 rfl) (Nat.le_of_ble_eq_true rfl) rfl (np 166 rfl ?_)
              refine r_pick [1, 2, 3, 0] rfl ?_
              exact jj166 _ _ (by
                     first
                     | (have e : pO t L m ex idn (f + 1) d R n = (xpR t L m 41 (pAn t L m (pO t L m ex idn f (d + 1)) (stR t L m R) (n + 1)).1, (pAn t L m (pO t L m ex idn f (d + 1)) (stR t L m R) (n + 1)).2.1, (pAn t L m (pO t L m ex idn f (d + 1)) (stR t L m R) (n + 1)).2.2) := by rw [hPO, pB, gte_f (by omega), gte_t (by omega)]
                        rw [e]
                        exact ⟨rfl, MP_out p3 p5 f2 e46 e50 e137 e138 n2 d2 hy⟩)
                     | (have e : pO t L m ex idn (f + 1) d R n = ((pO t L m ex idn f (d + 1) (stR t L m R) (n + 1)).1, (pO t L m ex idn f (d + 1) (stR t L m R) (n + 1)).2.1, fun v => ¬ (pO t L m ex idn f (d + 1) (stR t L m R) (n + 1)).2.2 v) := by rw [hPO, pB, gte_t (by omega)]
                        rw [e]
                        exact ⟨rfl, MP_out p3 p5 f2 e46 e50 e137 e138 n2 d2 hy⟩)
                     | (have hk2 := hk.2 (by assumption)
                        have e : pO t L m ex idn (f + 1) d R n = (stR t L m R, n + 1, fun v => v 33000) := by rw [hPO, pB, gte_f (by omega), gte_f (by omega), gte_f (by omega), gte_t (by omega)]
                        rw [e]
                        rw [e46, e137] at w5
                        rw [e46] at n5
                        have s : mdT [5, 6, 7, 8, 9, 10, 11, 13, 14, 46, 49, 50] [137, 138] τ2 (ju τ5 111 49 (τ2 111 46)) := (hs5.wide (by decide) (by decide)).put (by decide)
                        refine ⟨by rw [bI_t r3], MP_atom p3 (by omega) p5 p6.1 p7.1 p8 f2 n2 d2 s (mR_T (mR_T hM2 hs5 (by decide) (by decide)) ((mdT.refl [49] [] _).put (by decide)) (by decide) (by decide)) (w := 50 + w) (a := 0) (b := 0) (r := 0) (by omega) (fun _ => ?_)⟩
                        rw [ju_ne (by decide), ju_at, ju_ne (by decide), ju_off _ _ _ _ _ (by decide), ju_off _ _ _ _ _ (by decide), hs5.2 50 (by decide), hs5.1 138 (by decide) (by decide), e50, e138]
                        exact ⟨n5, e46, by omega, w5, fun _ _ => rfl, p9, fun z => by omega, fun z => by omega, by rw [if_neg (by omega), if_pos (by omega)]⟩)
                     | (have hk2 := hk.2 (by assumption)
                        have e : pO t L m ex idn (f + 1) d R n = (nmB t L m ex (stR t L m R), n + 1, fun v => v ((tK t L m R.2 - 100) * 3000 + idn (wQ t L m (stR t L m R).2))) := by rw [hPO, pB, gte_f (by omega), gte_f (by omega), gte_t (by omega)]
                        rw [e]
                        refine ⟨rfl, MP_atom p3 (by omega) p5 p6.1 p7.1 p8 f2 n2 d2 s5 R5 (w := 50 + w) (a := σ 111 50) (b := 0) (r := 0) (by omega) (fun z => ?_)⟩
                        obtain ⟨c1, c2, c3, c4, c5, c6, c7⟩ := q5 z
                        rw [e46] at c2 c3 c5
                        rw [e50] at c4 c5 c6 c7
                        rw [e137] at c5
                        refine ⟨c2, c3, by omega, c5, fun j hj => by rw [c7 j (by omega), e138], fun j j0 j1 => ?_, fun _ => by omega, fun z => by omega, ?_⟩
                        · by_cases hj : j = σ 111 50
                          · rw [hj, c6]; exact c1
                          · rw [c7 j hj, e138]; exact p9 j j0 (by omega)
                        · rw [if_pos (by omega), c6]; omega)
                     | (have hk2 := hk.2 (by assumption)
                        have e : pO t L m ex idn (f + 1) d R n = (ms2 t L m (stR t L m R), n + 1, fun v => v ((tK t L m R.2 - 100) * 3000 + (tK t L m (stR t L m R).2 - 60) * 1000 + nQ t L m (ms1 t L m (stR t L m R)).2)) := by rw [hPO, pB, gte_f (by omega), gte_f (by omega), gte_f (by omega), gte_f (by omega)]
                        rw [e]
                        refine ⟨rfl, MP_atom p3 (by omega) p5 p6.1 p7.1 p8 f2 n2 d2 s5 R5 (w := 50 + w) (a := 0) (b := nQ t L m (ms1 t L m (stR t L m R)).2) (r := tK t L m (stR t L m R).2) (by omega) (fun z => ?_)⟩
                        obtain ⟨c1, c2, c3, c4, c5, c6, c7⟩ := q5 z
                        rw [e46] at c3 c4 c6
                        rw [e50] at c5
                        rw [e137] at c6
                        rw [e138] at c7
                        refine ⟨c3, c4, by omega, c6, fun j hj => by rw [c7], by rw [c5, c7]; exact p9, fun z => by omega, fun _ => ⟨c1, c2⟩, ?_⟩
                        rw [if_neg (by omega), if_neg (by omega)]; omega))
            refine r_aload_n (dc dkX13_readOne 68 rfl) rfl (np 129 rfl ?_)
            refine r_aload_n (dc dkX13_readOne 69 rfl) rfl (np 130 rfl ?_)
            refine r_bipush (dc dkX13_readOne 70 rfl) bp_50 (np 132 rfl ?_)
            refine r_iload_n (dc dkX13_readOne 71 rfl) rfl (np 133 rfl ?_)
            refine r_iadd (dc dkX13_readOne 72 rfl) (np 134 rfl ?_)
            refine r_iconst (dc dkX13_readOne 73 rfl) (np 135 rfl ?_)
            refine r_iconst (dc dkX13_readOne 74 rfl) (np 136 rfl ?_)
            refine r_iconst (dc dkX13_readOne 75 rfl) (np 137 rfl ?_)
            refine r_cV4 (y' := miX13_lays) (dc dkX13_readOne 76 rfl) mlX13_456 ceX13_lays ob_111 (by omega) (Nat.le_of_ble_eq_true rfl) (c_X13_lays (by omega)) (fun r τ5 hp5 => (np 140 rfl ?_))
            obtain ⟨rfl, hs5, n5, w5⟩ := hp5
            refine r_pI 49 (dc dkX13_readOne 77 rfl) fpX13_453 fd_111_49 rfl (np 143 rfl ?_)
            refine r_goto (tgt := 166) (dc dkX13_readOne 78 rfl) rfl ?_
            refine r_pick [1, 2, 3, 0] rfl ?_
            exact jj166 _ _ (by
                   first
                   | (have e : pO t L m ex idn (f + 1) d R n = (xpR t L m 41 (pAn t L m (pO t L m ex idn f (d + 1)) (stR t L m R) (n + 1)).1, (pAn t L m (pO t L m ex idn f (d + 1)) (stR t L m R) (n + 1)).2.1, (pAn t L m (pO t L m ex idn f (d + 1)) (stR t L m R) (n + 1)).2.2) := by rw [hPO, pB, gte_f (by omega), gte_t (by omega)]
                      rw [e]
                      exact ⟨rfl, MP_out p3 p5 f2 e46 e50 e137 e138 n2 d2 hy⟩)
                   | (have e : pO t L m ex idn (f + 1) d R n = ((pO t L m ex idn f (d + 1) (stR t L m R) (n + 1)).1, (pO t L m ex idn f (d + 1) (stR t L m R) (n + 1)).2.1, fun v => ¬ (pO t L m ex idn f (d + 1) (stR t L m R) (n + 1)).2.2 v) := by rw [hPO, pB, gte_t (by omega)]
                      rw [e]
                      exact ⟨rfl, MP_out p3 p5 f2 e46 e50 e137 e138 n2 d2 hy⟩)
                   | (have hk2 := hk.2 (by assumption)
                      have e : pO t L m ex idn (f + 1) d R n = (stR t L m R, n + 1, fun v => v 33000) := by rw [hPO, pB, gte_f (by omega), gte_f (by omega), gte_f (by omega), gte_t (by omega)]
                      rw [e]
                      rw [e46, e137] at w5
                      rw [e46] at n5
                      have s : mdT [5, 6, 7, 8, 9, 10, 11, 13, 14, 46, 49, 50] [137, 138] τ2 (ju τ5 111 49 (τ2 111 46)) := (hs5.wide (by decide) (by decide)).put (by decide)
                      refine ⟨by rw [bI_t r3], MP_atom p3 (by omega) p5 p6.1 p7.1 p8 f2 n2 d2 s (mR_T (mR_T hM2 hs5 (by decide) (by decide)) ((mdT.refl [49] [] _).put (by decide)) (by decide) (by decide)) (w := 50 + w) (a := 0) (b := 0) (r := 0) (by omega) (fun _ => ?_)⟩
                      rw [ju_ne (by decide), ju_at, ju_ne (by decide), ju_off _ _ _ _ _ (by decide), ju_off _ _ _ _ _ (by decide), hs5.2 50 (by decide), hs5.1 138 (by decide) (by decide), e50, e138]
                      exact ⟨n5, e46, by omega, w5, fun _ _ => rfl, p9, fun z => by omega, fun z => by omega, by rw [if_neg (by omega), if_pos (by omega)]⟩)
                   | (have hk2 := hk.2 (by assumption)
                      have e : pO t L m ex idn (f + 1) d R n = (nmB t L m ex (stR t L m R), n + 1, fun v => v ((tK t L m R.2 - 100) * 3000 + idn (wQ t L m (stR t L m R).2))) := by rw [hPO, pB, gte_f (by omega), gte_f (by omega), gte_t (by omega)]
                      rw [e]
                      refine ⟨rfl, MP_atom p3 (by omega) p5 p6.1 p7.1 p8 f2 n2 d2 s5 R5 (w := 50 + w) (a := σ 111 50) (b := 0) (r := 0) (by omega) (fun z => ?_)⟩
                      obtain ⟨c1, c2, c3, c4, c5, c6, c7⟩ := q5 z
                      rw [e46] at c2 c3 c5
                      rw [e50] at c4 c5 c6 c7
                      rw [e137] at c5
                      refine ⟨c2, c3, by omega, c5, fun j hj => by rw [c7 j (by omega), e138], fun j j0 j1 => ?_, fun _ => by omega, fun z => by omega, ?_⟩
                      · by_cases hj : j = σ 111 50
                        · rw [hj, c6]; exact c1
                        · rw [c7 j hj, e138]; exact p9 j j0 (by omega)
                      · rw [if_pos (by omega), c6]; omega)
                   | (have hk2 := hk.2 (by assumption)
                      have e : pO t L m ex idn (f + 1) d R n = (ms2 t L m (stR t L m R), n + 1, fun v => v ((tK t L m R.2 - 100) * 3000 + (tK t L m (stR t L m R).2 - 60) * 1000 + nQ t L m (ms1 t L m (stR t L m R)).2)) := by rw [hPO, pB, gte_f (by omega), gte_f (by omega), gte_f (by omega), gte_f (by omega)]
                      rw [e]
                      refine ⟨rfl, MP_atom p3 (by omega) p5 p6.1 p7.1 p8 f2 n2 d2 s5 R5 (w := 50 + w) (a := 0) (b := nQ t L m (ms1 t L m (stR t L m R)).2) (r := tK t L m (stR t L m R).2) (by omega) (fun z => ?_)⟩
                      obtain ⟨c1, c2, c3, c4, c5, c6, c7⟩ := q5 z
                      rw [e46] at c3 c4 c6
                      rw [e50] at c5
                      rw [e137] at c6
                      rw [e138] at c7
                      refine ⟨c3, c4, by omega, c6, fun j hj => by rw [c7], by rw [c5, c7]; exact p9, fun z => by omega, fun _ => ⟨c1, c2⟩, ?_⟩
                      rw [if_neg (by omega), if_neg (by omega)]; omega))
          refine r_aload_n (dc dkX13_readOne 61 rfl) rfl (np 115 rfl ?_)
          refine r_cV0 (y' := miX13_readNot) (dc dkX13_readOne 62 rfl) mlX13_471 ceX13_readNot ob_111 (by omega) (Nat.le_of_ble_eq_true rfl) (c_X13_readNot (idn := idn) (ih fpos) SP2) (fun r τ5 hp5 => (np 118 rfl ?_))
          obtain ⟨rfl, hy⟩ := hp5
          refine r_istore_n (lv' := [(3, _), (0, _), (1, _), (2, _)]) (dc dkX13_readOne 63 rfl) (Nat.le_of_ble_eq_true rfl) rfl (np 119 rfl ?_)
          refine r_goto (tgt := 166) (dc dkX13_readOne 64 rfl) rfl ?_
          refine r_pick [1, 2, 3, 0] rfl ?_
          exact jj166 _ _ (by
                 first
                 | (have e : pO t L m ex idn (f + 1) d R n = (xpR t L m 41 (pAn t L m (pO t L m ex idn f (d + 1)) (stR t L m R) (n + 1)).1, (pAn t L m (pO t L m ex idn f (d + 1)) (stR t L m R) (n + 1)).2.1, (pAn t L m (pO t L m ex idn f (d + 1)) (stR t L m R) (n + 1)).2.2) := by rw [hPO, pB, gte_f (by omega), gte_t (by omega)]
                    rw [e]
                    exact ⟨rfl, MP_out p3 p5 f2 e46 e50 e137 e138 n2 d2 hy⟩)
                 | (have e : pO t L m ex idn (f + 1) d R n = ((pO t L m ex idn f (d + 1) (stR t L m R) (n + 1)).1, (pO t L m ex idn f (d + 1) (stR t L m R) (n + 1)).2.1, fun v => ¬ (pO t L m ex idn f (d + 1) (stR t L m R) (n + 1)).2.2 v) := by rw [hPO, pB, gte_t (by omega)]
                    rw [e]
                    exact ⟨rfl, MP_out p3 p5 f2 e46 e50 e137 e138 n2 d2 hy⟩)
                 | (have hk2 := hk.2 (by assumption)
                    have e : pO t L m ex idn (f + 1) d R n = (stR t L m R, n + 1, fun v => v 33000) := by rw [hPO, pB, gte_f (by omega), gte_f (by omega), gte_f (by omega), gte_t (by omega)]
                    rw [e]
                    rw [e46, e137] at w5
                    rw [e46] at n5
                    have s : mdT [5, 6, 7, 8, 9, 10, 11, 13, 14, 46, 49, 50] [137, 138] τ2 (ju τ5 111 49 (τ2 111 46)) := (hs5.wide (by decide) (by decide)).put (by decide)
                    refine ⟨by rw [bI_t r3], MP_atom p3 (by omega) p5 p6.1 p7.1 p8 f2 n2 d2 s (mR_T (mR_T hM2 hs5 (by decide) (by decide)) ((mdT.refl [49] [] _).put (by decide)) (by decide) (by decide)) (w := 50 + w) (a := 0) (b := 0) (r := 0) (by omega) (fun _ => ?_)⟩
                    rw [ju_ne (by decide), ju_at, ju_ne (by decide), ju_off _ _ _ _ _ (by decide), ju_off _ _ _ _ _ (by decide), hs5.2 50 (by decide), hs5.1 138 (by decide) (by decide), e50, e138]
                    exact ⟨n5, e46, by omega, w5, fun _ _ => rfl, p9, fun z => by omega, fun z => by omega, by rw [if_neg (by omega), if_pos (by omega)]⟩)
                 | (have hk2 := hk.2 (by assumption)
                    have e : pO t L m ex idn (f + 1) d R n = (nmB t L m ex (stR t L m R), n + 1, fun v => v ((tK t L m R.2 - 100) * 3000 + idn (wQ t L m (stR t L m R).2))) := by rw [hPO, pB, gte_f (by omega), gte_f (by omega), gte_t (by omega)]
                    rw [e]
                    refine ⟨rfl, MP_atom p3 (by omega) p5 p6.1 p7.1 p8 f2 n2 d2 s5 R5 (w := 50 + w) (a := σ 111 50) (b := 0) (r := 0) (by omega) (fun z => ?_)⟩
                    obtain ⟨c1, c2, c3, c4, c5, c6, c7⟩ := q5 z
                    rw [e46] at c2 c3 c5
                    rw [e50] at c4 c5 c6 c7
                    rw [e137] at c5
                    refine ⟨c2, c3, by omega, c5, fun j hj => by rw [c7 j (by omega), e138], fun j j0 j1 => ?_, fun _ => by omega, fun z => by omega, ?_⟩
                    · by_cases hj : j = σ 111 50
                      · rw [hj, c6]; exact c1
                      · rw [c7 j hj, e138]; exact p9 j j0 (by omega)
                    · rw [if_pos (by omega), c6]; omega)
                 | (have hk2 := hk.2 (by assumption)
                    have e : pO t L m ex idn (f + 1) d R n = (ms2 t L m (stR t L m R), n + 1, fun v => v ((tK t L m R.2 - 100) * 3000 + (tK t L m (stR t L m R).2 - 60) * 1000 + nQ t L m (ms1 t L m (stR t L m R)).2)) := by rw [hPO, pB, gte_f (by omega), gte_f (by omega), gte_f (by omega), gte_f (by omega)]
                    rw [e]
                    refine ⟨rfl, MP_atom p3 (by omega) p5 p6.1 p7.1 p8 f2 n2 d2 s5 R5 (w := 50 + w) (a := 0) (b := nQ t L m (ms1 t L m (stR t L m R)).2) (r := tK t L m (stR t L m R).2) (by omega) (fun z => ?_)⟩
                    obtain ⟨c1, c2, c3, c4, c5, c6, c7⟩ := q5 z
                    rw [e46] at c3 c4 c6
                    rw [e50] at c5
                    rw [e137] at c6
                    rw [e138] at c7
                    refine ⟨c3, c4, by omega, c6, fun j hj => by rw [c7], by rw [c5, c7]; exact p9, fun z => by omega, fun _ => ⟨c1, c2⟩, ?_⟩
                    rw [if_neg (by omega), if_neg (by omega)]; omega))
        refine r_aload_n (dc dkX13_readOne 54 rfl) rfl (np 101 rfl ?_)
        refine r_cV0 (y' := miX13_readBracket) (dc dkX13_readOne 55 rfl) mlX13_468 ceX13_readBracket ob_111 (by omega) (Nat.le_of_ble_eq_true rfl) (c_X13_readBracket (idn := idn) (ia fpos) SP2) (fun r τ5 hp5 => (np 104 rfl ?_))
        obtain ⟨rfl, hy⟩ := hp5
        refine r_istore_n (lv' := [(3, _), (0, _), (1, _), (2, _)]) (dc dkX13_readOne 56 rfl) (Nat.le_of_ble_eq_true rfl) rfl (np 105 rfl ?_)
        refine r_goto (tgt := 166) (dc dkX13_readOne 57 rfl) rfl ?_
        refine r_pick [1, 2, 3, 0] rfl ?_
        exact jj166 _ _ (by
               first
               | (have e : pO t L m ex idn (f + 1) d R n = (xpR t L m 41 (pAn t L m (pO t L m ex idn f (d + 1)) (stR t L m R) (n + 1)).1, (pAn t L m (pO t L m ex idn f (d + 1)) (stR t L m R) (n + 1)).2.1, (pAn t L m (pO t L m ex idn f (d + 1)) (stR t L m R) (n + 1)).2.2) := by rw [hPO, pB, gte_f (by omega), gte_t (by omega)]
                  rw [e]
                  exact ⟨rfl, MP_out p3 p5 f2 e46 e50 e137 e138 n2 d2 hy⟩)
               | (have e : pO t L m ex idn (f + 1) d R n = ((pO t L m ex idn f (d + 1) (stR t L m R) (n + 1)).1, (pO t L m ex idn f (d + 1) (stR t L m R) (n + 1)).2.1, fun v => ¬ (pO t L m ex idn f (d + 1) (stR t L m R) (n + 1)).2.2 v) := by rw [hPO, pB, gte_t (by omega)]
                  rw [e]
                  exact ⟨rfl, MP_out p3 p5 f2 e46 e50 e137 e138 n2 d2 hy⟩)
               | (have hk2 := hk.2 (by assumption)
                  have e : pO t L m ex idn (f + 1) d R n = (stR t L m R, n + 1, fun v => v 33000) := by rw [hPO, pB, gte_f (by omega), gte_f (by omega), gte_f (by omega), gte_t (by omega)]
                  rw [e]
                  rw [e46, e137] at w5
                  rw [e46] at n5
                  have s : mdT [5, 6, 7, 8, 9, 10, 11, 13, 14, 46, 49, 50] [137, 138] τ2 (ju τ5 111 49 (τ2 111 46)) := (hs5.wide (by decide) (by decide)).put (by decide)
                  refine ⟨by rw [bI_t r3], MP_atom p3 (by omega) p5 p6.1 p7.1 p8 f2 n2 d2 s (mR_T (mR_T hM2 hs5 (by decide) (by decide)) ((mdT.refl [49] [] _).put (by decide)) (by decide) (by decide)) (w := 50 + w) (a := 0) (b := 0) (r := 0) (by omega) (fun _ => ?_)⟩
                  rw [ju_ne (by decide), ju_at, ju_ne (by decide), ju_off _ _ _ _ _ (by decide), ju_off _ _ _ _ _ (by decide), hs5.2 50 (by decide), hs5.1 138 (by decide) (by decide), e50, e138]
                  exact ⟨n5, e46, by omega, w5, fun _ _ => rfl, p9, fun z => by omega, fun z => by omega, by rw [if_neg (by omega), if_pos (by omega)]⟩)
               | (have hk2 := hk.2 (by assumption)
                  have e : pO t L m ex idn (f + 1) d R n = (nmB t L m ex (stR t L m R), n + 1, fun v => v ((tK t L m R.2 - 100) * 3000 + idn (wQ t L m (stR t L m R).2))) := by rw [hPO, pB, gte_f (by omega), gte_f (by omega), gte_t (by omega)]
                  rw [e]
                  refine ⟨rfl, MP_atom p3 (by omega) p5 p6.1 p7.1 p8 f2 n2 d2 s5 R5 (w := 50 + w) (a := σ 111 50) (b := 0) (r := 0) (by omega) (fun z => ?_)⟩
                  obtain ⟨c1, c2, c3, c4, c5, c6, c7⟩ := q5 z
                  rw [e46] at c2 c3 c5
                  rw [e50] at c4 c5 c6 c7
                  rw [e137] at c5
                  refine ⟨c2, c3, by omega, c5, fun j hj => by rw [c7 j (by omega), e138], fun j j0 j1 => ?_, fun _ => by omega, fun z => by omega, ?_⟩
                  · by_cases hj : j = σ 111 50
                    · rw [hj, c6]; exact c1
                    · rw [c7 j hj, e138]; exact p9 j j0 (by omega)
                  · rw [if_pos (by omega), c6]; omega)
               | (have hk2 := hk.2 (by assumption)
                  have e : pO t L m ex idn (f + 1) d R n = (ms2 t L m (stR t L m R), n + 1, fun v => v ((tK t L m R.2 - 100) * 3000 + (tK t L m (stR t L m R).2 - 60) * 1000 + nQ t L m (ms1 t L m (stR t L m R)).2)) := by rw [hPO, pB, gte_f (by omega), gte_f (by omega), gte_f (by omega), gte_f (by omega)]
                  rw [e]
                  refine ⟨rfl, MP_atom p3 (by omega) p5 p6.1 p7.1 p8 f2 n2 d2 s5 R5 (w := 50 + w) (a := 0) (b := nQ t L m (ms1 t L m (stR t L m R)).2) (r := tK t L m (stR t L m R).2) (by omega) (fun z => ?_)⟩
                  obtain ⟨c1, c2, c3, c4, c5, c6, c7⟩ := q5 z
                  rw [e46] at c3 c4 c6
                  rw [e50] at c5
                  rw [e137] at c6
                  rw [e138] at c7
                  refine ⟨c3, c4, by omega, c6, fun j hj => by rw [c7], by rw [c5, c7]; exact p9, fun z => by omega, fun _ => ⟨c1, c2⟩, ?_⟩
                  rw [if_neg (by omega), if_neg (by omega)]; omega))
      refine r_pick [0, 1, 2] rfl ?_
      exact jj64 (by omega)
    refine r_iload_n (dc dkX13_readOne 15 rfl) rfl (np 31 rfl ?_)
    refine r_bn (tgt := 46) (dc dkX13_readOne 16 rfl) rfl (fun h31 => ?_) (fun h31 => (np 34 rfl ?_))
    · skip
      refine r_pick [0, 1, 2] rfl ?_
      exact jj46 (by omega)
    refine r_iload_n (dc dkX13_readOne 17 rfl) rfl (np 35 rfl ?_)
    refine r_bipush (dc dkX13_readOne 18 rfl) bp_16 (np 37 rfl ?_)
    refine r_icmp_le (tgt := 46) (dc dkX13_readOne 19 rfl) rfl (by first | assumption | decide | omega) (by first | assumption | decide | omega) (fun h37 => ?_) (fun h37 => (np 40 rfl ?_))
    · skip
      refine r_pick [0, 1, 2] rfl ?_
      exact jj46 (by omega)
    refine r_aload_n (dc dkX13_readOne 20 rfl) rfl (np 41 rfl ?_)
    refine r_iconst (dc dkX13_readOne 21 rfl) (np 42 rfl ?_)
    refine r_cV1 (y' := miX13_bad) (dc dkX13_readOne 22 rfl) mlX13_165 ceX13_bad ob_111 (by omega) (Nat.le_of_ble_eq_true rfl) (c_bdR p2 p1 (by decide) (fun _ => rfl)) (fun r τ2 hp2 => (np 45 rfl ?_))
    obtain ⟨rfl, hs2, hM2⟩ := hp2
    exact r_zret (dc dkX13_readOne 23 rfl) rfl (by first | exact Or.inl rfl | exact Or.inr rfl) (by
        have x0 : ¬ (flR t L m 1 R).1 = 0 := flR_f (by decide)
        have e0 : on0 t L m d R n = flR t L m 1 R := by rw [on0, gte_f (fun z => by rcases z with z | z; exact h31 z; exact hI10.2 (tK t L m R.2 - 100) (by omega) (by omega) (by omega))]
        have e : pO t L m ex idn (f + 1) d R n = (flR t L m 1 R, n, fun _ => False) := by rw [pO, e0, gte_f x0]
        rw [e]
        exact ⟨by rw [bI_f x0], mdT.of hs2 (by decide), hM2, fun z => absurd z x0⟩)
  refine r_iinc (lv' := [(2, _), (0, _), (1, _)]) (dc dkX13_readOne 13 rfl) (Nat.le_of_ble_eq_true rfl) rfl rfl (np 27 rfl ?_)
  refine r_goto (tgt := 10) (dc dkX13_readOne 14 rfl) rfl ?_
  refine r_pick [1, 2, 0] rfl ?_
  exact ih10 _ ⟨by omega, fun j j0 j1 => by rcases (show j < w ∨ j = w by omega) with z | z; exact hI10.2 j j0 z; rw [z]; exact h21⟩ (by omega)
theorem c_msent : ∀ (f : Nat) (d : Int), (f : Int) + d = 9 → 1 ≤ d → mOne (f + 1) d ∧ mAnd (f + 1) d ∧ mOr (f + 1) d
  | 0, d, h, h1 => by
    have a : mOne 1 d := fun hP => c_X13_readOne (f := 0) h h1 (fun z => absurd z (by decide)) (fun z => absurd z (by decide)) hP
    have b : mAnd 1 d := fun hP => c_X13_readAnd a hP
    exact ⟨a, b, fun hP => c_X13_readOr b hP⟩
  | f + 1, d, h, h1 => by
    have ih := c_msent f (d + 1) (by omega) (by omega)
    have a : mOne (f + 1 + 1) d := fun hP => c_X13_readOne (f := f + 1) (by omega) h1 (fun _ => ih.1) (fun _ => ih.2.2) hP
    have b : mAnd (f + 1 + 1) d := fun hP => c_X13_readAnd a hP
    exact ⟨a, b, fun hP => c_X13_readOr b hP⟩
