def cOne (f : Nat) (d : Int) : Prop := ∀ {σ : jS} {t : Int → Int} {L m : Int} {ex : Int → Prop} {idn : Int → Int} {R : Int × Int} {n : Int}, SPp σ t L m ex idn R n → Jm (12 + 3 * f) miX9_readOne [.ref 51, .ref 1, .ref 28, vI d] σ (fun r τ => r = none ∧ SPo σ t L m (pO t L m ex idn f d R n) τ)
def cAll (f : Nat) (d : Int) : Prop := ∀ {σ : jS} {t : Int → Int} {L m : Int} {ex : Int → Prop} {idn : Int → Int} {R : Int × Int} {n : Int}, SPp σ t L m ex idn R n → Jm (13 + 3 * f) miX9_readAll [.ref 51, .ref 1, .ref 28, vI d] σ (fun r τ => r = none ∧ SPo σ t L m (pAl t L m (pO t L m ex idn f d) R n) τ)
def cAny (f : Nat) (d : Int) : Prop := ∀ {σ : jS} {t : Int → Int} {L m : Int} {ex : Int → Prop} {idn : Int → Int} {R : Int × Int} {n : Int}, SPp σ t L m ex idn R n → Jm (14 + 3 * f) miX9_readAny [.ref 51, .ref 1, .ref 28, vI d] σ (fun r τ => r = none ∧ SPo σ t L m (pAn t L m (pO t L m ex idn f d) R n) τ)
theorem SP_step {σ τ τ3 : jS} {t : Int → Int} {L m : Int} {ex : Int → Prop} {idn : Int → Int} {R : Int × Int} {n : Int} {x : X3} (hP : SPp σ t L m ex idn R n) (hx : SPo σ t L m x τ) (h0 : x.1.1 = 0) (hs : same [1] τ τ3) (hR : rd t L m (stR t L m x.1) τ3) : SPp τ3 t L m ex idn (stR t L m x.1) x.2.1 := by
  obtain ⟨p1, p2, p3, p4, p5, p6, p7⟩ := hP
  obtain ⟨x1, x2, x3, x4, x5⟩ := hx
  obtain ⟨y1, y2, y3, y4, y5, y6⟩ := x5 h0
  have e51 : τ3 51 = τ 51 := hs 51 (by decide)
  refine ⟨hR, by rw [stR_f]; exact h0, by rw [e51]; exact y1, by omega, by rw [e51]; exact x3, by rw [e51]; omega, ?_⟩
  exact SPn_s (SPn_s p7 x1 (by decide) (by decide) (by decide) (by decide) (by decide) (by decide)) hs (by decide) (by decide) (by decide) (by decide) (by decide) (by decide)
theorem SP_join {σ τ τ3 τ4 τ5 : jS} {t : Int → Int} {L m : Int} {ex : Int → Prop} {idn : Int → Int} {R : Int × Int} {n w : Int} {x y : X3} {J : Prop → Prop → Prop} (hJ : ∀ (f : Int → Int) (a b c k k2 : Int) (e e2 : Fm), rpC f a b e k → rpC f b c e2 k2 → f c / 3000 = w - 100 → rpC f a (c + 1) (fun v => J (e v) (e2 v)) (k + k2)) (hw : 0 ≤ w - 100) (hP : SPp σ t L m ex idn R n) (hx : SPo σ t L m x τ) (h0 : x.1.1 = 0) (hs : same [1] τ τ3) (hy : SPo τ3 t L m y τ4) (s5 : same [51, 52] τ4 τ5) (o5 : τ5 51 1 = τ4 51 1) (b5 : cB 40 (τ5 51 0)) (p5 : τ4 51 0 < 40 → τ5 51 0 = τ4 51 0 + 1 ∧ τ5 52 (τ4 51 0) = ((w - 100) * 3 + 0) * 1000 + 0 ∧ ∀ j, ¬ j = τ4 51 0 → τ5 52 j = τ4 52 j) : SPo σ t L m (y.1, y.2.1, fun v => J (x.2.2 v) (y.2.2 v)) τ5 := by
  obtain ⟨p1, p2, p3, p4, q5, p6, p7⟩ := hP
  obtain ⟨x1, x2, x3, x4, x5⟩ := hx
  obtain ⟨x6, x7, x8, x9, x10, x11⟩ := x5 h0
  obtain ⟨y1, y2, y3, y4, y5⟩ := hy
  have e51 : τ3 51 = τ 51 := hs 51 (by decide)
  have e52 : τ3 52 = τ 52 := hs 52 (by decide)
  refine ⟨((x1.tr (hs.wide (by decide))).tr y1).tr (s5.wide (by decide)), rd_s y2 s5 (by decide) (by decide) (by decide), b5, by rw [o5]; exact y4, fun z => ?_⟩
  obtain ⟨y6, y7, y8, y9, y10, y11⟩ := y5 z
  rw [e51] at y7 y8 y9 y10 y11
  rw [e52] at y10
  obtain ⟨r1, r2, r3⟩ := p5 (by omega)
  show τ5 51 1 = y.2.1 ∧ σ 51 1 < y.2.1 ∧ σ 51 0 ≤ τ5 51 0 ∧ τ5 51 0 ≤ σ 51 0 + 2 * (y.2.1 - σ 51 1) - 1 ∧ (∀ j, j < σ 51 0 → τ5 52 j = σ 52 j) ∧ rpC (τ5 52) (σ 51 0) (τ5 51 0) (fun v => J (x.2.2 v) (y.2.2 v)) (y.2.1 - σ 51 1)
  refine ⟨by omega, by omega, by omega, by omega, fun j hj => ?_, ?_⟩
  · rw [r3 j (by omega), y10 j (by omega), x10 j hj]
  · rw [r1]
    refine rpC_m (hJ (τ5 52) (σ 51 0) (τ 51 0) (τ4 51 0) (x.2.1 - σ 51 1) (y.2.1 - τ 51 1) _ _ ?_ ?_ ?_) (by omega)
    · exact rpC_c x11 (fun j j0 j1 => by rw [r3 j (by omega), y10 j j1])
    · exact rpC_c y11 (fun j j0 j1 => r3 j (by omega))
    · rw [r2]; omega
/-- one of one step -/
theorem SP_one {σ τ3 τ : jS} {t : Int → Int} {L m : Int} {R' : Int × Int} {n c : Int} (h3 : ∀ c, ¬ c = 1 → ¬ c = 51 → τ3 c = σ c) (h30 : τ3 51 0 = σ 51 0) (h31 : τ3 51 1 = n + 1) (hn : σ 51 1 = n) (hb : cB 20 (n + 1)) (hs : same [1, 51, 52] τ3 τ) (hR : rd t L m R' τ) (h40 : cB 40 (τ 51 0)) (ho : τ 51 1 = τ3 51 1) (hc : ¬ c / 3000 = 8 ∧ ¬ c / 3000 = 7 ∧ ¬ c / 3000 = 6) (hcb : R'.1 = 0 → 0 ≤ c ∧ c < 51000) (hp : R'.1 = 0 → τ 51 0 = τ3 51 0 + 1 ∧ τ 52 (τ3 51 0) = c ∧ ∀ j, ¬ j = τ3 51 0 → τ 52 j = τ3 52 j) : SPo σ t L m (R', n + 1, fun v => v c) τ := by
  refine ⟨fun c hc => ?_, hR, h40, by omega, fun z => ?_⟩
  · rw [hs c hc]
    simp at hc
    exact h3 c (by omega) (by omega)
  · obtain ⟨q1, q2, q3⟩ := hp z
    rw [h30] at q1 q2 q3
    show τ 51 1 = n + 1 ∧ σ 51 1 < n + 1 ∧ σ 51 0 ≤ τ 51 0 ∧ τ 51 0 ≤ σ 51 0 + 2 * (n + 1 - σ 51 1) - 1 ∧ (∀ j, j < σ 51 0 → τ 52 j = σ 52 j) ∧ rpC (τ 52) (σ 51 0) (τ 51 0) (fun v => v c) (n + 1 - σ 51 1)
    refine ⟨by omega, by omega, by omega, by omega, fun j hj => by rw [q3 j (by omega), h3 52 (by decide) (by decide)], ?_⟩
    rw [q1, ← q2]
    exact rpC_m (rpC_at (by rw [q2]; exact hc) (by rw [q2]; exact hcb z)) (by omega)
set_option maxRecDepth 100000 in
set_option maxHeartbeats 4000000 in
theorem c_X9_readAll {f : Nat} {d : Int} (hd : 0 ≤ d ∧ d ≤ 20) (ih : cOne f d) {σ : jS} {t : Int → Int} {L m : Int} {ex : Int → Prop} {idn : Int → Int} {R : Int × Int} {n : Int} (hP : SPp σ t L m ex idn R n) : Jm (13 + 3 * f) miX9_readAll [.ref 51, .ref 1, .ref 28, vI d] σ (fun r τ => r = none ∧ SPo σ t L m (pAl t L m (pO t L m ex idn f d) R n) τ) := by
  refine jm_ofF (Po := (fun r τ => r = none ∧ SPo σ t L m (pAl t L m (pO t L m ex idn f d) R n) τ)) (plainFor_of_name (by decide)) (Nat.le_of_ble_eq_true rfl) (lv := [(0, _), (1, _), (2, _), (3, _)]) rfl ?_
  refine r_aload_n (dc dkX9_readAll 0 rfl) rfl (np 1 rfl ?_)
  refine r_aload_n (dc dkX9_readAll 1 rfl) rfl (np 2 rfl ?_)
  refine r_aload_n (dc dkX9_readAll 2 rfl) rfl (np 3 rfl ?_)
  refine r_iload_n (dc dkX9_readAll 3 rfl) rfl (np 4 rfl ?_)
  refine r_cV3 (y' := miX9_readOne) (dc dkX9_readAll 4 rfl) mlX9_45 ceX9_readOne ob_51 (by omega) (Nat.le_of_ble_eq_true rfl) (ih hP) (fun r τ1 hp1 => (np 7 rfl ?_))
  obtain ⟨rfl, hx1⟩ := hp1
  refine r_iconst (dc dkX9_readAll 5 rfl) (np 8 rfl ?_)
  refine r_istore (lv' := [(4, _), (0, _), (1, _), (2, _), (3, _)]) (dc dkX9_readAll 6 rfl) (Nat.le_of_ble_eq_true rfl) rfl (np 10 rfl ?_)
  refine r_pick [1, 2, 3, 4, 0] (lv' := [(0, _), (1, _), (2, _), (3, _), (4, _)]) rfl ?_
  refine jlp2 (P := fun (i : Int) (τ : jS) => jR _ _ _ 10 [(0, .ref 51), (1, .ref 1), (2, .ref 28), (3, vI d), (4, vI i)] [] τ) (I := fun (i : Int) (τ : jS) => (0 ≤ i ∧ i ≤ 20) ∧ ∃ x : X3, SPo σ t L m x τ ∧ pAl t L m (pO t L m ex idn f d) R n = lpF t L m (pO t L m ex idn f d) 107 And (20 - i).toNat x) (fun (i : Int) (τ : jS) => (20 - i).toNat) ?_ _ _ ⟨by omega, _, hx1, rfl⟩
  intro i τ hI10 ih10
  obtain ⟨hb, x, hx, hF⟩ := hI10
  refine r_iload (dc dkX9_readAll 7 rfl) rfl (np 12 rfl ?_)
  refine r_bipush (dc dkX9_readAll 8 rfl) bp_20 (np 14 rfl ?_)
  refine r_icmp_ge (tgt := 51) (dc dkX9_readAll 9 rfl) rfl (by first | assumption | decide | omega) (by first | assumption | decide | omega) (fun h14 => ?_) (fun h14 => (np 17 rfl ?_))
  · skip
    exact r_vret (dc dkX9_readAll 28 rfl) rfl (by first | exact ⟨rfl, by rw [hF, lpF_n h23]; exact hx⟩ | exact ⟨rfl, by rw [hF, show (20 - i).toNat = 0 by omega]; exact hx⟩)
  refine r_aload_n (dc dkX9_readAll 10 rfl) rfl (np 18 rfl ?_)
  refine r_bipush (dc dkX9_readAll 11 rfl) bp_107 (np 20 rfl ?_)
  refine r_pV1 (y' := miX8_sees) (dc dkX9_readAll 12 rfl) mlX9_32 ceX8_sees ob_1 (by omega) (Nat.le_of_ble_eq_true rfl) (c_X8_sees hx.2.1 (by decide)) (np 23 rfl ?_)
  refine r_bz (tgt := 51) (dc dkX9_readAll 13 rfl) rfl (fun h23 => ?_) (fun h23 => (np 26 rfl ?_))
  · skip
    exact r_vret (dc dkX9_readAll 28 rfl) rfl (by first | exact ⟨rfl, by rw [hF, lpF_n h23]; exact hx⟩ | exact ⟨rfl, by rw [hF, show (20 - i).toNat = 0 by omega]; exact hx⟩)
  refine r_aload_n (dc dkX9_readAll 14 rfl) rfl (np 27 rfl ?_)
  refine r_cV0 (y' := miX8_step) (dc dkX9_readAll 15 rfl) mlX9_38 ceX8_step ob_1 (by omega) (Nat.le_of_ble_eq_true rfl) (c_X8_step hx.2.1) (fun r τ3 hp3 => (np 30 rfl ?_))
  obtain ⟨rfl, hs3, hR3⟩ := hp3
  refine r_aload_n (dc dkX9_readAll 16 rfl) rfl (np 31 rfl ?_)
  refine r_aload_n (dc dkX9_readAll 17 rfl) rfl (np 32 rfl ?_)
  refine r_aload_n (dc dkX9_readAll 18 rfl) rfl (np 33 rfl ?_)
  refine r_iload_n (dc dkX9_readAll 19 rfl) rfl (np 34 rfl ?_)
  refine r_cV3 (y' := miX9_readOne) (dc dkX9_readAll 20 rfl) mlX9_45 ceX9_readOne ob_51 (by omega) (Nat.le_of_ble_eq_true rfl) (ih (SP_step hP hx h23.1 hs3 hR3)) (fun r τ4 hp4 => (np 37 rfl ?_))
  obtain ⟨rfl, hy⟩ := hp4
  refine r_aload_n (dc dkX9_readAll 21 rfl) rfl (np 38 rfl ?_)
  refine r_bipush (dc dkX9_readAll 22 rfl) bp_107 (np 40 rfl ?_)
  refine r_iconst (dc dkX9_readAll 23 rfl) (np 41 rfl ?_)
  refine r_iconst (dc dkX9_readAll 24 rfl) (np 42 rfl ?_)
  refine r_cV3 (y' := miX9_put) (dc dkX9_readAll 25 rfl) mlX9_41 ceX9_put ob_51 (by omega) (Nat.le_of_ble_eq_true rfl) (c_X9_put hy.2.2.1) (fun r τ5 hp5 => (np 45 rfl ?_))
  obtain ⟨rfl, hs5, o5, b5, p5⟩ := hp5
  refine r_iinc (lv' := [(4, _), (0, _), (1, _), (2, _), (3, _)]) (dc dkX9_readAll 26 rfl) (Nat.le_of_ble_eq_true rfl) rfl rfl (np 48 rfl ?_)
  refine r_goto (tgt := 10) (dc dkX9_readAll 27 rfl) rfl ?_
  refine r_pick [1, 2, 3, 4, 0] rfl ?_
  exact ih10 _ _ ⟨by omega, _, SP_join (w := 107) (J := And) (fun f a b c k k2 e e2 h1 h2 h3 => rpC_and h1 h2 (by omega)) (by decide) hP hx h23.1 hs3 hy hs5 o5 b5 p5, by rw [hF, show (20 - i).toNat = (20 - (i + 1)).toNat + 1 by omega, lpF_y h23]⟩ (by omega)
set_option maxRecDepth 100000 in
set_option maxHeartbeats 4000000 in
theorem c_X9_readAny {f : Nat} {d : Int} (hd : 0 ≤ d ∧ d ≤ 20) (ih : cAll f d) {σ : jS} {t : Int → Int} {L m : Int} {ex : Int → Prop} {idn : Int → Int} {R : Int × Int} {n : Int} (hP : SPp σ t L m ex idn R n) : Jm (14 + 3 * f) miX9_readAny [.ref 51, .ref 1, .ref 28, vI d] σ (fun r τ => r = none ∧ SPo σ t L m (pAn t L m (pO t L m ex idn f d) R n) τ) := by
  refine jm_ofF (Po := (fun r τ => r = none ∧ SPo σ t L m (pAn t L m (pO t L m ex idn f d) R n) τ)) (plainFor_of_name (by decide)) (Nat.le_of_ble_eq_true rfl) (lv := [(0, _), (1, _), (2, _), (3, _)]) rfl ?_
  refine r_aload_n (dc dkX9_readAny 0 rfl) rfl (np 1 rfl ?_)
  refine r_aload_n (dc dkX9_readAny 1 rfl) rfl (np 2 rfl ?_)
  refine r_aload_n (dc dkX9_readAny 2 rfl) rfl (np 3 rfl ?_)
  refine r_iload_n (dc dkX9_readAny 3 rfl) rfl (np 4 rfl ?_)
  refine r_cV3 (y' := miX9_readAll) (dc dkX9_readAny 4 rfl) mlX9_28 ceX9_readAll ob_51 (by omega) (Nat.le_of_ble_eq_true rfl) (ih hP) (fun r τ1 hp1 => (np 7 rfl ?_))
  obtain ⟨rfl, hx1⟩ := hp1
  refine r_iconst (dc dkX9_readAny 5 rfl) (np 8 rfl ?_)
  refine r_istore (lv' := [(4, _), (0, _), (1, _), (2, _), (3, _)]) (dc dkX9_readAny 6 rfl) (Nat.le_of_ble_eq_true rfl) rfl (np 10 rfl ?_)
  refine r_pick [1, 2, 3, 4, 0] (lv' := [(0, _), (1, _), (2, _), (3, _), (4, _)]) rfl ?_
  refine jlp2 (P := fun (i : Int) (τ : jS) => jR _ _ _ 10 [(0, .ref 51), (1, .ref 1), (2, .ref 28), (3, vI d), (4, vI i)] [] τ) (I := fun (i : Int) (τ : jS) => (0 ≤ i ∧ i ≤ 20) ∧ ∃ x : X3, SPo σ t L m x τ ∧ pAn t L m (pO t L m ex idn f d) R n = lpF t L m (pAl t L m (pO t L m ex idn f d)) 106 Or (20 - i).toNat x) (fun (i : Int) (τ : jS) => (20 - i).toNat) ?_ _ _ ⟨by omega, _, hx1, rfl⟩
  intro i τ hI10 ih10
  obtain ⟨hb, x, hx, hF⟩ := hI10
  refine r_iload (dc dkX9_readAny 7 rfl) rfl (np 12 rfl ?_)
  refine r_bipush (dc dkX9_readAny 8 rfl) bp_20 (np 14 rfl ?_)
  refine r_icmp_ge (tgt := 51) (dc dkX9_readAny 9 rfl) rfl (by first | assumption | decide | omega) (by first | assumption | decide | omega) (fun h14 => ?_) (fun h14 => (np 17 rfl ?_))
  · skip
    exact r_vret (dc dkX9_readAny 28 rfl) rfl (by first | exact ⟨rfl, by rw [hF, lpF_n h23]; exact hx⟩ | exact ⟨rfl, by rw [hF, show (20 - i).toNat = 0 by omega]; exact hx⟩)
  refine r_aload_n (dc dkX9_readAny 10 rfl) rfl (np 18 rfl ?_)
  refine r_bipush (dc dkX9_readAny 11 rfl) bp_106 (np 20 rfl ?_)
  refine r_pV1 (y' := miX8_sees) (dc dkX9_readAny 12 rfl) mlX9_32 ceX8_sees ob_1 (by omega) (Nat.le_of_ble_eq_true rfl) (c_X8_sees hx.2.1 (by decide)) (np 23 rfl ?_)
  refine r_bz (tgt := 51) (dc dkX9_readAny 13 rfl) rfl (fun h23 => ?_) (fun h23 => (np 26 rfl ?_))
  · skip
    exact r_vret (dc dkX9_readAny 28 rfl) rfl (by first | exact ⟨rfl, by rw [hF, lpF_n h23]; exact hx⟩ | exact ⟨rfl, by rw [hF, show (20 - i).toNat = 0 by omega]; exact hx⟩)
  refine r_aload_n (dc dkX9_readAny 14 rfl) rfl (np 27 rfl ?_)
  refine r_cV0 (y' := miX8_step) (dc dkX9_readAny 15 rfl) mlX9_38 ceX8_step ob_1 (by omega) (Nat.le_of_ble_eq_true rfl) (c_X8_step hx.2.1) (fun r τ3 hp3 => (np 30 rfl ?_))
  obtain ⟨rfl, hs3, hR3⟩ := hp3
  refine r_aload_n (dc dkX9_readAny 16 rfl) rfl (np 31 rfl ?_)
  refine r_aload_n (dc dkX9_readAny 17 rfl) rfl (np 32 rfl ?_)
  refine r_aload_n (dc dkX9_readAny 18 rfl) rfl (np 33 rfl ?_)
  refine r_iload_n (dc dkX9_readAny 19 rfl) rfl (np 34 rfl ?_)
  refine r_cV3 (y' := miX9_readAll) (dc dkX9_readAny 20 rfl) mlX9_28 ceX9_readAll ob_51 (by omega) (Nat.le_of_ble_eq_true rfl) (ih (SP_step hP hx h23.1 hs3 hR3)) (fun r τ4 hp4 => (np 37 rfl ?_))
  obtain ⟨rfl, hy⟩ := hp4
  refine r_aload_n (dc dkX9_readAny 21 rfl) rfl (np 38 rfl ?_)
  refine r_bipush (dc dkX9_readAny 22 rfl) bp_106 (np 40 rfl ?_)
  refine r_iconst (dc dkX9_readAny 23 rfl) (np 41 rfl ?_)
  refine r_iconst (dc dkX9_readAny 24 rfl) (np 42 rfl ?_)
  refine r_cV3 (y' := miX9_put) (dc dkX9_readAny 25 rfl) mlX9_41 ceX9_put ob_51 (by omega) (Nat.le_of_ble_eq_true rfl) (c_X9_put hy.2.2.1) (fun r τ5 hp5 => (np 45 rfl ?_))
  obtain ⟨rfl, hs5, o5, b5, p5⟩ := hp5
  refine r_iinc (lv' := [(4, _), (0, _), (1, _), (2, _), (3, _)]) (dc dkX9_readAny 26 rfl) (Nat.le_of_ble_eq_true rfl) rfl rfl (np 48 rfl ?_)
  refine r_goto (tgt := 10) (dc dkX9_readAny 27 rfl) rfl ?_
  refine r_pick [1, 2, 3, 4, 0] rfl ?_
  exact ih10 _ _ ⟨by omega, _, SP_join (w := 106) (J := Or) (fun f a b c k k2 e e2 h1 h2 h3 => rpC_or h1 h2 (by omega)) (by decide) hP hx h23.1 hs3 hy hs5 o5 b5 p5, by rw [hF, show (20 - i).toNat = (20 - (i + 1)).toNat + 1 by omega, lpF_y h23]⟩ (by omega)
set_option maxRecDepth 100000 in
set_option maxHeartbeats 4000000 in
theorem c_X9_readOne {f : Nat} {d : Int} (hd : (f : Int) + d = 9) (hd1 : 1 ≤ d) (ih : 0 < f → cOne f (d + 1)) (ia : 0 < f → cAny f (d + 1)) {σ : jS} {t : Int → Int} {L m : Int} {ex : Int → Prop} {idn : Int → Int} {R : Int × Int} {n : Int} (hP : SPp σ t L m ex idn R n) : Jm (12 + 3 * (f + 1)) miX9_readOne [.ref 51, .ref 1, .ref 28, vI d] σ (fun r τ => r = none ∧ SPo σ t L m (pO t L m ex idn (f + 1) d R n) τ) := by
  have hP0 := hP
  obtain ⟨p1, p2, p3, p4, p5, p6, p7⟩ := hP
  have ek := rd_k p1 p2
  have kb := tK_b (t := t) (L := L) (m := m) (p := R.2)
  have hR := p1
  refine jm_ofF (Po := (fun r τ => r = none ∧ SPo σ t L m (pO t L m ex idn (f + 1) d R n) τ)) (plainFor_of_name (by decide)) (Nat.le_of_ble_eq_true rfl) (lv := [(0, _), (1, _), (2, _), (3, _)]) rfl ?_
  refine r_aload_n (dc dkX9_readOne 0 rfl) rfl (np 1 rfl ?_)
  refine r_gI 4 (dc dkX9_readOne 1 rfl) flX9_48 fd_1_4 rfl (np 4 rfl ?_)
  refine r_eqI (tK t L m R.2) ek ?_
  refine r_istore (lv' := [(4, _), (0, _), (1, _), (2, _), (3, _)]) (dc dkX9_readOne 2 rfl) (Nat.le_of_ble_eq_true rfl) rfl (np 6 rfl ?_)
  refine r_iload (dc dkX9_readOne 3 rfl) rfl (np 8 rfl ?_)
  have jj55 : ∀ τ2 : jS, same [1] σ τ2 ∧ rd t L m (on0 t L m d R n) τ2 → jR (12 + 3 * (f + 1)) miX9_readOne (fun r τ => r = none ∧ SPo σ t L m (pO t L m ex idn (f + 1) d R n) τ) 55 [(0, .ref 51), (1, .ref 1), (2, .ref 28), (3, vI d), (4, vI (tK t L m R.2))] [] τ2 := by
    intro τ2 hq
    obtain ⟨hs2, hR2⟩ := hq
    refine r_aload_n (dc dkX9_readOne 26 rfl) rfl (np 56 rfl ?_)
    refine r_pV0 (y' := miX8_isFine) (dc dkX9_readOne 27 rfl) mlX9_55 ceX8_isFine ob_1 (by omega) (Nat.le_of_ble_eq_true rfl) (c_X8_isFine hR2) (np 59 rfl ?_)
    refine r_bn (tgt := 63) (dc dkX9_readOne 28 rfl) rfl (fun h59 => ?_) (fun h59 => (np 62 rfl ?_))
    · skip
      refine r_aload_n (dc dkX9_readOne 30 rfl) rfl (np 64 rfl ?_)
      refine r_dup (dc dkX9_readOne 31 rfl) rfl (np 65 rfl ?_)
      refine r_gI 1 (dc dkX9_readOne 32 rfl) flX9_15 fd_51_1 rfl (np 68 rfl ?_)
      refine r_iconst (dc dkX9_readOne 33 rfl) (np 69 rfl ?_)
      refine r_iadd (dc dkX9_readOne 34 rfl) (np 70 rfl ?_)
      refine r_pI 1 (dc dkX9_readOne 35 rfl) fpX9_15 fd_51_1 rfl (np 73 rfl ?_)
      refine r_aload_n (dc dkX9_readOne 36 rfl) rfl (np 74 rfl ?_)
      refine r_cV0 (y' := miX8_step) (dc dkX9_readOne 37 rfl) mlX9_38 ceX8_step ob_1 (by omega) (Nat.le_of_ble_eq_true rfl) (c_X8_step (rd_ju hR2 (by decide))) (fun r τ3 hp3 => (np 77 rfl ?_))
      obtain ⟨rfl, hs3, hR3⟩ := hp3
      obtain ⟨k, n20, d8, _, hon⟩ := on0_0 h59
      rw [hon] at hR3
      have S3 : ∀ c, ¬ c = 1 → ¬ c = 51 → τ3 c = σ c := fun c h1 h2 => by rw [hs3 c (by simpa using h1), ju_off _ _ _ _ _ h2, hs2 c (by simpa using h1)]
      have n3 : τ3 51 1 = n + 1 := by rw [hs3 51 (by decide), ju_at, hs2 51 (by decide), p3]
      have z3 : τ3 51 0 = σ 51 0 := by rw [hs3 51 (by decide), ju_ne (by decide), hs2 51 (by decide)]
      have hPO : pO t L m ex idn (f + 1) d R n = pB t L m ex idn (pO t L m ex idn f (d + 1)) (pAn t L m (pO t L m ex idn f (d + 1))) (tK t L m R.2) (stR t L m R) (n + 1) := by rw [pO, gte_t h59]
      have sn3 : SPn τ3 ex idn := SPn_s p7 (X := [1, 51]) (fun c hc => S3 c (by simp at hc; omega) (by simp at hc; omega)) (by decide) (by decide) (by decide) (by decide) (by decide) (by decide)
      have r3 : (stR t L m R).1 = 0 := by rw [stR_f]; exact p2
      have SP3 : SPp τ3 t L m ex idn (stR t L m R) (n + 1) := ⟨hR3, r3, n3, by omega, by omega, by omega, sn3⟩
      have fpos : 0 < f := by omega
      refine r_iload (dc dkX9_readOne 38 rfl) rfl (np 79 rfl ?_)
      refine r_bipush (dc dkX9_readOne 39 rfl) bp_108 (np 81 rfl ?_)
      refine r_icmp_ne (tgt := 104) (dc dkX9_readOne 40 rfl) rfl (by first | assumption | decide | omega) (by first | assumption | decide | omega) (fun h81 => ?_) (fun h81 => (np 84 rfl ?_))
      · skip
        refine r_iload (dc dkX9_readOne 54 rfl) rfl (np 106 rfl ?_)
        refine r_bipush (dc dkX9_readOne 55 rfl) bp_40 (np 108 rfl ?_)
        refine r_icmp_ne (tgt := 129) (dc dkX9_readOne 56 rfl) rfl (by first | assumption | decide | omega) (by first | assumption | decide | omega) (fun h108 => ?_) (fun h108 => (np 111 rfl ?_))
        · skip
          refine r_iload (dc dkX9_readOne 68 rfl) rfl (np 131 rfl ?_)
          have jj143 : tK t L m R.2 = 109 ∨ tK t L m R.2 = 110 → jR (12 + 3 * (f + 1)) miX9_readOne (fun r τ => r = none ∧ SPo σ t L m (pO t L m ex idn (f + 1) d R n) τ) 143 [(0, .ref 51), (1, .ref 1), (2, .ref 28), (3, vI d), (4, vI (tK t L m R.2))] [] τ3 := by
            intro k9
            refine r_aload_n (dc dkX9_readOne 74 rfl) rfl (np 144 rfl ?_)
            refine r_aload_n (dc dkX9_readOne 75 rfl) rfl (np 145 rfl ?_)
            refine r_aload_n (dc dkX9_readOne 76 rfl) rfl (np 146 rfl ?_)
            refine r_iload (dc dkX9_readOne 77 rfl) rfl (np 148 rfl ?_)
            refine r_cV3 (y' := miX9_readBandName) (dc dkX9_readOne 78 rfl) mlX9_65 ceX9_readBandName ob_51 (by omega) (Nat.le_of_ble_eq_true rfl) (c_X9_readBandName (n := 0) hR3 r3 sn3 k9 (by omega) (by omega)) (fun r τ4 hp4 => (np 151 rfl ?_))
            obtain ⟨rfl, s4, R4, b4, o4, p44⟩ := hp4
            refine r_goto (tgt := 179) (dc dkX9_readOne 79 rfl) rfl ?_
            exact r_vret (dc dkX9_readOne 93 rfl) rfl (by
                first
                | (have e : pO t L m ex idn (f + 1) d R n = ((pO t L m ex idn f (d + 1) (stR t L m R) (n + 1)).1, (pO t L m ex idn f (d + 1) (stR t L m R) (n + 1)).2.1, fun v => ¬ (pO t L m ex idn f (d + 1) (stR t L m R) (n + 1)).2.2 v) := by rw [hPO, pB, gte_t h81]
                   rw [e]
                   obtain ⟨y1, y2, y3, y4, y5⟩ := hy
                   refine ⟨rfl, fun c hc => ?_, rd_s y2 hs5 (by decide) (by decide) (by decide), b5, by rw [o5]; exact y4, fun z => ?_⟩
                   · have hc2 := hc
                     simp at hc2
                     rw [hs5 c (by simp; omega), y1 c hc, S3 c (by omega) (by omega)]
                   · obtain ⟨y6, y7, y8, y9, y10, y11⟩ := y5 z
                     rw [z3] at y8 y9 y10 y11
                     rw [n3] at y7 y9
                     rw [S3 52 (by decide) (by decide)] at y10
                     obtain ⟨r1, r2, r3⟩ := p5 (by omega)
                     refine ⟨by rw [o5]; exact y6, by rw [p3]; show n < (pO t L m ex idn f (d + 1) (stR t L m R) (n + 1)).2.1; omega, by omega, ?_, fun j hj => by rw [r3 j (by omega), y10 j hj], ?_⟩
                     · show τ5 51 0 ≤ σ 51 0 + 2 * ((pO t L m ex idn f (d + 1) (stR t L m R) (n + 1)).2.1 - σ 51 1) - 1
                       omega
                     · rw [r1]
                       exact rpC_m (rpC_not (rpC_c y11 (fun j j0 j1 => r3 j (by omega))) (by rw [r2]; decide)) (by rw [n3]; show _ ≤ (pO t L m ex idn f (d + 1) (stR t L m R) (n + 1)).2.1 - σ 51 1; omega))
                | (have e : pO t L m ex idn (f + 1) d R n = (xpR t L m 41 (pAn t L m (pO t L m ex idn f (d + 1)) (stR t L m R) (n + 1)).1, (pAn t L m (pO t L m ex idn f (d + 1)) (stR t L m R) (n + 1)).2.1, (pAn t L m (pO t L m ex idn f (d + 1)) (stR t L m R) (n + 1)).2.2) := by rw [hPO, pB, gte_f h81, gte_t h108]
                   rw [e]
                   obtain ⟨y1, y2, y3, y4, y5⟩ := hy
                   refine ⟨rfl, fun c hc => ?_, hR5, by rw [hs5 51 (by decide)]; exact y3, by rw [hs5 51 (by decide)]; exact y4, fun z => ?_⟩
                   · have hc2 := hc
                     simp at hc2
                     rw [hs5 c (by simp; omega), y1 c hc, S3 c (by omega) (by omega)]
                   · obtain ⟨y6, y7, y8, y9, y10, y11⟩ := y5 (xpR_f z).1.1
                     rw [z3] at y8 y9 y10 y11
                     rw [n3] at y7 y9
                     rw [S3 52 (by decide) (by decide)] at y10
                     rw [hs5 51 (by decide), hs5 52 (by decide)]
                     refine ⟨y6, by rw [p3]; show n < (pAn t L m (pO t L m ex idn f (d + 1)) (stR t L m R) (n + 1)).2.1; omega, y8, ?_, y10, rpC_m y11 (by rw [n3]; show _ ≤ (pAn t L m (pO t L m ex idn f (d + 1)) (stR t L m R) (n + 1)).2.1 - σ 51 1; omega)⟩
                     show τ4 51 0 ≤ σ 51 0 + 2 * ((pAn t L m (pO t L m ex idn f (d + 1)) (stR t L m R) (n + 1)).2.1 - σ 51 1) - 1
                     omega)
                | (have e : pO t L m ex idn (f + 1) d R n = (nmB t L m ex (stR t L m R), n + 1, fun v => v ((tK t L m R.2 - 100) * 3000 + idn (wQ t L m (stR t L m R).2))) := by rw [hPO, pB, gte_f (by omega), gte_f (by omega), gte_t k9]
                   rw [e]
                   refine ⟨rfl, ?_⟩
                   by_cases z : (nmB t L m ex (stR t L m R)).1 = 0
                   · have q := p44 z
                     exact SP_one S3 z3 n3 p3 (by omega) s4 R4 b4 o4 (by omega) (fun _ => by omega) (fun _ => ⟨q.1, q.2.1, q.2.2.2⟩)
                   · refine ⟨fun c hc => ?_, R4, b4, by omega, fun y => absurd y z⟩
                     have hc2 := hc
                     simp at hc2
                     rw [s4 c hc, S3 c (by omega) (by omega)])
                | (have e : pO t L m ex idn (f + 1) d R n = (stR t L m R, n + 1, fun v => v 33000) := by rw [hPO, pB, gte_f (by omega), gte_f (by omega), gte_f (by omega), gte_t (by omega)]
                   rw [e]
                   have q := p4 (by omega)
                   exact ⟨rfl, SP_one S3 z3 n3 p3 (by omega) (hs4.wide (by decide)) (rd_s hR3 hs4 (by decide) (by decide) (by decide)) b4 o4 (by decide) (fun _ => by decide) (fun _ => q)⟩)
                | (have e : pO t L m ex idn (f + 1) d R n = (ms2 t L m (stR t L m R), n + 1, fun v => v ((tK t L m R.2 - 100) * 3000 + (tK t L m (stR t L m R).2 - 60) * 1000 + nQ t L m (ms1 t L m (stR t L m R)).2)) := by rw [hPO, pB, gte_f (by omega), gte_f (by omega), gte_f (by omega), gte_f (by omega)]
                   rw [e]
                   refine ⟨rfl, ?_⟩
                   by_cases z : (ms2 t L m (stR t L m R)).1 = 0
                   · have q := p44 z
                     exact SP_one S3 z3 n3 p3 (by omega) s4 R4 b4 o4 (by omega) (fun _ => by omega) (fun _ => ⟨q.1, q.2.1, q.2.2.2.2⟩)
                   · refine ⟨fun c hc => ?_, R4, b4, by omega, fun y => absurd y z⟩
                     have hc2 := hc
                     simp at hc2
                     rw [s4 c hc, S3 c (by omega) (by omega)]))
          refine r_bipush (dc dkX9_readOne 69 rfl) bp_109 (np 133 rfl ?_)
          refine r_icmp_eq (tgt := 143) (dc dkX9_readOne 70 rfl) rfl (by first | assumption | decide | omega) (by first | assumption | decide | omega) (fun h133 => ?_) (fun h133 => (np 136 rfl ?_))
          · skip
            refine r_pick [0, 1, 2, 3, 4] rfl ?_
            exact jj143 (by omega)
          refine r_iload (dc dkX9_readOne 71 rfl) rfl (np 138 rfl ?_)
          refine r_bipush (dc dkX9_readOne 72 rfl) bp_110 (np 140 rfl ?_)
          refine r_icmp_ne (tgt := 154) (dc dkX9_readOne 73 rfl) rfl (by first | assumption | decide | omega) (by first | assumption | decide | omega) (fun h140 => ?_) (fun h140 => (np 143 rfl ?_))
          · skip
            refine r_iload (dc dkX9_readOne 80 rfl) rfl (np 156 rfl ?_)
            refine r_bipush (dc dkX9_readOne 81 rfl) bp_111 (np 158 rfl ?_)
            refine r_icmp_ne (tgt := 172) (dc dkX9_readOne 82 rfl) rfl (by first | assumption | decide | omega) (by first | assumption | decide | omega) (fun h158 => ?_) (fun h158 => (np 161 rfl ?_))
            · skip
              refine r_aload_n (dc dkX9_readOne 89 rfl) rfl (np 173 rfl ?_)
              refine r_aload_n (dc dkX9_readOne 90 rfl) rfl (np 174 rfl ?_)
              refine r_iload (dc dkX9_readOne 91 rfl) rfl (np 176 rfl ?_)
              refine r_cV2 (y' := miX9_readMeasure) (dc dkX9_readOne 92 rfl) mlX9_68 ceX9_readMeasure ob_51 (by omega) (Nat.le_of_ble_eq_true rfl) (c_X9_readMeasure hR3 r3 (by omega) (by omega) (by omega)) (fun r τ4 hp4 => (np 179 rfl ?_))
              obtain ⟨rfl, s4, R4, b4, o4, p44⟩ := hp4
              exact r_vret (dc dkX9_readOne 93 rfl) rfl (by
                  first
                  | (have e : pO t L m ex idn (f + 1) d R n = ((pO t L m ex idn f (d + 1) (stR t L m R) (n + 1)).1, (pO t L m ex idn f (d + 1) (stR t L m R) (n + 1)).2.1, fun v => ¬ (pO t L m ex idn f (d + 1) (stR t L m R) (n + 1)).2.2 v) := by rw [hPO, pB, gte_t h81]
                     rw [e]
                     obtain ⟨y1, y2, y3, y4, y5⟩ := hy
                     refine ⟨rfl, fun c hc => ?_, rd_s y2 hs5 (by decide) (by decide) (by decide), b5, by rw [o5]; exact y4, fun z => ?_⟩
                     · have hc2 := hc
                       simp at hc2
                       rw [hs5 c (by simp; omega), y1 c hc, S3 c (by omega) (by omega)]
                     · obtain ⟨y6, y7, y8, y9, y10, y11⟩ := y5 z
                       rw [z3] at y8 y9 y10 y11
                       rw [n3] at y7 y9
                       rw [S3 52 (by decide) (by decide)] at y10
                       obtain ⟨r1, r2, r3⟩ := p5 (by omega)
                       refine ⟨by rw [o5]; exact y6, by rw [p3]; show n < (pO t L m ex idn f (d + 1) (stR t L m R) (n + 1)).2.1; omega, by omega, ?_, fun j hj => by rw [r3 j (by omega), y10 j hj], ?_⟩
                       · show τ5 51 0 ≤ σ 51 0 + 2 * ((pO t L m ex idn f (d + 1) (stR t L m R) (n + 1)).2.1 - σ 51 1) - 1
                         omega
                       · rw [r1]
                         exact rpC_m (rpC_not (rpC_c y11 (fun j j0 j1 => r3 j (by omega))) (by rw [r2]; decide)) (by rw [n3]; show _ ≤ (pO t L m ex idn f (d + 1) (stR t L m R) (n + 1)).2.1 - σ 51 1; omega))
                  | (have e : pO t L m ex idn (f + 1) d R n = (xpR t L m 41 (pAn t L m (pO t L m ex idn f (d + 1)) (stR t L m R) (n + 1)).1, (pAn t L m (pO t L m ex idn f (d + 1)) (stR t L m R) (n + 1)).2.1, (pAn t L m (pO t L m ex idn f (d + 1)) (stR t L m R) (n + 1)).2.2) := by rw [hPO, pB, gte_f h81, gte_t h108]
                     rw [e]
                     obtain ⟨y1, y2, y3, y4, y5⟩ := hy
                     refine ⟨rfl, fun c hc => ?_, hR5, by rw [hs5 51 (by decide)]; exact y3, by rw [hs5 51 (by decide)]; exact y4, fun z => ?_⟩
                     · have hc2 := hc
                       simp at hc2
                       rw [hs5 c (by simp; omega), y1 c hc, S3 c (by omega) (by omega)]
                     · obtain ⟨y6, y7, y8, y9, y10, y11⟩ := y5 (xpR_f z).1.1
                       rw [z3] at y8 y9 y10 y11
                       rw [n3] at y7 y9
                       rw [S3 52 (by decide) (by decide)] at y10
                       rw [hs5 51 (by decide), hs5 52 (by decide)]
                       refine ⟨y6, by rw [p3]; show n < (pAn t L m (pO t L m ex idn f (d + 1)) (stR t L m R) (n + 1)).2.1; omega, y8, ?_, y10, rpC_m y11 (by rw [n3]; show _ ≤ (pAn t L m (pO t L m ex idn f (d + 1)) (stR t L m R) (n + 1)).2.1 - σ 51 1; omega)⟩
                       show τ4 51 0 ≤ σ 51 0 + 2 * ((pAn t L m (pO t L m ex idn f (d + 1)) (stR t L m R) (n + 1)).2.1 - σ 51 1) - 1
                       omega)
                  | (have e : pO t L m ex idn (f + 1) d R n = (nmB t L m ex (stR t L m R), n + 1, fun v => v ((tK t L m R.2 - 100) * 3000 + idn (wQ t L m (stR t L m R).2))) := by rw [hPO, pB, gte_f (by omega), gte_f (by omega), gte_t k9]
                     rw [e]
                     refine ⟨rfl, ?_⟩
                     by_cases z : (nmB t L m ex (stR t L m R)).1 = 0
                     · have q := p44 z
                       exact SP_one S3 z3 n3 p3 (by omega) s4 R4 b4 o4 (by omega) (fun _ => by omega) (fun _ => ⟨q.1, q.2.1, q.2.2.2⟩)
                     · refine ⟨fun c hc => ?_, R4, b4, by omega, fun y => absurd y z⟩
                       have hc2 := hc
                       simp at hc2
                       rw [s4 c hc, S3 c (by omega) (by omega)])
                  | (have e : pO t L m ex idn (f + 1) d R n = (stR t L m R, n + 1, fun v => v 33000) := by rw [hPO, pB, gte_f (by omega), gte_f (by omega), gte_f (by omega), gte_t (by omega)]
                     rw [e]
                     have q := p4 (by omega)
                     exact ⟨rfl, SP_one S3 z3 n3 p3 (by omega) (hs4.wide (by decide)) (rd_s hR3 hs4 (by decide) (by decide) (by decide)) b4 o4 (by decide) (fun _ => by decide) (fun _ => q)⟩)
                  | (have e : pO t L m ex idn (f + 1) d R n = (ms2 t L m (stR t L m R), n + 1, fun v => v ((tK t L m R.2 - 100) * 3000 + (tK t L m (stR t L m R).2 - 60) * 1000 + nQ t L m (ms1 t L m (stR t L m R)).2)) := by rw [hPO, pB, gte_f (by omega), gte_f (by omega), gte_f (by omega), gte_f (by omega)]
                     rw [e]
                     refine ⟨rfl, ?_⟩
                     by_cases z : (ms2 t L m (stR t L m R)).1 = 0
                     · have q := p44 z
                       exact SP_one S3 z3 n3 p3 (by omega) s4 R4 b4 o4 (by omega) (fun _ => by omega) (fun _ => ⟨q.1, q.2.1, q.2.2.2.2⟩)
                     · refine ⟨fun c hc => ?_, R4, b4, by omega, fun y => absurd y z⟩
                       have hc2 := hc
                       simp at hc2
                       rw [s4 c hc, S3 c (by omega) (by omega)]))
            refine r_aload_n (dc dkX9_readOne 83 rfl) rfl (np 162 rfl ?_)
            refine r_bipush (dc dkX9_readOne 84 rfl) bp_111 (np 164 rfl ?_)
            refine r_iconst (dc dkX9_readOne 85 rfl) (np 165 rfl ?_)
            refine r_iconst (dc dkX9_readOne 86 rfl) (np 166 rfl ?_)
            refine r_cV3 (y' := miX9_put) (dc dkX9_readOne 87 rfl) mlX9_41 ceX9_put ob_51 (by omega) (Nat.le_of_ble_eq_true rfl) (c_X9_put (by omega)) (fun r τ4 hp4 => (np 169 rfl ?_))
            obtain ⟨rfl, hs4, o4, b4, p4⟩ := hp4
            refine r_goto (tgt := 179) (dc dkX9_readOne 88 rfl) rfl ?_
            exact r_vret (dc dkX9_readOne 93 rfl) rfl (by
                first
                | (have e : pO t L m ex idn (f + 1) d R n = ((pO t L m ex idn f (d + 1) (stR t L m R) (n + 1)).1, (pO t L m ex idn f (d + 1) (stR t L m R) (n + 1)).2.1, fun v => ¬ (pO t L m ex idn f (d + 1) (stR t L m R) (n + 1)).2.2 v) := by rw [hPO, pB, gte_t h81]
                   rw [e]
                   obtain ⟨y1, y2, y3, y4, y5⟩ := hy
                   refine ⟨rfl, fun c hc => ?_, rd_s y2 hs5 (by decide) (by decide) (by decide), b5, by rw [o5]; exact y4, fun z => ?_⟩
                   · have hc2 := hc
                     simp at hc2
                     rw [hs5 c (by simp; omega), y1 c hc, S3 c (by omega) (by omega)]
                   · obtain ⟨y6, y7, y8, y9, y10, y11⟩ := y5 z
                     rw [z3] at y8 y9 y10 y11
                     rw [n3] at y7 y9
                     rw [S3 52 (by decide) (by decide)] at y10
                     obtain ⟨r1, r2, r3⟩ := p5 (by omega)
                     refine ⟨by rw [o5]; exact y6, by rw [p3]; show n < (pO t L m ex idn f (d + 1) (stR t L m R) (n + 1)).2.1; omega, by omega, ?_, fun j hj => by rw [r3 j (by omega), y10 j hj], ?_⟩
                     · show τ5 51 0 ≤ σ 51 0 + 2 * ((pO t L m ex idn f (d + 1) (stR t L m R) (n + 1)).2.1 - σ 51 1) - 1
                       omega
                     · rw [r1]
                       exact rpC_m (rpC_not (rpC_c y11 (fun j j0 j1 => r3 j (by omega))) (by rw [r2]; decide)) (by rw [n3]; show _ ≤ (pO t L m ex idn f (d + 1) (stR t L m R) (n + 1)).2.1 - σ 51 1; omega))
                | (have e : pO t L m ex idn (f + 1) d R n = (xpR t L m 41 (pAn t L m (pO t L m ex idn f (d + 1)) (stR t L m R) (n + 1)).1, (pAn t L m (pO t L m ex idn f (d + 1)) (stR t L m R) (n + 1)).2.1, (pAn t L m (pO t L m ex idn f (d + 1)) (stR t L m R) (n + 1)).2.2) := by rw [hPO, pB, gte_f h81, gte_t h108]
                   rw [e]
                   obtain ⟨y1, y2, y3, y4, y5⟩ := hy
                   refine ⟨rfl, fun c hc => ?_, hR5, by rw [hs5 51 (by decide)]; exact y3, by rw [hs5 51 (by decide)]; exact y4, fun z => ?_⟩
                   · have hc2 := hc
                     simp at hc2
                     rw [hs5 c (by simp; omega), y1 c hc, S3 c (by omega) (by omega)]
                   · obtain ⟨y6, y7, y8, y9, y10, y11⟩ := y5 (xpR_f z).1.1
                     rw [z3] at y8 y9 y10 y11
                     rw [n3] at y7 y9
                     rw [S3 52 (by decide) (by decide)] at y10
                     rw [hs5 51 (by decide), hs5 52 (by decide)]
                     refine ⟨y6, by rw [p3]; show n < (pAn t L m (pO t L m ex idn f (d + 1)) (stR t L m R) (n + 1)).2.1; omega, y8, ?_, y10, rpC_m y11 (by rw [n3]; show _ ≤ (pAn t L m (pO t L m ex idn f (d + 1)) (stR t L m R) (n + 1)).2.1 - σ 51 1; omega)⟩
                     show τ4 51 0 ≤ σ 51 0 + 2 * ((pAn t L m (pO t L m ex idn f (d + 1)) (stR t L m R) (n + 1)).2.1 - σ 51 1) - 1
                     omega)
                | (have e : pO t L m ex idn (f + 1) d R n = (nmB t L m ex (stR t L m R), n + 1, fun v => v ((tK t L m R.2 - 100) * 3000 + idn (wQ t L m (stR t L m R).2))) := by rw [hPO, pB, gte_f (by omega), gte_f (by omega), gte_t k9]
                   rw [e]
                   refine ⟨rfl, ?_⟩
                   by_cases z : (nmB t L m ex (stR t L m R)).1 = 0
                   · have q := p44 z
                     exact SP_one S3 z3 n3 p3 (by omega) s4 R4 b4 o4 (by omega) (fun _ => by omega) (fun _ => ⟨q.1, q.2.1, q.2.2.2⟩)
                   · refine ⟨fun c hc => ?_, R4, b4, by omega, fun y => absurd y z⟩
                     have hc2 := hc
                     simp at hc2
                     rw [s4 c hc, S3 c (by omega) (by omega)])
                | (have e : pO t L m ex idn (f + 1) d R n = (stR t L m R, n + 1, fun v => v 33000) := by rw [hPO, pB, gte_f (by omega), gte_f (by omega), gte_f (by omega), gte_t (by omega)]
                   rw [e]
                   have q := p4 (by omega)
                   exact ⟨rfl, SP_one S3 z3 n3 p3 (by omega) (hs4.wide (by decide)) (rd_s hR3 hs4 (by decide) (by decide) (by decide)) b4 o4 (by decide) (fun _ => by decide) (fun _ => q)⟩)
                | (have e : pO t L m ex idn (f + 1) d R n = (ms2 t L m (stR t L m R), n + 1, fun v => v ((tK t L m R.2 - 100) * 3000 + (tK t L m (stR t L m R).2 - 60) * 1000 + nQ t L m (ms1 t L m (stR t L m R)).2)) := by rw [hPO, pB, gte_f (by omega), gte_f (by omega), gte_f (by omega), gte_f (by omega)]
                   rw [e]
                   refine ⟨rfl, ?_⟩
                   by_cases z : (ms2 t L m (stR t L m R)).1 = 0
                   · have q := p44 z
                     exact SP_one S3 z3 n3 p3 (by omega) s4 R4 b4 o4 (by omega) (fun _ => by omega) (fun _ => ⟨q.1, q.2.1, q.2.2.2.2⟩)
                   · refine ⟨fun c hc => ?_, R4, b4, by omega, fun y => absurd y z⟩
                     have hc2 := hc
                     simp at hc2
                     rw [s4 c hc, S3 c (by omega) (by omega)]))
          refine r_pick [0, 1, 2, 3, 4] rfl ?_
          exact jj143 (by omega)
        refine r_aload_n (dc dkX9_readOne 57 rfl) rfl (np 112 rfl ?_)
        refine r_aload_n (dc dkX9_readOne 58 rfl) rfl (np 113 rfl ?_)
        refine r_aload_n (dc dkX9_readOne 59 rfl) rfl (np 114 rfl ?_)
        refine r_iload_n (dc dkX9_readOne 60 rfl) rfl (np 115 rfl ?_)
        refine r_iconst (dc dkX9_readOne 61 rfl) (np 116 rfl ?_)
        refine r_iadd (dc dkX9_readOne 62 rfl) (np 117 rfl ?_)
        refine r_cV3 (y' := miX9_readAny) (dc dkX9_readOne 63 rfl) mlX9_59 ceX9_readAny ob_51 (by omega) (Nat.le_of_ble_eq_true rfl) ((ia fpos) SP3) (fun r τ4 hp4 => (np 120 rfl ?_))
        obtain ⟨rfl, hy⟩ := hp4
        refine r_aload_n (dc dkX9_readOne 64 rfl) rfl (np 121 rfl ?_)
        refine r_bipush (dc dkX9_readOne 65 rfl) bp_41 (np 123 rfl ?_)
        refine r_cV1 (y' := miX8_expect) (dc dkX9_readOne 66 rfl) mlX9_62 ceX8_expect ob_1 (by omega) (Nat.le_of_ble_eq_true rfl) (c_X8_expect hy.2.1 (by decide)) (fun r τ5 hp5 => (np 126 rfl ?_))
        obtain ⟨rfl, hs5, hR5⟩ := hp5
        refine r_goto (tgt := 179) (dc dkX9_readOne 67 rfl) rfl ?_
        exact r_vret (dc dkX9_readOne 93 rfl) rfl (by
            first
            | (have e : pO t L m ex idn (f + 1) d R n = ((pO t L m ex idn f (d + 1) (stR t L m R) (n + 1)).1, (pO t L m ex idn f (d + 1) (stR t L m R) (n + 1)).2.1, fun v => ¬ (pO t L m ex idn f (d + 1) (stR t L m R) (n + 1)).2.2 v) := by rw [hPO, pB, gte_t h81]
               rw [e]
               obtain ⟨y1, y2, y3, y4, y5⟩ := hy
               refine ⟨rfl, fun c hc => ?_, rd_s y2 hs5 (by decide) (by decide) (by decide), b5, by rw [o5]; exact y4, fun z => ?_⟩
               · have hc2 := hc
                 simp at hc2
                 rw [hs5 c (by simp; omega), y1 c hc, S3 c (by omega) (by omega)]
               · obtain ⟨y6, y7, y8, y9, y10, y11⟩ := y5 z
                 rw [z3] at y8 y9 y10 y11
                 rw [n3] at y7 y9
                 rw [S3 52 (by decide) (by decide)] at y10
                 obtain ⟨r1, r2, r3⟩ := p5 (by omega)
                 refine ⟨by rw [o5]; exact y6, by rw [p3]; show n < (pO t L m ex idn f (d + 1) (stR t L m R) (n + 1)).2.1; omega, by omega, ?_, fun j hj => by rw [r3 j (by omega), y10 j hj], ?_⟩
                 · show τ5 51 0 ≤ σ 51 0 + 2 * ((pO t L m ex idn f (d + 1) (stR t L m R) (n + 1)).2.1 - σ 51 1) - 1
                   omega
                 · rw [r1]
                   exact rpC_m (rpC_not (rpC_c y11 (fun j j0 j1 => r3 j (by omega))) (by rw [r2]; decide)) (by rw [n3]; show _ ≤ (pO t L m ex idn f (d + 1) (stR t L m R) (n + 1)).2.1 - σ 51 1; omega))
            | (have e : pO t L m ex idn (f + 1) d R n = (xpR t L m 41 (pAn t L m (pO t L m ex idn f (d + 1)) (stR t L m R) (n + 1)).1, (pAn t L m (pO t L m ex idn f (d + 1)) (stR t L m R) (n + 1)).2.1, (pAn t L m (pO t L m ex idn f (d + 1)) (stR t L m R) (n + 1)).2.2) := by rw [hPO, pB, gte_f h81, gte_t h108]
               rw [e]
               obtain ⟨y1, y2, y3, y4, y5⟩ := hy
               refine ⟨rfl, fun c hc => ?_, hR5, by rw [hs5 51 (by decide)]; exact y3, by rw [hs5 51 (by decide)]; exact y4, fun z => ?_⟩
               · have hc2 := hc
                 simp at hc2
                 rw [hs5 c (by simp; omega), y1 c hc, S3 c (by omega) (by omega)]
               · obtain ⟨y6, y7, y8, y9, y10, y11⟩ := y5 (xpR_f z).1.1
                 rw [z3] at y8 y9 y10 y11
                 rw [n3] at y7 y9
                 rw [S3 52 (by decide) (by decide)] at y10
                 rw [hs5 51 (by decide), hs5 52 (by decide)]
                 refine ⟨y6, by rw [p3]; show n < (pAn t L m (pO t L m ex idn f (d + 1)) (stR t L m R) (n + 1)).2.1; omega, y8, ?_, y10, rpC_m y11 (by rw [n3]; show _ ≤ (pAn t L m (pO t L m ex idn f (d + 1)) (stR t L m R) (n + 1)).2.1 - σ 51 1; omega)⟩
                 show τ4 51 0 ≤ σ 51 0 + 2 * ((pAn t L m (pO t L m ex idn f (d + 1)) (stR t L m R) (n + 1)).2.1 - σ 51 1) - 1
                 omega)
            | (have e : pO t L m ex idn (f + 1) d R n = (nmB t L m ex (stR t L m R), n + 1, fun v => v ((tK t L m R.2 - 100) * 3000 + idn (wQ t L m (stR t L m R).2))) := by rw [hPO, pB, gte_f (by omega), gte_f (by omega), gte_t k9]
               rw [e]
               refine ⟨rfl, ?_⟩
               by_cases z : (nmB t L m ex (stR t L m R)).1 = 0
               · have q := p44 z
                 exact SP_one S3 z3 n3 p3 (by omega) s4 R4 b4 o4 (by omega) (fun _ => by omega) (fun _ => ⟨q.1, q.2.1, q.2.2.2⟩)
               · refine ⟨fun c hc => ?_, R4, b4, by omega, fun y => absurd y z⟩
                 have hc2 := hc
                 simp at hc2
                 rw [s4 c hc, S3 c (by omega) (by omega)])
            | (have e : pO t L m ex idn (f + 1) d R n = (stR t L m R, n + 1, fun v => v 33000) := by rw [hPO, pB, gte_f (by omega), gte_f (by omega), gte_f (by omega), gte_t (by omega)]
               rw [e]
               have q := p4 (by omega)
               exact ⟨rfl, SP_one S3 z3 n3 p3 (by omega) (hs4.wide (by decide)) (rd_s hR3 hs4 (by decide) (by decide) (by decide)) b4 o4 (by decide) (fun _ => by decide) (fun _ => q)⟩)
            | (have e : pO t L m ex idn (f + 1) d R n = (ms2 t L m (stR t L m R), n + 1, fun v => v ((tK t L m R.2 - 100) * 3000 + (tK t L m (stR t L m R).2 - 60) * 1000 + nQ t L m (ms1 t L m (stR t L m R)).2)) := by rw [hPO, pB, gte_f (by omega), gte_f (by omega), gte_f (by omega), gte_f (by omega)]
               rw [e]
               refine ⟨rfl, ?_⟩
               by_cases z : (ms2 t L m (stR t L m R)).1 = 0
               · have q := p44 z
                 exact SP_one S3 z3 n3 p3 (by omega) s4 R4 b4 o4 (by omega) (fun _ => by omega) (fun _ => ⟨q.1, q.2.1, q.2.2.2.2⟩)
               · refine ⟨fun c hc => ?_, R4, b4, by omega, fun y => absurd y z⟩
                 have hc2 := hc
                 simp at hc2
                 rw [s4 c hc, S3 c (by omega) (by omega)]))
      refine r_aload_n (dc dkX9_readOne 41 rfl) rfl (np 85 rfl ?_)
      refine r_aload_n (dc dkX9_readOne 42 rfl) rfl (np 86 rfl ?_)
      refine r_aload_n (dc dkX9_readOne 43 rfl) rfl (np 87 rfl ?_)
      refine r_iload_n (dc dkX9_readOne 44 rfl) rfl (np 88 rfl ?_)
      refine r_iconst (dc dkX9_readOne 45 rfl) (np 89 rfl ?_)
      refine r_iadd (dc dkX9_readOne 46 rfl) (np 90 rfl ?_)
      refine r_cV3 (y' := miX9_readOne) (dc dkX9_readOne 47 rfl) mlX9_45 ceX9_readOne ob_51 (by omega) (Nat.le_of_ble_eq_true rfl) ((ih fpos) SP3) (fun r τ4 hp4 => (np 93 rfl ?_))
      obtain ⟨rfl, hy⟩ := hp4
      refine r_aload_n (dc dkX9_readOne 48 rfl) rfl (np 94 rfl ?_)
      refine r_bipush (dc dkX9_readOne 49 rfl) bp_108 (np 96 rfl ?_)
      refine r_iconst (dc dkX9_readOne 50 rfl) (np 97 rfl ?_)
      refine r_iconst (dc dkX9_readOne 51 rfl) (np 98 rfl ?_)
      refine r_cV3 (y' := miX9_put) (dc dkX9_readOne 52 rfl) mlX9_41 ceX9_put ob_51 (by omega) (Nat.le_of_ble_eq_true rfl) (c_X9_put hy.2.2.1) (fun r τ5 hp5 => (np 101 rfl ?_))
      obtain ⟨rfl, hs5, o5, b5, p5⟩ := hp5
      refine r_goto (tgt := 179) (dc dkX9_readOne 53 rfl) rfl ?_
      exact r_vret (dc dkX9_readOne 93 rfl) rfl (by
          first
          | (have e : pO t L m ex idn (f + 1) d R n = ((pO t L m ex idn f (d + 1) (stR t L m R) (n + 1)).1, (pO t L m ex idn f (d + 1) (stR t L m R) (n + 1)).2.1, fun v => ¬ (pO t L m ex idn f (d + 1) (stR t L m R) (n + 1)).2.2 v) := by rw [hPO, pB, gte_t h81]
             rw [e]
             obtain ⟨y1, y2, y3, y4, y5⟩ := hy
             refine ⟨rfl, fun c hc => ?_, rd_s y2 hs5 (by decide) (by decide) (by decide), b5, by rw [o5]; exact y4, fun z => ?_⟩
             · have hc2 := hc
               simp at hc2
               rw [hs5 c (by simp; omega), y1 c hc, S3 c (by omega) (by omega)]
             · obtain ⟨y6, y7, y8, y9, y10, y11⟩ := y5 z
               rw [z3] at y8 y9 y10 y11
               rw [n3] at y7 y9
               rw [S3 52 (by decide) (by decide)] at y10
               obtain ⟨r1, r2, r3⟩ := p5 (by omega)
               refine ⟨by rw [o5]; exact y6, by rw [p3]; show n < (pO t L m ex idn f (d + 1) (stR t L m R) (n + 1)).2.1; omega, by omega, ?_, fun j hj => by rw [r3 j (by omega), y10 j hj], ?_⟩
               · show τ5 51 0 ≤ σ 51 0 + 2 * ((pO t L m ex idn f (d + 1) (stR t L m R) (n + 1)).2.1 - σ 51 1) - 1
                 omega
               · rw [r1]
                 exact rpC_m (rpC_not (rpC_c y11 (fun j j0 j1 => r3 j (by omega))) (by rw [r2]; decide)) (by rw [n3]; show _ ≤ (pO t L m ex idn f (d + 1) (stR t L m R) (n + 1)).2.1 - σ 51 1; omega))
          | (have e : pO t L m ex idn (f + 1) d R n = (xpR t L m 41 (pAn t L m (pO t L m ex idn f (d + 1)) (stR t L m R) (n + 1)).1, (pAn t L m (pO t L m ex idn f (d + 1)) (stR t L m R) (n + 1)).2.1, (pAn t L m (pO t L m ex idn f (d + 1)) (stR t L m R) (n + 1)).2.2) := by rw [hPO, pB, gte_f h81, gte_t h108]
             rw [e]
             obtain ⟨y1, y2, y3, y4, y5⟩ := hy
             refine ⟨rfl, fun c hc => ?_, hR5, by rw [hs5 51 (by decide)]; exact y3, by rw [hs5 51 (by decide)]; exact y4, fun z => ?_⟩
             · have hc2 := hc
               simp at hc2
               rw [hs5 c (by simp; omega), y1 c hc, S3 c (by omega) (by omega)]
             · obtain ⟨y6, y7, y8, y9, y10, y11⟩ := y5 (xpR_f z).1.1
               rw [z3] at y8 y9 y10 y11
               rw [n3] at y7 y9
               rw [S3 52 (by decide) (by decide)] at y10
               rw [hs5 51 (by decide), hs5 52 (by decide)]
               refine ⟨y6, by rw [p3]; show n < (pAn t L m (pO t L m ex idn f (d + 1)) (stR t L m R) (n + 1)).2.1; omega, y8, ?_, y10, rpC_m y11 (by rw [n3]; show _ ≤ (pAn t L m (pO t L m ex idn f (d + 1)) (stR t L m R) (n + 1)).2.1 - σ 51 1; omega)⟩
               show τ4 51 0 ≤ σ 51 0 + 2 * ((pAn t L m (pO t L m ex idn f (d + 1)) (stR t L m R) (n + 1)).2.1 - σ 51 1) - 1
               omega)
          | (have e : pO t L m ex idn (f + 1) d R n = (nmB t L m ex (stR t L m R), n + 1, fun v => v ((tK t L m R.2 - 100) * 3000 + idn (wQ t L m (stR t L m R).2))) := by rw [hPO, pB, gte_f (by omega), gte_f (by omega), gte_t k9]
             rw [e]
             refine ⟨rfl, ?_⟩
             by_cases z : (nmB t L m ex (stR t L m R)).1 = 0
             · have q := p44 z
               exact SP_one S3 z3 n3 p3 (by omega) s4 R4 b4 o4 (by omega) (fun _ => by omega) (fun _ => ⟨q.1, q.2.1, q.2.2.2⟩)
             · refine ⟨fun c hc => ?_, R4, b4, by omega, fun y => absurd y z⟩
               have hc2 := hc
               simp at hc2
               rw [s4 c hc, S3 c (by omega) (by omega)])
          | (have e : pO t L m ex idn (f + 1) d R n = (stR t L m R, n + 1, fun v => v 33000) := by rw [hPO, pB, gte_f (by omega), gte_f (by omega), gte_f (by omega), gte_t (by omega)]
             rw [e]
             have q := p4 (by omega)
             exact ⟨rfl, SP_one S3 z3 n3 p3 (by omega) (hs4.wide (by decide)) (rd_s hR3 hs4 (by decide) (by decide) (by decide)) b4 o4 (by decide) (fun _ => by decide) (fun _ => q)⟩)
          | (have e : pO t L m ex idn (f + 1) d R n = (ms2 t L m (stR t L m R), n + 1, fun v => v ((tK t L m R.2 - 100) * 3000 + (tK t L m (stR t L m R).2 - 60) * 1000 + nQ t L m (ms1 t L m (stR t L m R)).2)) := by rw [hPO, pB, gte_f (by omega), gte_f (by omega), gte_f (by omega), gte_f (by omega)]
             rw [e]
             refine ⟨rfl, ?_⟩
             by_cases z : (ms2 t L m (stR t L m R)).1 = 0
             · have q := p44 z
               exact SP_one S3 z3 n3 p3 (by omega) s4 R4 b4 o4 (by omega) (fun _ => by omega) (fun _ => ⟨q.1, q.2.1, q.2.2.2.2⟩)
             · refine ⟨fun c hc => ?_, R4, b4, by omega, fun y => absurd y z⟩
               have hc2 := hc
               simp at hc2
               rw [s4 c hc, S3 c (by omega) (by omega)]))
    exact r_vret (dc dkX9_readOne 29 rfl) rfl (by
        have e : pO t L m ex idn (f + 1) d R n = (on0 t L m d R n, n, fun _ => False) := by rw [pO, gte_f h59]
        rw [e]
        exact ⟨rfl, hs2.wide (by decide), hR2, by rw [hs2 51 (by decide)]; exact p5, by rw [hs2 51 (by decide)]; omega, fun z => absurd z h59⟩)
  refine r_bipush (dc dkX9_readOne 4 rfl) bp_40 (np 10 rfl ?_)
  refine r_icmp_eq (tgt := 35) (dc dkX9_readOne 5 rfl) rfl (by first | assumption | decide | omega) (by first | assumption | decide | omega) (fun h10 => ?_) (fun h10 => (np 13 rfl ?_))
  · skip
    refine r_aload_n (dc dkX9_readOne 16 rfl) rfl (np 36 rfl ?_)
    refine r_gI 1 (dc dkX9_readOne 17 rfl) flX9_15 fd_51_1 rfl (np 39 rfl ?_)
    refine r_bipush (dc dkX9_readOne 18 rfl) bp_20 (np 41 rfl ?_)
    refine r_icmp_ge (tgt := 50) (dc dkX9_readOne 19 rfl) rfl (by first | assumption | decide | omega) (by first | assumption | decide | omega) (fun h41 => ?_) (fun h41 => (np 44 rfl ?_))
    · skip
      refine r_aload_n (dc dkX9_readOne 23 rfl) rfl (np 51 rfl ?_)
      refine r_iconst (dc dkX9_readOne 24 rfl) (np 52 rfl ?_)
      refine r_cV1 (y' := miX8_fail) (dc dkX9_readOne 25 rfl) mlX9_51 ceX8_fail ob_1 (by omega) (Nat.le_of_ble_eq_true rfl) (c_X8_fail hR (by decide)) (fun r τ2 hp2 => (np 55 rfl ?_))
      obtain ⟨rfl, hs2, hR2⟩ := hp2
      refine r_pick [1, 2, 3, 4, 0] rfl ?_
      exact jj55 _ (by first | exact ⟨hs2, by rw [on0, gte_f (by omega)]; exact hR2⟩ | exact ⟨hs2, by rw [on0, gte_t (by omega), gte_t (by omega)]; exact hR2⟩ | exact ⟨same.refl _ _, by rw [on0, gte_t (by omega), gte_f (by omega)]; exact hR⟩)
    refine r_iload_n (dc dkX9_readOne 20 rfl) rfl (np 45 rfl ?_)
    refine r_bipush (dc dkX9_readOne 21 rfl) bp_8 (np 47 rfl ?_)
    refine r_icmp_le (tgt := 55) (dc dkX9_readOne 22 rfl) rfl (by first | assumption | decide | omega) (by first | assumption | decide | omega) (fun h47 => ?_) (fun h47 => (np 50 rfl ?_))
    · skip
      refine r_pick [1, 2, 3, 4, 0] rfl ?_
      exact jj55 _ (by first | exact ⟨hs2, by rw [on0, gte_f (by omega)]; exact hR2⟩ | exact ⟨hs2, by rw [on0, gte_t (by omega), gte_t (by omega)]; exact hR2⟩ | exact ⟨same.refl _ _, by rw [on0, gte_t (by omega), gte_f (by omega)]; exact hR⟩)
    refine r_aload_n (dc dkX9_readOne 23 rfl) rfl (np 51 rfl ?_)
    refine r_iconst (dc dkX9_readOne 24 rfl) (np 52 rfl ?_)
    refine r_cV1 (y' := miX8_fail) (dc dkX9_readOne 25 rfl) mlX9_51 ceX8_fail ob_1 (by omega) (Nat.le_of_ble_eq_true rfl) (c_X8_fail hR (by decide)) (fun r τ2 hp2 => (np 55 rfl ?_))
    obtain ⟨rfl, hs2, hR2⟩ := hp2
    refine r_pick [1, 2, 3, 4, 0] rfl ?_
    exact jj55 _ (by first | exact ⟨hs2, by rw [on0, gte_f (by omega)]; exact hR2⟩ | exact ⟨hs2, by rw [on0, gte_t (by omega), gte_t (by omega)]; exact hR2⟩ | exact ⟨same.refl _ _, by rw [on0, gte_t (by omega), gte_f (by omega)]; exact hR⟩)
  refine r_iload (dc dkX9_readOne 6 rfl) rfl (np 15 rfl ?_)
  refine r_bipush (dc dkX9_readOne 7 rfl) bp_108 (np 17 rfl ?_)
  refine r_icmp_lt (tgt := 27) (dc dkX9_readOne 8 rfl) rfl (by first | assumption | decide | omega) (by first | assumption | decide | omega) (fun h17 => ?_) (fun h17 => (np 20 rfl ?_))
  · skip
    refine r_aload_n (dc dkX9_readOne 12 rfl) rfl (np 28 rfl ?_)
    refine r_iconst (dc dkX9_readOne 13 rfl) (np 29 rfl ?_)
    refine r_cV1 (y' := miX8_fail) (dc dkX9_readOne 14 rfl) mlX9_51 ceX8_fail ob_1 (by omega) (Nat.le_of_ble_eq_true rfl) (c_X8_fail hR (by decide)) (fun r τ2 hp2 => (np 32 rfl ?_))
    obtain ⟨rfl, hs2, hR2⟩ := hp2
    refine r_goto (tgt := 55) (dc dkX9_readOne 15 rfl) rfl ?_
    refine r_pick [1, 2, 3, 4, 0] rfl ?_
    exact jj55 _ (by first | exact ⟨hs2, by rw [on0, gte_f (by omega)]; exact hR2⟩ | exact ⟨hs2, by rw [on0, gte_t (by omega), gte_t (by omega)]; exact hR2⟩ | exact ⟨same.refl _ _, by rw [on0, gte_t (by omega), gte_f (by omega)]; exact hR⟩)
  refine r_iload (dc dkX9_readOne 9 rfl) rfl (np 22 rfl ?_)
  refine r_bipush (dc dkX9_readOne 10 rfl) bp_116 (np 24 rfl ?_)
  refine r_icmp_le (tgt := 35) (dc dkX9_readOne 11 rfl) rfl (by first | assumption | decide | omega) (by first | assumption | decide | omega) (fun h24 => ?_) (fun h24 => (np 27 rfl ?_))
  · skip
    refine r_aload_n (dc dkX9_readOne 16 rfl) rfl (np 36 rfl ?_)
    refine r_gI 1 (dc dkX9_readOne 17 rfl) flX9_15 fd_51_1 rfl (np 39 rfl ?_)
    refine r_bipush (dc dkX9_readOne 18 rfl) bp_20 (np 41 rfl ?_)
    refine r_icmp_ge (tgt := 50) (dc dkX9_readOne 19 rfl) rfl (by first | assumption | decide | omega) (by first | assumption | decide | omega) (fun h41 => ?_) (fun h41 => (np 44 rfl ?_))
    · skip
      refine r_aload_n (dc dkX9_readOne 23 rfl) rfl (np 51 rfl ?_)
      refine r_iconst (dc dkX9_readOne 24 rfl) (np 52 rfl ?_)
      refine r_cV1 (y' := miX8_fail) (dc dkX9_readOne 25 rfl) mlX9_51 ceX8_fail ob_1 (by omega) (Nat.le_of_ble_eq_true rfl) (c_X8_fail hR (by decide)) (fun r τ2 hp2 => (np 55 rfl ?_))
      obtain ⟨rfl, hs2, hR2⟩ := hp2
      refine r_pick [1, 2, 3, 4, 0] rfl ?_
      exact jj55 _ (by first | exact ⟨hs2, by rw [on0, gte_f (by omega)]; exact hR2⟩ | exact ⟨hs2, by rw [on0, gte_t (by omega), gte_t (by omega)]; exact hR2⟩ | exact ⟨same.refl _ _, by rw [on0, gte_t (by omega), gte_f (by omega)]; exact hR⟩)
    refine r_iload_n (dc dkX9_readOne 20 rfl) rfl (np 45 rfl ?_)
    refine r_bipush (dc dkX9_readOne 21 rfl) bp_8 (np 47 rfl ?_)
    refine r_icmp_le (tgt := 55) (dc dkX9_readOne 22 rfl) rfl (by first | assumption | decide | omega) (by first | assumption | decide | omega) (fun h47 => ?_) (fun h47 => (np 50 rfl ?_))
    · skip
      refine r_pick [1, 2, 3, 4, 0] rfl ?_
      exact jj55 _ (by first | exact ⟨hs2, by rw [on0, gte_f (by omega)]; exact hR2⟩ | exact ⟨hs2, by rw [on0, gte_t (by omega), gte_t (by omega)]; exact hR2⟩ | exact ⟨same.refl _ _, by rw [on0, gte_t (by omega), gte_f (by omega)]; exact hR⟩)
    refine r_aload_n (dc dkX9_readOne 23 rfl) rfl (np 51 rfl ?_)
    refine r_iconst (dc dkX9_readOne 24 rfl) (np 52 rfl ?_)
    refine r_cV1 (y' := miX8_fail) (dc dkX9_readOne 25 rfl) mlX9_51 ceX8_fail ob_1 (by omega) (Nat.le_of_ble_eq_true rfl) (c_X8_fail hR (by decide)) (fun r τ2 hp2 => (np 55 rfl ?_))
    obtain ⟨rfl, hs2, hR2⟩ := hp2
    refine r_pick [1, 2, 3, 4, 0] rfl ?_
    exact jj55 _ (by first | exact ⟨hs2, by rw [on0, gte_f (by omega)]; exact hR2⟩ | exact ⟨hs2, by rw [on0, gte_t (by omega), gte_t (by omega)]; exact hR2⟩ | exact ⟨same.refl _ _, by rw [on0, gte_t (by omega), gte_f (by omega)]; exact hR⟩)
  refine r_aload_n (dc dkX9_readOne 12 rfl) rfl (np 28 rfl ?_)
  refine r_iconst (dc dkX9_readOne 13 rfl) (np 29 rfl ?_)
  refine r_cV1 (y' := miX8_fail) (dc dkX9_readOne 14 rfl) mlX9_51 ceX8_fail ob_1 (by omega) (Nat.le_of_ble_eq_true rfl) (c_X8_fail hR (by decide)) (fun r τ2 hp2 => (np 32 rfl ?_))
  obtain ⟨rfl, hs2, hR2⟩ := hp2
  refine r_goto (tgt := 55) (dc dkX9_readOne 15 rfl) rfl ?_
  refine r_pick [1, 2, 3, 4, 0] rfl ?_
  exact jj55 _ (by first | exact ⟨hs2, by rw [on0, gte_f (by omega)]; exact hR2⟩ | exact ⟨hs2, by rw [on0, gte_t (by omega), gte_t (by omega)]; exact hR2⟩ | exact ⟨same.refl _ _, by rw [on0, gte_t (by omega), gte_f (by omega)]; exact hR⟩)
theorem c_sent : ∀ (f : Nat) (d : Int), (f : Int) + d = 9 → 1 ≤ d → cOne (f + 1) d ∧ cAll (f + 1) d ∧ cAny (f + 1) d
  | 0, d, h, h1 => by
    have a : cOne 1 d := fun hP => c_X9_readOne (f := 0) h h1 (fun z => absurd z (by decide)) (fun z => absurd z (by decide)) hP
    have b : cAll 1 d := fun hP => c_X9_readAll (by omega) a hP
    exact ⟨a, b, fun hP => c_X9_readAny (by omega) b hP⟩
  | f + 1, d, h, h1 => by
    have ih := c_sent f (d + 1) (by omega) (by omega)
    have a : cOne (f + 1 + 1) d := fun hP => c_X9_readOne (f := f + 1) (by omega) h1 (fun _ => ih.1) (fun _ => ih.2.2) hP
    have b : cAll (f + 1 + 1) d := fun hP => c_X9_readAll (by omega) a hP
    exact ⟨a, b, fun hP => c_X9_readAny (by omega) b hP⟩
