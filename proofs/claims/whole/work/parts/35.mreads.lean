/-! ===== the reference reads a board ===== -/
def mdT (X : List Int) (Y : List Nat) (σ τ : jS) : Prop := (∀ c, ¬ c = 111 → c ∉ Y → τ c = σ c) ∧ ∀ j, j ∉ X → τ 111 j = σ 111 j
theorem mdT.refl (X : List Int) (Y : List Nat) (σ : jS) : mdT X Y σ σ := ⟨fun _ _ _ => rfl, fun _ _ => rfl⟩
theorem mdT.of {X X' : List Int} {Y : List Nat} {σ τ : jS} (h : mdS X' σ τ) (hX : ∀ j ∈ X', j ∈ X) : mdT X Y σ τ := ⟨fun c h1 _ => h.1 c h1, fun j hj => h.2 j (fun q => hj (hX j q))⟩
theorem mdT.tr {X : List Int} {Y : List Nat} {σ τ ρ : jS} (h : mdT X Y σ τ) (g : mdT X Y τ ρ) : mdT X Y σ ρ := ⟨fun c h1 h2 => (g.1 c h1 h2).trans (h.1 c h1 h2), fun j hj => (g.2 j hj).trans (h.2 j hj)⟩
theorem mdT.trS {X X' : List Int} {Y : List Nat} {σ τ ρ : jS} (h : mdT X Y σ τ) (g : mdS X' τ ρ) (hX : ∀ j ∈ X', j ∈ X) : mdT X Y σ ρ := h.tr (mdT.of g hX)
theorem mdT.row {X : List Int} {Y : List Nat} {σ τ : jS} (h : mdT X Y σ τ) {c : Nat} {j z : Int} (hc : c ∈ Y) (h1 : ¬ c = 111) : mdT X Y σ (ju τ c j z) := ⟨fun c' g1 g2 => by rw [ju_off _ _ _ _ _ (fun q => g2 (by rw [q]; exact hc))]; exact h.1 c' g1 g2, fun j' hj => by rw [ju_off _ _ _ _ _ (fun q => h1 q.symm)]; exact h.2 j' hj⟩
theorem mdT.put {X : List Int} {Y : List Nat} {σ τ : jS} (h : mdT X Y σ τ) {j z : Int} (hj : j ∈ X) : mdT X Y σ (ju τ 111 j z) := ⟨fun c' g1 g2 => by rw [ju_off _ _ _ _ _ g1]; exact h.1 c' g1 g2, fun j' hj' => by rw [ju_ne (fun q => hj' (by rw [q.2]; exact hj))]; exact h.2 j' hj'⟩
theorem mdT.wide {X X' : List Int} {Y Y' : List Nat} {σ τ : jS} (h : mdT X Y σ τ) (hX : ∀ j ∈ X, j ∈ X') (hY : ∀ c ∈ Y, c ∈ Y') : mdT X' Y' σ τ := ⟨fun c h1 h2 => h.1 c h1 (fun q => h2 (hY c q)), fun j hj => h.2 j (fun q => hj (hX j q))⟩
theorem pr0 {R : Int × Int} (h : R.1 = 0) : (0, R.2) = R := by
  obtain ⟨a, b⟩ := R
  have : a = 0 := h
  subst this
  rfl
def eqD (σ : jS) (D : Int → Int) : Prop := ∀ j, 0 ≤ j → j < 241 → σ 114 j = D j
theorem eqD_s {σ τ : jS} {D : Int → Int} {X : List Int} (h : eqD σ D) (hs : mdS X σ τ) : eqD τ D := fun j h0 h1 => by rw [hs.1 114 (by decide)]; exact h j h0 h1
theorem eqD_up {σ : jS} {D : Int → Int} (h : eqD σ D) (i v : Int) : eqD (ju σ 114 i v) (up D i v) := fun j h0 h1 => by
  rw [ju_up]
  unfold up
  split
  · rfl
  · exact h j h0 h1
theorem md_ju {t : Int → Int} {L m q : Int} {σ : jS} {c : Nat} {j z : Int} (h : md t L m q σ) (h1 : ¬ c = 111) (h2 : ¬ c = 112) : md t L m q (ju σ c j z) := md_c h (ju_off _ _ _ _ _ (fun q => h1 q.symm)) (ju_off _ _ _ _ _ (fun q => h2 q.symm))
theorem mR_md {t : Int → Int} {L m q : Int} {σ : jS} (h : md t L m q σ) : mR t L m (0, q) σ := ⟨fun _ => h, fun z => absurd rfl z⟩
theorem mR_st {t : Int → Int} {L m : Int} {R : Int × Int} {σ : jS} (h : mR t L m R σ) (h0 : ¬ R.1 = 0) : mR t L m (stR t L m R) σ := by rw [stR_n h0]; exact h
section
variable {σ : jS} {t : Int → Int} {L m : Int} {R : Int × Int}
theorem c_nmR (h0 : R.1 = 0) (hM : md t L m R.2 σ) {a b : Int} (ha : iR a) (hb : iR b) : Jm 3 miX13_readNumber [.ref 111, vI a, vI b] σ (fun r τ => r = some (vI (bI ((nmR t L m a b R).1 = 0))) ∧ mdS [5, 6, 7, 8, 9, 10, 11, 13, 14] σ τ ∧ mR t L m (nmR t L m a b R) τ ∧ ((nmR t L m a b R).1 = 0 → τ 111 14 = nQ t L m R.2)) := by
  have h := c_X13_readNumber hM ha hb
  rw [pr0 h0] at h
  exact h
theorem c_ckR (h0 : R.1 = 0) (hM : md t L m R.2 σ) {a b : Int} (ha : iR a) (hb : iR b) : Jm 2 miX13_isNumber [.ref 111, vI a, vI b] σ (fun r τ => r = some (vI (bI ((ckR t L m a b R).1 = 0))) ∧ mdS [5, 6, 7, 8, 9, 10, 11, 13, 14] σ τ ∧ mR t L m (ckR t L m a b R) τ ∧ ((ckR t L m a b R).1 = 0 → τ 111 14 = nQ t L m R.2)) := by
  have h := c_X13_isNumber hM ha hb
  rw [pr0 h0] at h
  exact h
theorem c_xpE (h0 : R.1 = 0) (hM : md t L m R.2 σ) : Jm 3 miX13_readEnd [.ref 111] σ (fun r τ => r = some (vI (bI ((xpR t L m 59 R).1 = 0))) ∧ mdS [5, 6, 7, 8, 9, 10, 11, 13, 14] σ τ ∧ mR t L m (xpR t L m 59 R) τ) := by
  have h := c_X13_readEnd hM
  rw [pr0 h0] at h
  exact h
theorem c_bdR (h0 : R.1 = 0) (hM : md t L m R.2 σ) {k : Int} (hk : 1 ≤ k ∧ k ≤ 5) (h1 : tK t L m R.2 = 1 → k = 1) : Jm 1 miX13_bad [.ref 111, vI k] σ (fun r τ => r = some (vI 0) ∧ mdS [10, 11] σ τ ∧ mR t L m (flR t L m k R) τ) := by
  have h := c_X13_bad hM hk h1
  rw [pr0 h0] at h
  exact h
theorem c_goR (h0 : R.1 = 0) (hM : md t L m R.2 σ) : Jm 2 miX13_go [.ref 111] σ (fun r τ => r = none ∧ mdS [5, 6, 7, 8, 9, 13] σ τ ∧ mR t L m (stR t L m R) τ) := by
  refine (c_X13_go hM).mono (fun r τ h => ⟨h.1, h.2.1, ?_⟩)
  rw [stR_y h0]
  exact mR_md h.2.2
end
set_option maxRecDepth 100000 in
set_option maxHeartbeats 4000000 in
theorem c_X13_readHead {σ : jS} {t : Int → Int} {L m q : Int} (hM : md t L m q σ) {D : Int → Int} (hE : eqD σ D) : Jm 4 miX13_readHead [.ref 111] σ (fun r τ => r = some (vI (bI ((hdR t L m (0, q)).1 = 0))) ∧ mdT [5, 6, 7, 8, 9, 10, 11, 13, 14] [114] σ τ ∧ mR t L m (hdR t L m (0, q)) τ ∧ ((hdR t L m (0, q)).1 = 0 → eqD τ (hdD t L m (0, q) D))) := by
  refine jm_ofF (Po := (fun r τ => r = some (vI (bI ((hdR t L m (0, q)).1 = 0))) ∧ mdT [5, 6, 7, 8, 9, 10, 11, 13, 14] [114] σ τ ∧ mR t L m (hdR t L m (0, q)) τ ∧ ((hdR t L m (0, q)).1 = 0 → eqD τ (hdD t L m (0, q) D)))) (plainFor_of_name (by decide)) (Nat.le_of_ble_eq_true rfl) (lv := [(0, _)]) rfl ?_
  refine r_aload_n (dc dkX13_readHead 0 rfl) rfl (np 1 rfl ?_)
  refine r_iconst (dc dkX13_readHead 1 rfl) (np 2 rfl ?_)
  refine r_pV1 (y' := miX13_isWord) (dc dkX13_readHead 2 rfl) mlX13_252 ceX13_isWord ob_111 (Nat.le_of_ble_eq_true rfl) (Nat.le_of_ble_eq_true rfl) (c_X13_isWord hM (by decide)) (np 5 rfl ?_)
  refine r_bn (tgt := 14) (dc dkX13_readHead 3 rfl) rfl (fun h5 => ?_) (fun h5 => (np 8 rfl ?_))
  · skip
    refine r_aload_n (dc dkX13_readHead 8 rfl) rfl (np 15 rfl ?_)
    refine r_cV0 (y' := miX13_go) (dc dkX13_readHead 9 rfl) mlX13_179 ceX13_go ob_111 (Nat.le_of_ble_eq_true rfl) (Nat.le_of_ble_eq_true rfl) (c_X13_go hM) (fun r τ2 hp2 => (np 18 rfl ?_))
    obtain ⟨rfl, hs2, hM2⟩ := hp2
    have x1 : (xpR t L m 100 (0, q)) = (0, tN t L m q) := by rw [xpR_y ⟨rfl, h5⟩, stR_y rfl]
    have y1 : hdR t L m (0, q) = xpR t L m 59 (nmR t L m 2 10 (nmR t L m 2 10 (0, tN t L m q))) := by rw [hdR, x1]
    refine r_aload_n (dc dkX13_readHead 10 rfl) rfl (np 19 rfl ?_)
    refine r_iconst (dc dkX13_readHead 11 rfl) (np 20 rfl ?_)
    refine r_bipush (dc dkX13_readHead 12 rfl) bp_10 (np 22 rfl ?_)
    refine r_cV2 (y' := miX13_readNumber) (dc dkX13_readHead 13 rfl) mlX13_235 ceX13_readNumber ob_111 (Nat.le_of_ble_eq_true rfl) (Nat.le_of_ble_eq_true rfl) (c_X13_readNumber hM2 (by decide) (by decide)) (fun r τ3 hp3 => (np 25 rfl ?_))
    obtain ⟨rfl, hs3, hM3, ht3⟩ := hp3
    refine r_bn (tgt := 30) (dc dkX13_readHead 14 rfl) rfl (fun h25 => ?_) (fun h25 => (np 28 rfl ?_))
    · skip
      refine r_aload_n (dc dkX13_readHead 17 rfl) rfl (np 31 rfl ?_)
      refine r_getR (dc dkX13_readHead 18 rfl) flX13_16 fd_111_16 (np 34 rfl ?_)
      refine r_iconst (dc dkX13_readHead 19 rfl) (np 35 rfl ?_)
      refine r_aload_n (dc dkX13_readHead 20 rfl) rfl (np 36 rfl ?_)
      refine r_gI 14 (dc dkX13_readHead 21 rfl) flX13_172 fd_111_14 rfl (np 39 rfl ?_)
      refine r_iast (dc dkX13_readHead 22 rfl) ar_114 (by omega) (np 40 rfl ?_)
      refine r_aload_n (dc dkX13_readHead 23 rfl) rfl (np 41 rfl ?_)
      refine r_iconst (dc dkX13_readHead 24 rfl) (np 42 rfl ?_)
      refine r_bipush (dc dkX13_readHead 25 rfl) bp_10 (np 44 rfl ?_)
      refine r_cV2 (y' := miX13_readNumber) (dc dkX13_readHead 26 rfl) mlX13_235 ceX13_readNumber ob_111 (Nat.le_of_ble_eq_true rfl) (Nat.le_of_ble_eq_true rfl) (c_nmR h25 (md_ju (hM3.1 h25) (by decide) (by decide)) (by decide) (by decide)) (fun r τ4 hp4 => (np 47 rfl ?_))
      obtain ⟨rfl, hs4, hM4, ht4⟩ := hp4
      refine r_bn (tgt := 52) (dc dkX13_readHead 27 rfl) rfl (fun h47 => ?_) (fun h47 => (np 50 rfl ?_))
      · skip
        refine r_aload_n (dc dkX13_readHead 30 rfl) rfl (np 53 rfl ?_)
        refine r_getR (dc dkX13_readHead 31 rfl) flX13_16 fd_111_16 (np 56 rfl ?_)
        refine r_iconst (dc dkX13_readHead 32 rfl) (np 57 rfl ?_)
        refine r_aload_n (dc dkX13_readHead 33 rfl) rfl (np 58 rfl ?_)
        refine r_gI 14 (dc dkX13_readHead 34 rfl) flX13_172 fd_111_14 rfl (np 61 rfl ?_)
        refine r_iast (dc dkX13_readHead 35 rfl) ar_114 (by omega) (np 62 rfl ?_)
        refine r_aload_n (dc dkX13_readHead 36 rfl) rfl (np 63 rfl ?_)
        refine r_cV0 (y' := miX13_readEnd) (dc dkX13_readHead 37 rfl) mlX13_255 ceX13_readEnd ob_111 (Nat.le_of_ble_eq_true rfl) (Nat.le_of_ble_eq_true rfl) (c_xpE h47 (md_ju (hM4.1 h47) (by decide) (by decide))) (fun r τ5 hp5 => (np 66 rfl ?_))
        obtain ⟨rfl, hs5, hM5⟩ := hp5
        exact r_zret (dc dkX13_readHead 38 rfl) rfl (bI_01 _) (by
            have hd2 : hdD t L m (0, q) D = up (up D 0 (nQ t L m (tN t L m q))) 1 (nQ t L m (nmR t L m 2 10 (0, tN t L m q)).2) := by rw [hdD, x1]
            rw [y1, hd2]
            refine ⟨rfl, (((((mdT.of hs2 (by decide)).trS hs3 (by decide)).row (by decide) (by decide)).trS hs4 (by decide)).row (by decide) (by decide)).trS hs5 (by decide), hM5, fun _ => ?_⟩
            refine eqD_s ?_ hs5
            have a4 := ht4 h47
            have a3 := ht3 h25
            rw [a4]
            refine eqD_up (eqD_s ?_ hs4) _ _
            rw [a3]
            exact eqD_up (eqD_s (eqD_s hE hs2) hs3) _ _)
      refine r_iconst (dc dkX13_readHead 28 rfl) (np 51 rfl ?_)
      exact r_zret (dc dkX13_readHead 29 rfl) rfl (by first | exact Or.inl rfl | exact Or.inr rfl) (by rw [y1, xpR_e h47]; exact ⟨by rw [bI_f h47], ((((mdT.of hs2 (by decide)).trS hs3 (by decide)).row (by decide) (by decide)).trS hs4 (by decide)), hM4, fun z => absurd z h47⟩)
    refine r_iconst (dc dkX13_readHead 15 rfl) (np 29 rfl ?_)
    exact r_zret (dc dkX13_readHead 16 rfl) rfl (by first | exact Or.inl rfl | exact Or.inr rfl) (by rw [y1, nmR_e h25, xpR_e h25]; exact ⟨by rw [bI_f h25], (mdT.of hs2 (by decide)).trS hs3 (by decide), hM3, fun z => absurd z h25⟩)
  refine r_aload_n (dc dkX13_readHead 4 rfl) rfl (np 9 rfl ?_)
  refine r_iconst (dc dkX13_readHead 5 rfl) (np 10 rfl ?_)
  refine r_cV1 (y' := miX13_bad) (dc dkX13_readHead 6 rfl) mlX13_165 ceX13_bad ob_111 (Nat.le_of_ble_eq_true rfl) (Nat.le_of_ble_eq_true rfl) (c_X13_bad hM (by decide) (fun _ => rfl)) (fun r τ2 hp2 => (np 13 rfl ?_))
  obtain ⟨rfl, hs2, hM2⟩ := hp2
  exact r_zret (dc dkX13_readHead 7 rfl) rfl (by first | exact Or.inl rfl | exact Or.inr rfl) (by
      have x1 : (xpR t L m 100 (0, q)) = flR t L m 1 (0, q) := xpR_n (fun z => h5 z.2)
      have x2 : ¬ (flR t L m 1 (0, q)).1 = 0 := flR_f (by decide)
      have x3 : hdR t L m (0, q) = flR t L m 1 (0, q) := by rw [hdR, x1, nmR_e x2, nmR_e x2, xpR_e x2]
      rw [x3]
      exact ⟨by rw [bI_f x2], mdT.of hs2 (by decide), hM2, fun z => absurd z x2⟩)
set_option maxRecDepth 100000 in
set_option maxHeartbeats 4000000 in
theorem c_X13_readBell {σ : jS} {t : Int → Int} {L m q : Int} (hM : md t L m q σ) {D : Int → Int} (hE : eqD σ D) (hk : tK t L m q = 101) (h2 : cB 1 (D 2)) : Jm 3 miX13_readBell [.ref 111] σ (fun r τ => r = some (vI (bI ((blR t L m (0, q) D).1 = 0))) ∧ mdT [5, 6, 7, 8, 9, 10, 11, 13, 14] [114] σ τ ∧ mR t L m (blR t L m (0, q) D) τ ∧ ((blR t L m (0, q) D).1 = 0 → eqD τ (blD D))) := by
  have e2 := hE 2 (by decide) (by decide)
  refine jm_ofF (Po := (fun r τ => r = some (vI (bI ((blR t L m (0, q) D).1 = 0))) ∧ mdT [5, 6, 7, 8, 9, 10, 11, 13, 14] [114] σ τ ∧ mR t L m (blR t L m (0, q) D) τ ∧ ((blR t L m (0, q) D).1 = 0 → eqD τ (blD D)))) (plainFor_of_name (by decide)) (Nat.le_of_ble_eq_true rfl) (lv := [(0, _)]) rfl ?_
  refine r_aload_n (dc dkX13_readBell 0 rfl) rfl (np 1 rfl ?_)
  refine r_getR (dc dkX13_readBell 1 rfl) flX13_16 fd_111_16 (np 4 rfl ?_)
  refine r_iconst (dc dkX13_readBell 2 rfl) (np 5 rfl ?_)
  refine r_iald (dc dkX13_readBell 3 rfl) ar_114 (by omega) (np 6 rfl ?_)
  refine r_if_le (tgt := 15) (dc dkX13_readBell 4 rfl) rfl (by first | assumption | decide | omega) (fun h6 => ?_) (fun h6 => (np 9 rfl ?_))
  · skip
    refine r_aload_n (dc dkX13_readBell 9 rfl) rfl (np 16 rfl ?_)
    refine r_getR (dc dkX13_readBell 10 rfl) flX13_16 fd_111_16 (np 19 rfl ?_)
    refine r_iconst (dc dkX13_readBell 11 rfl) (np 20 rfl ?_)
    refine r_iconst (dc dkX13_readBell 12 rfl) (np 21 rfl ?_)
    refine r_iast (dc dkX13_readBell 13 rfl) ar_114 (by omega) (np 22 rfl ?_)
    refine r_aload_n (dc dkX13_readBell 14 rfl) rfl (np 23 rfl ?_)
    refine r_cV0 (y' := miX13_go) (dc dkX13_readBell 15 rfl) mlX13_179 ceX13_go ob_111 (Nat.le_of_ble_eq_true rfl) (Nat.le_of_ble_eq_true rfl) (c_X13_go (md_ju hM (by decide) (by decide))) (fun r τ2 hp2 => (np 26 rfl ?_))
    obtain ⟨rfl, hs2, hM2⟩ := hp2
    refine r_iconst (dc dkX13_readBell 16 rfl) (np 27 rfl ?_)
    exact r_zret (dc dkX13_readBell 17 rfl) rfl (by first | exact Or.inl rfl | exact Or.inr rfl) (by
        have x3 : blR t L m (0, q) D = (0, tN t L m q) := by rw [blR, gte_t (by omega), stR_y rfl]
        rw [x3]
        exact ⟨by rw [bI_t rfl], ((mdT.refl _ _ _).row (by decide) (by decide)).trS hs2 (by decide), mR_md hM2, fun _ => eqD_s (eqD_up hE _ _) hs2⟩)
  refine r_aload_n (dc dkX13_readBell 5 rfl) rfl (np 10 rfl ?_)
  refine r_iconst (dc dkX13_readBell 6 rfl) (np 11 rfl ?_)
  refine r_cV1 (y' := miX13_bad) (dc dkX13_readBell 7 rfl) mlX13_165 ceX13_bad ob_111 (Nat.le_of_ble_eq_true rfl) (Nat.le_of_ble_eq_true rfl) (c_X13_bad hM (by decide) (fun z => by omega)) (fun r τ2 hp2 => (np 14 rfl ?_))
  obtain ⟨rfl, hs2, hM2⟩ := hp2
  exact r_zret (dc dkX13_readBell 8 rfl) rfl (by first | exact Or.inl rfl | exact Or.inr rfl) (by
      have x2 : ¬ (flR t L m 3 (0, q)).1 = 0 := flR_f (by decide)
      have x3 : blR t L m (0, q) D = flR t L m 3 (0, q) := by rw [blR, gte_f (by omega), stR_n x2]
      rw [x3]
      exact ⟨by rw [bI_f x2], mdT.of hs2 (by decide), hM2, fun z => absurd z x2⟩)
set_option maxRecDepth 100000 in
set_option maxHeartbeats 4000000 in
theorem c_X13_readOut {σ : jS} {t : Int → Int} {L m q : Int} (hM : md t L m q σ) {D : Int → Int} (hE : eqD σ D) (hk : tK t L m q = 102) (hV : okV D) (hw : okT2 D) : Jm 4 miX13_readOut [.ref 111] σ (fun r τ => r = some (vI (bI ((otR t L m (0, q) D).1 = 0))) ∧ mdT [5, 6, 7, 8, 9, 10, 11, 13, 14] [114] σ τ ∧ mR t L m (otR t L m (0, q) D) τ ∧ ((otR t L m (0, q) D).1 = 0 → eqD τ (otD t L m (0, q) D))) := by
  have e0 := hE 0 (by decide) (by decide)
  have e1 := hE 1 (by decide) (by decide)
  have e3 := hE 3 (by decide) (by decide)
  have e4 := hE 4 (by decide) (by decide)
  have v3 := hV.2.2.1
  have v4 := hV.2.2.2.1
  have hw2 := hw
  unfold okT2 at hw2
  refine jm_ofF (Po := (fun r τ => r = some (vI (bI ((otR t L m (0, q) D).1 = 0))) ∧ mdT [5, 6, 7, 8, 9, 10, 11, 13, 14] [114] σ τ ∧ mR t L m (otR t L m (0, q) D) τ ∧ ((otR t L m (0, q) D).1 = 0 → eqD τ (otD t L m (0, q) D)))) (plainFor_of_name (by decide)) (Nat.le_of_ble_eq_true rfl) (lv := [(0, _)]) rfl ?_
  refine r_aload_n (dc dkX13_readOut 0 rfl) rfl (np 1 rfl ?_)
  refine r_getR (dc dkX13_readOut 1 rfl) flX13_16 fd_111_16 (np 4 rfl ?_)
  refine r_iconst (dc dkX13_readOut 2 rfl) (np 5 rfl ?_)
  refine r_iald (dc dkX13_readOut 3 rfl) ar_114 (by omega) (np 6 rfl ?_)
  refine r_if_le (tgt := 15) (dc dkX13_readOut 4 rfl) rfl (by first | assumption | decide | omega) (fun h6 => ?_) (fun h6 => (np 9 rfl ?_))
  · skip
    refine r_aload_n (dc dkX13_readOut 9 rfl) rfl (np 16 rfl ?_)
    refine r_getR (dc dkX13_readOut 10 rfl) flX13_16 fd_111_16 (np 19 rfl ?_)
    refine r_iconst (dc dkX13_readOut 11 rfl) (np 20 rfl ?_)
    refine r_iald (dc dkX13_readOut 12 rfl) ar_114 (by omega) (np 21 rfl ?_)
    refine r_bipush (dc dkX13_readOut 13 rfl) bp_12 (np 23 rfl ?_)
    refine r_icmp_ne (tgt := 32) (dc dkX13_readOut 14 rfl) rfl (by first | assumption | decide | omega) (by first | assumption | decide | omega) (fun h23 => ?_) (fun h23 => (np 26 rfl ?_))
    · skip
      refine r_aload_n (dc dkX13_readOut 19 rfl) rfl (np 33 rfl ?_)
      refine r_cV0 (y' := miX13_go) (dc dkX13_readOut 20 rfl) mlX13_179 ceX13_go ob_111 (Nat.le_of_ble_eq_true rfl) (Nat.le_of_ble_eq_true rfl) (c_X13_go hM) (fun r τ2 hp2 => (np 36 rfl ?_))
      obtain ⟨rfl, hs2, hM2⟩ := hp2
      have x0 : ot0 t L m (0, q) D = (0, tN t L m q) := by rw [ot0, gte_f (by omega), gte_f (by omega), stR_y rfl]
      have E2 := eqD_s hE hs2
      have f0 := E2 0 (by decide) (by decide)
      refine r_aload_n (dc dkX13_readOut 21 rfl) rfl (np 37 rfl ?_)
      refine r_iconst (dc dkX13_readOut 22 rfl) (np 38 rfl ?_)
      refine r_aload_n (dc dkX13_readOut 23 rfl) rfl (np 39 rfl ?_)
      refine r_getR (dc dkX13_readOut 24 rfl) flX13_16 fd_111_16 (np 42 rfl ?_)
      refine r_iconst (dc dkX13_readOut 25 rfl) (np 43 rfl ?_)
      refine r_iald (dc dkX13_readOut 26 rfl) ar_114 (by omega) (np 44 rfl ?_)
      refine r_iconst (dc dkX13_readOut 27 rfl) (np 45 rfl ?_)
      refine r_isub (dc dkX13_readOut 28 rfl) (np 46 rfl ?_)
      refine r_eqI (D 0 - 1) (by rw [f0]) ?_
      refine r_cV2 (y' := miX13_readNumber) (dc dkX13_readOut 29 rfl) mlX13_235 ceX13_readNumber ob_111 (Nat.le_of_ble_eq_true rfl) (Nat.le_of_ble_eq_true rfl) (c_nmR (R := ot0 t L m (0, q) D) (by rw [x0]) (by rw [x0]; exact hM2) (by decide) (by omega)) (fun r τ3 hp3 => (np 49 rfl ?_))
      obtain ⟨rfl, hs3, hM3, ht3⟩ := hp3
      change mR t L m (ot1 t L m (0, q) D) τ3 at hM3
      change (ot1 t L m (0, q) D).1 = 0 → _ at ht3
      change jR _ _ _ _ _ [vI (bI ((ot1 t L m (0, q) D).1 = 0))] _
      have E3 := eqD_s E2 hs3
      have f1 := E3 1 (by decide) (by decide)
      refine r_bn (tgt := 54) (dc dkX13_readOut 30 rfl) rfl (fun h49 => ?_) (fun h49 => (np 52 rfl ?_))
      · skip
        refine r_aload_n (dc dkX13_readOut 33 rfl) rfl (np 55 rfl ?_)
        refine r_gI 14 (dc dkX13_readOut 34 rfl) flX13_172 fd_111_14 rfl (np 58 rfl ?_)
        refine r_istore_n (lv' := [(1, _), (0, _)]) (dc dkX13_readOut 35 rfl) (Nat.le_of_ble_eq_true rfl) rfl (np 59 rfl ?_)
        refine r_aload_n (dc dkX13_readOut 36 rfl) rfl (np 60 rfl ?_)
        refine r_iconst (dc dkX13_readOut 37 rfl) (np 61 rfl ?_)
        refine r_aload_n (dc dkX13_readOut 38 rfl) rfl (np 62 rfl ?_)
        refine r_getR (dc dkX13_readOut 39 rfl) flX13_16 fd_111_16 (np 65 rfl ?_)
        refine r_iconst (dc dkX13_readOut 40 rfl) (np 66 rfl ?_)
        refine r_iald (dc dkX13_readOut 41 rfl) ar_114 (by omega) (np 67 rfl ?_)
        refine r_iconst (dc dkX13_readOut 42 rfl) (np 68 rfl ?_)
        refine r_isub (dc dkX13_readOut 43 rfl) (np 69 rfl ?_)
        refine r_eqI (D 1 - 1) (by rw [f1]) ?_
        refine r_cV2 (y' := miX13_isNumber) (dc dkX13_readOut 44 rfl) mlX13_175 ceX13_isNumber ob_111 (Nat.le_of_ble_eq_true rfl) (Nat.le_of_ble_eq_true rfl) (c_ckR h49 (hM3.1 h49) (by decide) (by omega)) (fun r τ4 hp4 => (np 72 rfl ?_))
        obtain ⟨rfl, hs4, hM4, ht4⟩ := hp4
        change mR t L m (ot2 t L m (0, q) D) τ4 at hM4
        change (ot2 t L m (0, q) D).1 = 0 → _ at ht4
        change jR _ _ _ _ _ [vI (bI ((ot2 t L m (0, q) D).1 = 0))] _
        have E4 := eqD_s E3 hs4
        refine r_bn (tgt := 77) (dc dkX13_readOut 45 rfl) rfl (fun h72 => ?_) (fun h72 => (np 75 rfl ?_))
        · skip
          obtain ⟨k1, k2, k3, k4⟩ := ckR_f h72
          obtain ⟨j1, j2, j3, j4⟩ := nmR_f k1.1
          replace k4 : ot2 t L m (0, q) D = ot1 t L m (0, q) D := k4
          have a3 : τ3 111 14 = nQ t L m (ot0 t L m (0, q) D).2 := ht3 h49
          have a4 : τ4 111 14 = nQ t L m (ot1 t L m (0, q) D).2 := ht4 h72
          have pE : otP t L m (0, q) D = 10 * τ4 111 14 + τ3 111 14 := by unfold otP; rw [a3, a4]
          have b3 : 0 ≤ τ3 111 14 ∧ τ3 111 14 ≤ D 0 - 1 := by rw [a3]; exact ⟨j2, j3⟩
          have b4 : 0 ≤ τ4 111 14 ∧ τ4 111 14 ≤ D 1 - 1 := by rw [a4]; exact ⟨k2, k3⟩
          have pI : 5 + 10 * τ4 111 14 + τ3 111 14 = 5 + otP t L m (0, q) D := by omega
          have eP := E4 (5 + otP t L m (0, q) D) (by omega) (by omega)
          have vP := (hV.2.2.2.2.1 (otP t L m (0, q) D) (by omega) (by omega)).1
          refine r_aload_n (dc dkX13_readOut 48 rfl) rfl (np 78 rfl ?_)
          refine r_getR (dc dkX13_readOut 49 rfl) flX13_16 fd_111_16 (np 81 rfl ?_)
          refine r_iconst (dc dkX13_readOut 50 rfl) (np 82 rfl ?_)
          refine r_bipush (dc dkX13_readOut 51 rfl) bp_10 (np 84 rfl ?_)
          refine r_aload_n (dc dkX13_readOut 52 rfl) rfl (np 85 rfl ?_)
          refine r_gI 14 (dc dkX13_readOut 53 rfl) flX13_172 fd_111_14 rfl (np 88 rfl ?_)
          refine r_imul (dc dkX13_readOut 54 rfl) (np 89 rfl ?_)
          refine r_iadd (dc dkX13_readOut 55 rfl) (np 90 rfl ?_)
          refine r_iload_n (dc dkX13_readOut 56 rfl) rfl (np 91 rfl ?_)
          refine r_iadd (dc dkX13_readOut 57 rfl) (np 92 rfl ?_)
          refine r_eqI (5 + otP t L m (0, q) D) pI ?_
          refine r_iald (dc dkX13_readOut 58 rfl) ar_114 (by omega) (np 93 rfl ?_)
          refine r_eqI (D (5 + otP t L m (0, q) D)) eP ?_
          refine r_if_le (tgt := 102) (dc dkX13_readOut 59 rfl) rfl (by first | assumption | decide | omega) (fun h93 => ?_) (fun h93 => (np 96 rfl ?_))
          · skip
            refine r_aload_n (dc dkX13_readOut 64 rfl) rfl (np 103 rfl ?_)
            refine r_getR (dc dkX13_readOut 65 rfl) flX13_16 fd_111_16 (np 106 rfl ?_)
            refine r_iconst (dc dkX13_readOut 66 rfl) (np 107 rfl ?_)
            refine r_bipush (dc dkX13_readOut 67 rfl) bp_10 (np 109 rfl ?_)
            refine r_aload_n (dc dkX13_readOut 68 rfl) rfl (np 110 rfl ?_)
            refine r_gI 14 (dc dkX13_readOut 69 rfl) flX13_172 fd_111_14 rfl (np 113 rfl ?_)
            refine r_imul (dc dkX13_readOut 70 rfl) (np 114 rfl ?_)
            refine r_iadd (dc dkX13_readOut 71 rfl) (np 115 rfl ?_)
            refine r_iload_n (dc dkX13_readOut 72 rfl) rfl (np 116 rfl ?_)
            refine r_iadd (dc dkX13_readOut 73 rfl) (np 117 rfl ?_)
            refine r_eqI (5 + otP t L m (0, q) D) pI ?_
            refine r_iconst (dc dkX13_readOut 74 rfl) (np 118 rfl ?_)
            refine r_iast (dc dkX13_readOut 75 rfl) ar_114 (by omega) (np 119 rfl ?_)
            refine r_aload_n (dc dkX13_readOut 76 rfl) rfl (np 120 rfl ?_)
            refine r_getR (dc dkX13_readOut 77 rfl) flX13_16 fd_111_16 (np 123 rfl ?_)
            refine r_iconst (dc dkX13_readOut 78 rfl) (np 124 rfl ?_)
            refine r_dup2 (dc dkX13_readOut 79 rfl) ⟨rfl, rfl⟩ (np 125 rfl ?_)
            refine r_iald (dc dkX13_readOut 80 rfl) ar_114 (by omega) (np 126 rfl ?_)
            refine r_iconst (dc dkX13_readOut 81 rfl) (np 127 rfl ?_)
            refine r_iadd (dc dkX13_readOut 82 rfl) (np 128 rfl ?_)
            refine r_iast (dc dkX13_readOut 83 rfl) ar_114 (by omega) (np 129 rfl ?_)
            refine r_aload_n (dc dkX13_readOut 84 rfl) rfl (np 130 rfl ?_)
            refine r_cV0 (y' := miX13_go) (dc dkX13_readOut 85 rfl) mlX13_179 ceX13_go ob_111 (Nat.le_of_ble_eq_true rfl) (Nat.le_of_ble_eq_true rfl) (c_X13_go (md_ju (md_ju (hM4.1 h72) (by decide) (by decide)) (by decide) (by decide))) (fun r τ5 hp5 => (np 133 rfl ?_))
            obtain ⟨rfl, hs5, hM5⟩ := hp5
            refine r_iconst (dc dkX13_readOut 86 rfl) (np 134 rfl ?_)
            exact r_zret (dc dkX13_readOut 87 rfl) rfl (by first | exact Or.inl rfl | exact Or.inr rfl) (by
                have x3 : otR t L m (0, q) D = (0, tN t L m (ot2 t L m (0, q) D).2) := by rw [otR, gte_t (by omega), stR_y h72]
                rw [x3]
                refine ⟨by rw [bI_t rfl], ((((mdT.of hs2 (by decide)).trS hs3 (by decide)).trS hs4 (by decide)).row (by decide) (by decide)).row (by decide) (by decide) |>.trS hs5 (by decide), mR_md hM5, fun _ => eqD_s ?_ hs5⟩
                have g3 : ju τ4 114 (5 + otP t L m (0, q) D) 1 114 3 + 1 = D 3 + 1 := by rw [ju_ne (by omega), E4 3 (by decide) (by decide)]
                unfold otD
                rw [g3]
                exact eqD_up (eqD_up E4 _ _) _ _)
          refine r_aload_n (dc dkX13_readOut 60 rfl) rfl (np 97 rfl ?_)
          refine r_iconst (dc dkX13_readOut 61 rfl) (np 98 rfl ?_)
          refine r_cV1 (y' := miX13_bad) (dc dkX13_readOut 62 rfl) mlX13_165 ceX13_bad ob_111 (Nat.le_of_ble_eq_true rfl) (Nat.le_of_ble_eq_true rfl) (c_bdR h72 (hM4.1 h72) (by decide) (fun z => by rw [k4] at z; have := k1.2; omega)) (fun r τ5 hp5 => (np 101 rfl ?_))
          obtain ⟨rfl, hs5, hM5⟩ := hp5
          exact r_zret (dc dkX13_readOut 63 rfl) rfl (by first | exact Or.inl rfl | exact Or.inr rfl) (by
              have x2 : ¬ (flR t L m 3 (ot2 t L m (0, q) D)).1 = 0 := flR_f (by decide)
              have x3 : otR t L m (0, q) D = flR t L m 3 (ot2 t L m (0, q) D) := by rw [otR, gte_f (by omega), stR_n x2]
              rw [x3]
              exact ⟨by rw [bI_f x2], (((mdT.of hs2 (by decide)).trS hs3 (by decide)).trS hs4 (by decide)).trS hs5 (by decide), hM5, fun z => absurd z x2⟩)
        refine r_iconst (dc dkX13_readOut 46 rfl) (np 76 rfl ?_)
        exact r_zret (dc dkX13_readOut 47 rfl) rfl (by first | exact Or.inl rfl | exact Or.inr rfl) (by
            have x3 : otR t L m (0, q) D = ot2 t L m (0, q) D := by rw [otR, gte_flR h72, stR_n h72]
            rw [x3]
            exact ⟨by rw [bI_f h72], ((mdT.of hs2 (by decide)).trS hs3 (by decide)).trS hs4 (by decide), hM4, fun z => absurd z h72⟩)
      refine r_iconst (dc dkX13_readOut 31 rfl) (np 53 rfl ?_)
      exact r_zret (dc dkX13_readOut 32 rfl) rfl (by first | exact Or.inl rfl | exact Or.inr rfl) (by
          have x1 : ot2 t L m (0, q) D = ot1 t L m (0, q) D := by rw [ot2, ckR_e h49]
          have x3 : otR t L m (0, q) D = ot1 t L m (0, q) D := by rw [otR, x1, gte_flR h49, stR_n h49]
          rw [x3]
          exact ⟨by rw [bI_f h49], (mdT.of hs2 (by decide)).trS hs3 (by decide), hM3, fun z => absurd z h49⟩)
    refine r_aload_n (dc dkX13_readOut 15 rfl) rfl (np 27 rfl ?_)
    refine r_iconst (dc dkX13_readOut 16 rfl) (np 28 rfl ?_)
    refine r_cV1 (y' := miX13_bad) (dc dkX13_readOut 17 rfl) mlX13_165 ceX13_bad ob_111 (Nat.le_of_ble_eq_true rfl) (Nat.le_of_ble_eq_true rfl) (c_X13_bad hM (by decide) (fun z => by omega)) (fun r τ2 hp2 => (np 31 rfl ?_))
    obtain ⟨rfl, hs2, hM2⟩ := hp2
    exact r_zret (dc dkX13_readOut 18 rfl) rfl (by first | exact Or.inl rfl | exact Or.inr rfl) (by
        have x2 : ¬ (flR t L m 4 (0, q)).1 = 0 := flR_f (by decide)
        have x0 : ot0 t L m (0, q) D = flR t L m 4 (0, q) := by rw [ot0, gte_f (by omega), gte_t (by omega), stR_n x2]
        have x1 : ot2 t L m (0, q) D = flR t L m 4 (0, q) := by rw [ot2, ot1, x0, nmR_e x2, ckR_e x2]
        have x3 : otR t L m (0, q) D = flR t L m 4 (0, q) := by rw [otR, x1, gte_flR x2, stR_n x2]
        rw [x3]
        exact ⟨by rw [bI_f x2], mdT.of hs2 (by decide), hM2, fun z => absurd z x2⟩)
  refine r_aload_n (dc dkX13_readOut 5 rfl) rfl (np 10 rfl ?_)
  refine r_iconst (dc dkX13_readOut 6 rfl) (np 11 rfl ?_)
  refine r_cV1 (y' := miX13_bad) (dc dkX13_readOut 7 rfl) mlX13_165 ceX13_bad ob_111 (Nat.le_of_ble_eq_true rfl) (Nat.le_of_ble_eq_true rfl) (c_X13_bad hM (by decide) (fun z => by omega)) (fun r τ2 hp2 => (np 14 rfl ?_))
  obtain ⟨rfl, hs2, hM2⟩ := hp2
  exact r_zret (dc dkX13_readOut 8 rfl) rfl (by first | exact Or.inl rfl | exact Or.inr rfl) (by
      have x2 : ¬ (flR t L m 3 (0, q)).1 = 0 := flR_f (by decide)
      have x0 : ot0 t L m (0, q) D = flR t L m 3 (0, q) := by rw [ot0, gte_t (by omega), stR_n x2]
      have x1 : ot2 t L m (0, q) D = flR t L m 3 (0, q) := by rw [ot2, ot1, x0, nmR_e x2, ckR_e x2]
      have x3 : otR t L m (0, q) D = flR t L m 3 (0, q) := by rw [otR, x1, gte_flR x2, stR_n x2]
      rw [x3]
      exact ⟨by rw [bI_f x2], mdT.of hs2 (by decide), hM2, fun z => absurd z x2⟩)
