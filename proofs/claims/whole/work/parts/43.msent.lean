/-! ===== the reference's sentences ===== -/
def cdM (nd sy idn : Int → Int) (k : Int) : Int := if nd (4 * k) = 59 ∨ nd (4 * k) = 60 then (nd (4 * k) - 50) * 3000 + idn (sy (nd (4 * k + 1))) else if nd (4 * k) = 61 then 33000 else (nd (4 * k) - 50) * 3000 + (nd (4 * k + 3) - 60) * 1000 + nd (4 * k + 2)
def evM (v : Int → Prop) (nd sy idn : Int → Int) : Nat → Int → Prop
  | 0, _ => False
  | f + 1, k => if nd (4 * k) = 1 then ¬ evM v nd sy idn f (nd (4 * k + 1)) else if nd (4 * k) = 2 then evM v nd sy idn f (nd (4 * k + 1)) ∧ evM v nd sy idn f (nd (4 * k + 2)) else if nd (4 * k) = 3 then evM v nd sy idn f (nd (4 * k + 1)) ∨ evM v nd sy idn f (nd (4 * k + 2)) else v (cdM nd sy idn k)
/-- node k, of N nodes with M names, tells e -/
def rpM (N M : Int) (nd sy idn : Int → Int) (k : Int) (e : Fm) : Prop := (0 ≤ k ∧ k < N) ∧ ∀ nd' sy' : Int → Int, (∀ j, 0 ≤ j → j < 4 * N → nd' j = nd j) → (∀ j, 0 ≤ j → j < M → sy' j = sy j) → ∀ (f : Nat) (v : Int → Prop), k < f → (evM v nd' sy' idn f k ↔ e v)
theorem rpM_x {N M N2 M2 : Int} {nd sy nd2 sy2 idn : Int → Int} {k : Int} {e : Fm} (h : rpM N M nd sy idn k e) (hN : N ≤ N2) (hM : M ≤ M2) (g : ∀ j, 0 ≤ j → j < 4 * N → nd2 j = nd j) (g2 : ∀ j, 0 ≤ j → j < M → sy2 j = sy j) : rpM N2 M2 nd2 sy2 idn k e := by
  refine ⟨⟨h.1.1, by have := h.1.2; omega⟩, fun nd' sy' a b f v hf => h.2 nd' sy' (fun j j0 j1 => ?_) (fun j j0 j1 => ?_) f v hf⟩
  · rw [a j j0 (by omega)]; exact g j j0 j1
  · rw [b j j0 (by omega)]; exact g2 j j0 j1
/-- every node is as told -/
def okNd (N M : Int) (nd : Int → Int) : Prop := ∀ i, 0 ≤ i → i < N → (nd (4 * i) = 1 ∧ 0 ≤ nd (4 * i + 1) ∧ nd (4 * i + 1) < i) ∨ ((nd (4 * i) = 2 ∨ nd (4 * i) = 3) ∧ (0 ≤ nd (4 * i + 1) ∧ nd (4 * i + 1) < i) ∧ (0 ≤ nd (4 * i + 2) ∧ nd (4 * i + 2) < i)) ∨ ((nd (4 * i) = 59 ∨ nd (4 * i) = 60) ∧ 0 ≤ nd (4 * i + 1) ∧ nd (4 * i + 1) < M) ∨ nd (4 * i) = 61 ∨ ((62 ≤ nd (4 * i) ∧ nd (4 * i) ≤ 66) ∧ (60 ≤ nd (4 * i + 3) ∧ nd (4 * i + 3) ≤ 62) ∧ (0 ≤ nd (4 * i + 2) ∧ nd (4 * i + 2) ≤ 999))
def okSy (M : Int) (sy : Int → Int) : Prop := ∀ j, 0 ≤ j → j < M → 0 < sy j ∧ sy j < 10460353203
/-- a node is laid behind N -/
def nwN (N w a b r : Int) (nd nd2 : Int → Int) : Prop := (∀ j, (j < 4 * N ∨ 4 * N + 4 ≤ j) → nd2 j = nd j) ∧ nd2 (4 * N) = w ∧ nd2 (4 * N + 1) = a ∧ nd2 (4 * N + 2) = b ∧ nd2 (4 * N + 3) = r
theorem nwN_ok {N M M2 w a b r : Int} {nd nd2 : Int → Int} (hN : 0 ≤ N) (h : okNd N M nd) (hM : M ≤ M2) (n : nwN N w a b r nd nd2) (g : (w = 1 ∧ 0 ≤ a ∧ a < N) ∨ ((w = 2 ∨ w = 3) ∧ (0 ≤ a ∧ a < N) ∧ (0 ≤ b ∧ b < N)) ∨ ((w = 59 ∨ w = 60) ∧ 0 ≤ a ∧ a < M2) ∨ w = 61 ∨ ((62 ≤ w ∧ w ≤ 66) ∧ (60 ≤ r ∧ r ≤ 62) ∧ (0 ≤ b ∧ b ≤ 999))) : okNd (N + 1) M2 nd2 := by
  intro i i0 i1
  obtain ⟨n0, n1, n2, n3, n4⟩ := n
  by_cases hi : i = N
  · subst hi
    rw [n1, n2, n3, n4]
    exact g
  · have q := h i i0 (by omega)
    rw [n0 (4 * i) (by omega), n0 (4 * i + 1) (by omega), n0 (4 * i + 2) (by omega), n0 (4 * i + 3) (by omega)]
    omega
theorem rpM_not {N M a b r : Int} {nd nd2 sy idn : Int → Int} {e : Fm} (hN : 0 ≤ N) (n : nwN N 1 a b r nd nd2) (h : rpM N M nd sy idn a e) : rpM (N + 1) M nd2 sy idn N (fun v => ¬ e v) := by
  obtain ⟨n0, n1, n2, n3, n4⟩ := n
  refine ⟨by omega, fun nd' sy' g g2 f v hf => ?_⟩
  obtain ⟨f, rfl⟩ : ∃ f', f = f' + 1 := ⟨f - 1, by omega⟩
  rw [evM, g (4 * N) (by omega) (by omega), n1, if_pos rfl, g (4 * N + 1) (by omega) (by omega), n2]
  rw [h.2 nd' sy' (fun j j0 j1 => by rw [g j j0 (by omega), n0 j (by omega)]) g2 f v (by have := h.1; omega)]
theorem rpM_and {N M a b r : Int} {nd nd2 sy idn : Int → Int} {e e2 : Fm} (hN : 0 ≤ N) (n : nwN N 2 a b r nd nd2) (h : rpM N M nd sy idn a e) (h2 : rpM N M nd sy idn b e2) : rpM (N + 1) M nd2 sy idn N (fun v => e v ∧ e2 v) := by
  obtain ⟨n0, n1, n2, n3, n4⟩ := n
  refine ⟨by omega, fun nd' sy' g g2 f v hf => ?_⟩
  obtain ⟨f, rfl⟩ : ∃ f', f = f' + 1 := ⟨f - 1, by omega⟩
  rw [evM, g (4 * N) (by omega) (by omega), n1, if_neg (by decide), if_pos rfl, g (4 * N + 1) (by omega) (by omega), n2, g (4 * N + 2) (by omega) (by omega), n3]
  rw [h.2 nd' sy' (fun j j0 j1 => by rw [g j j0 (by omega), n0 j (by omega)]) g2 f v (by have := h.1; omega), h2.2 nd' sy' (fun j j0 j1 => by rw [g j j0 (by omega), n0 j (by omega)]) g2 f v (by have := h2.1; omega)]
theorem rpM_or {N M a b r : Int} {nd nd2 sy idn : Int → Int} {e e2 : Fm} (hN : 0 ≤ N) (n : nwN N 3 a b r nd nd2) (h : rpM N M nd sy idn a e) (h2 : rpM N M nd sy idn b e2) : rpM (N + 1) M nd2 sy idn N (fun v => e v ∨ e2 v) := by
  obtain ⟨n0, n1, n2, n3, n4⟩ := n
  refine ⟨by omega, fun nd' sy' g g2 f v hf => ?_⟩
  obtain ⟨f, rfl⟩ : ∃ f', f = f' + 1 := ⟨f - 1, by omega⟩
  rw [evM, g (4 * N) (by omega) (by omega), n1, if_neg (by decide), if_neg (by decide), if_pos rfl, g (4 * N + 1) (by omega) (by omega), n2, g (4 * N + 2) (by omega) (by omega), n3]
  rw [h.2 nd' sy' (fun j j0 j1 => by rw [g j j0 (by omega), n0 j (by omega)]) g2 f v (by have := h.1; omega), h2.2 nd' sy' (fun j j0 j1 => by rw [g j j0 (by omega), n0 j (by omega)]) g2 f v (by have := h2.1; omega)]
theorem rpM_at {N M w a b r c : Int} {nd nd2 sy idn : Int → Int} (hN : 0 ≤ N) (n : nwN N w a b r nd nd2) (hw : 59 ≤ w ∧ w ≤ 66) (ha : w = 59 ∨ w = 60 → 0 ≤ a ∧ a < M) (hc : c = if w = 59 ∨ w = 60 then (w - 50) * 3000 + idn (sy a) else if w = 61 then 33000 else (w - 50) * 3000 + (r - 60) * 1000 + b) : rpM (N + 1) M nd2 sy idn N (fun v => v c) := by
  obtain ⟨n0, n1, n2, n3, n4⟩ := n
  refine ⟨by omega, fun nd' sy' g g2 f v hf => ?_⟩
  obtain ⟨f, rfl⟩ : ∃ f', f = f' + 1 := ⟨f - 1, by omega⟩
  have e : cdM nd' sy' idn N = c := by
    unfold cdM
    rw [g (4 * N) (by omega) (by omega), n1, g (4 * N + 1) (by omega) (by omega), n2, g (4 * N + 2) (by omega) (by omega), n3, g (4 * N + 3) (by omega) (by omega), n4, hc]
    by_cases z : w = 59 ∨ w = 60
    · rw [if_pos z, if_pos z, g2 a (ha z).1 (ha z).2]
    · rw [if_neg z, if_neg z]
  rw [evM, g (4 * N) (by omega) (by omega), n1, if_neg (by omega), if_neg (by omega), if_neg (by omega), e]
abbrev XS : List Int := [5, 6, 7, 8, 9, 10, 11, 13, 14, 46, 47, 48, 49, 50]
/-- the reference's names as a sentence asks them -/
def MPn (σ : jS) (ex : Int → Prop) : Prop := cB 8 (σ 113 4) ∧ (∀ j, 0 ≤ j → j < 8 → lR (σ 118 j)) ∧ ∀ w, 0 < w → (ex w ↔ ¬ fi (fun b => σ 118 b = w) (σ 113 4) = -1)
theorem MPn_s {σ τ : jS} {ex : Int → Prop} (h : MPn σ ex) (e1 : τ 113 = σ 113) (e2 : τ 118 = σ 118) : MPn τ ex := by
  unfold MPn at h ⊢
  rw [e1, e2]
  exact h
def MPp (σ : jS) (t : Int → Int) (L m : Int) (ex : Int → Prop) (R : Int × Int) (n d : Int) : Prop := md t L m R.2 σ ∧ R.1 = 0 ∧ σ 111 47 = n ∧ cB 20 n ∧ σ 111 48 = d - 1 ∧ (0 ≤ σ 111 46 ∧ σ 111 46 ≤ 2 * n) ∧ (0 ≤ σ 111 50 ∧ σ 111 50 ≤ n) ∧ okNd (σ 111 46) (σ 111 50) (σ 137) ∧ okSy (σ 111 50) (σ 138) ∧ MPn σ ex
def MPo (σ : jS) (t : Int → Int) (L m : Int) (idn : Int → Int) (Y : X3) (τ : jS) : Prop := mdT XS [137, 138] σ τ ∧ mR t L m Y.1 τ ∧ (Y.1.1 = 0 → τ 111 47 = Y.2.1 ∧ (σ 111 47 < Y.2.1 ∧ Y.2.1 ≤ 20) ∧ τ 111 48 = σ 111 48 ∧ (σ 111 46 ≤ τ 111 46 ∧ τ 111 46 ≤ σ 111 46 + 2 * (Y.2.1 - σ 111 47) - 1) ∧ (σ 111 50 ≤ τ 111 50 ∧ τ 111 50 ≤ σ 111 50 + (Y.2.1 - σ 111 47)) ∧ (∀ j, j < 4 * σ 111 46 → τ 137 j = σ 137 j) ∧ (∀ j, j < σ 111 50 → τ 138 j = σ 138 j) ∧ okNd (τ 111 46) (τ 111 50) (τ 137) ∧ okSy (τ 111 50) (τ 138) ∧ rpM (τ 111 46) (τ 111 50) (τ 137) (τ 138) idn (τ 111 49) Y.2.2)
theorem md_T {t : Int → Int} {L m q : Int} {X : List Int} {Y : List Nat} {σ τ : jS} (h : md t L m q σ) (hs : mdT X Y σ τ) (hX : ∀ j ∈ ([3, 4, 5, 6, 7, 8, 9, 10, 13] : List Int), j ∉ X) (hY : 112 ∉ Y) : md t L m q τ := by
  unfold md mTp at h ⊢
  rw [hs.2 3 (hX 3 (by decide)), hs.2 4 (hX 4 (by decide)), hs.2 5 (hX 5 (by decide)), hs.2 6 (hX 6 (by decide)), hs.2 7 (hX 7 (by decide)), hs.2 8 (hX 8 (by decide)), hs.2 9 (hX 9 (by decide)), hs.2 13 (hX 13 (by decide)), hs.2 10 (hX 10 (by decide)), hs.1 112 (by decide) hY]
  exact h
theorem mR_T {t : Int → Int} {L m : Int} {R : Int × Int} {X : List Int} {Y : List Nat} {σ τ : jS} (h : mR t L m R σ) (hs : mdT X Y σ τ) (hX : ∀ j ∈ ([3, 4, 5, 6, 7, 8, 9, 10, 11, 13] : List Int), j ∉ X) (hY : 112 ∉ Y) : mR t L m R τ := by
  refine ⟨fun z => md_T (h.1 z) hs (fun j hj => hX j (by simp at hj ⊢; omega)) hY, fun z => ?_⟩
  rw [hs.2 10 (hX 10 (by decide)), hs.2 11 (hX 11 (by decide))]
  exact h.2 z
set_option maxRecDepth 100000 in
set_option maxHeartbeats 4000000 in
theorem c_X13_lays {σ : jS} {w a b r : Int} (hN : 0 ≤ σ 111 46 ∧ σ 111 46 < 60) : Jm 1 miX13_lays [.ref 111, vI w, vI a, vI b, vI r] σ (fun r0 τ => r0 = some (vI (σ 111 46)) ∧ mdT [46] [137] σ τ ∧ τ 111 46 = σ 111 46 + 1 ∧ nwN (σ 111 46) w a b r (σ 137) (τ 137)) := by
  refine jm_ofF (Po := (fun r0 τ => r0 = some (vI (σ 111 46)) ∧ mdT [46] [137] σ τ ∧ τ 111 46 = σ 111 46 + 1 ∧ nwN (σ 111 46) w a b r (σ 137) (τ 137))) (plainFor_of_name (by decide)) (Nat.le_of_ble_eq_true rfl) (lv := [(0, _), (1, _), (2, _), (3, _), (4, _)]) rfl ?_
  refine r_iconst (dc dkX13_lays 0 rfl) (np 1 rfl ?_)
  refine r_aload_n (dc dkX13_lays 1 rfl) rfl (np 2 rfl ?_)
  refine r_gI 46 (dc dkX13_lays 2 rfl) flX13_447 fd_111_46 rfl (np 5 rfl ?_)
  refine r_imul (dc dkX13_lays 3 rfl) (np 6 rfl ?_)
  refine r_istore (lv' := [(5, _), (0, _), (1, _), (2, _), (3, _), (4, _)]) (dc dkX13_lays 4 rfl) (Nat.le_of_ble_eq_true rfl) rfl (np 8 rfl ?_)
  refine r_aload_n (dc dkX13_lays 5 rfl) rfl (np 9 rfl ?_)
  refine r_getR (dc dkX13_lays 6 rfl) flX13_88 fd_111_44 (np 12 rfl ?_)
  refine r_iload (dc dkX13_lays 7 rfl) rfl (np 14 rfl ?_)
  refine r_iload_n (dc dkX13_lays 8 rfl) rfl (np 15 rfl ?_)
  refine r_iast (dc dkX13_lays 9 rfl) ar_137 (by omega) (np 16 rfl ?_)
  refine r_aload_n (dc dkX13_lays 10 rfl) rfl (np 17 rfl ?_)
  refine r_getR (dc dkX13_lays 11 rfl) flX13_88 fd_111_44 (np 20 rfl ?_)
  refine r_iload (dc dkX13_lays 12 rfl) rfl (np 22 rfl ?_)
  refine r_iconst (dc dkX13_lays 13 rfl) (np 23 rfl ?_)
  refine r_iadd (dc dkX13_lays 14 rfl) (np 24 rfl ?_)
  refine r_iload_n (dc dkX13_lays 15 rfl) rfl (np 25 rfl ?_)
  refine r_iast (dc dkX13_lays 16 rfl) ar_137 (by omega) (np 26 rfl ?_)
  refine r_aload_n (dc dkX13_lays 17 rfl) rfl (np 27 rfl ?_)
  refine r_getR (dc dkX13_lays 18 rfl) flX13_88 fd_111_44 (np 30 rfl ?_)
  refine r_iload (dc dkX13_lays 19 rfl) rfl (np 32 rfl ?_)
  refine r_iconst (dc dkX13_lays 20 rfl) (np 33 rfl ?_)
  refine r_iadd (dc dkX13_lays 21 rfl) (np 34 rfl ?_)
  refine r_iload_n (dc dkX13_lays 22 rfl) rfl (np 35 rfl ?_)
  refine r_iast (dc dkX13_lays 23 rfl) ar_137 (by omega) (np 36 rfl ?_)
  refine r_aload_n (dc dkX13_lays 24 rfl) rfl (np 37 rfl ?_)
  refine r_getR (dc dkX13_lays 25 rfl) flX13_88 fd_111_44 (np 40 rfl ?_)
  refine r_iload (dc dkX13_lays 26 rfl) rfl (np 42 rfl ?_)
  refine r_iconst (dc dkX13_lays 27 rfl) (np 43 rfl ?_)
  refine r_iadd (dc dkX13_lays 28 rfl) (np 44 rfl ?_)
  refine r_iload (dc dkX13_lays 29 rfl) rfl (np 46 rfl ?_)
  refine r_iast (dc dkX13_lays 30 rfl) ar_137 (by omega) (np 47 rfl ?_)
  refine r_aload_n (dc dkX13_lays 31 rfl) rfl (np 48 rfl ?_)
  refine r_dup (dc dkX13_lays 32 rfl) rfl (np 49 rfl ?_)
  refine r_gI 46 (dc dkX13_lays 33 rfl) flX13_447 fd_111_46 rfl (np 52 rfl ?_)
  refine r_iconst (dc dkX13_lays 34 rfl) (np 53 rfl ?_)
  refine r_iadd (dc dkX13_lays 35 rfl) (np 54 rfl ?_)
  refine r_pI 46 (dc dkX13_lays 36 rfl) fpX13_447 fd_111_46 rfl (np 57 rfl ?_)
  refine r_aload_n (dc dkX13_lays 37 rfl) rfl (np 58 rfl ?_)
  refine r_gI 46 (dc dkX13_lays 38 rfl) flX13_447 fd_111_46 rfl (np 61 rfl ?_)
  refine r_iconst (dc dkX13_lays 39 rfl) (np 62 rfl ?_)
  refine r_isub (dc dkX13_lays 40 rfl) (np 63 rfl ?_)
  exact r_iret (dc dkX13_lays 41 rfl) rfl (by
      have e46 : ju (ju (ju (ju σ 137 (4 * σ 111 46) w) 137 (4 * σ 111 46 + 1) a) 137 (4 * σ 111 46 + 2) b) 137 (4 * σ 111 46 + 3) r 111 46 = σ 111 46 := by rw [ju_off _ _ _ _ _ (by decide), ju_off _ _ _ _ _ (by decide), ju_off _ _ _ _ _ (by decide), ju_off _ _ _ _ _ (by decide)]
      rw [e46]
      refine ⟨by rw [ju_at]; congr 2; omega, ((((((mdT.refl _ _ _).row (by decide) (by decide)).row (by decide) (by decide)).row (by decide) (by decide)).row (by decide) (by decide)).put (by decide)), by rw [ju_at], fun j hj => ?_, ?_, ?_, ?_, ?_⟩
      · rw [ju_ne (by omega), ju_ne (by omega), ju_ne (by omega), ju_ne (by omega), ju_ne (by omega)]
      · rw [ju_ne (by omega), ju_ne (by omega), ju_ne (by omega), ju_ne (by omega), ju_at]
      · rw [ju_ne (by omega), ju_ne (by omega), ju_ne (by omega), ju_at]
      · rw [ju_ne (by omega), ju_ne (by omega), ju_at]
      · rw [ju_ne (by omega), ju_at])
set_option maxRecDepth 100000 in
set_option maxHeartbeats 4000000 in
theorem c_X13_readNamed {σ : jS} {t : Int → Int} {L m : Int} {ex : Int → Prop} {R : Int × Int} (h0 : R.1 = 0) (hM : md t L m R.2 σ) (hS : MPn σ ex) {w : Int} (hw : w = 9 ∨ w = 10) (hN : 0 ≤ σ 111 46 ∧ σ 111 46 < 60) (hK : 0 ≤ σ 111 50 ∧ σ 111 50 < 20) : Jm 4 miX13_readNamed [.ref 111, vI w] σ (fun r τ => r = some (vI (bI ((nmB t L m ex R).1 = 0))) ∧ mdT [5, 6, 7, 8, 9, 10, 11, 13, 14, 46, 49, 50] [137, 138] σ τ ∧ mR t L m (nmB t L m ex R) τ ∧ ((nmB t L m ex R).1 = 0 → (0 < wQ t L m R.2 ∧ wQ t L m R.2 < 10460353203) ∧ τ 111 46 = σ 111 46 + 1 ∧ τ 111 49 = σ 111 46 ∧ τ 111 50 = σ 111 50 + 1 ∧ nwN (σ 111 46) (50 + w) (σ 111 50) 0 0 (σ 137) (τ 137) ∧ τ 138 (σ 111 50) = wQ t L m R.2 ∧ ∀ j, ¬ j = σ 111 50 → τ 138 j = σ 138 j)) := by
  refine jm_ofF (Po := (fun r τ => r = some (vI (bI ((nmB t L m ex R).1 = 0))) ∧ mdT [5, 6, 7, 8, 9, 10, 11, 13, 14, 46, 49, 50] [137, 138] σ τ ∧ mR t L m (nmB t L m ex R) τ ∧ ((nmB t L m ex R).1 = 0 → (0 < wQ t L m R.2 ∧ wQ t L m R.2 < 10460353203) ∧ τ 111 46 = σ 111 46 + 1 ∧ τ 111 49 = σ 111 46 ∧ τ 111 50 = σ 111 50 + 1 ∧ nwN (σ 111 46) (50 + w) (σ 111 50) 0 0 (σ 137) (τ 137) ∧ τ 138 (σ 111 50) = wQ t L m R.2 ∧ ∀ j, ¬ j = σ 111 50 → τ 138 j = σ 138 j))) (plainFor_of_name (by decide)) (Nat.le_of_ble_eq_true rfl) (lv := [(0, _), (1, _)]) rfl ?_
  refine r_aload_n (dc dkX13_readNamed 0 rfl) rfl (np 1 rfl ?_)
  refine r_pV0 (y' := miX13_isName) (dc dkX13_readNamed 1 rfl) mlX13_238 ceX13_isName ob_111 (Nat.le_of_ble_eq_true rfl) (Nat.le_of_ble_eq_true rfl) (c_X13_isName hM) (np 4 rfl ?_)
  refine r_bn (tgt := 13) (dc dkX13_readNamed 2 rfl) rfl (fun h4 => ?_) (fun h4 => (np 7 rfl ?_))
  · skip
    have hwq : σ 111 13 = wQ t L m R.2 := hM.2.2.2.2.2.2.2.2.2.2.1 (Or.inl h4)
    have wb := wQ_b hM.2.2.2.2.2.1.2 (Or.inl h4)
    have hx := hS.2.2 (wQ t L m R.2) wb.1
    have fs := fi_spec (fun b => σ 118 b = σ 111 13) (n := σ 113 4) hS.1.1
    have s1 := hS.1
    have fb : iR (fi (fun b => σ 118 b = σ 111 13) (σ 113 4)) := by omega
    rw [← hwq] at hx
    refine r_aload_n (dc dkX13_readNamed 7 rfl) rfl (np 14 rfl ?_)
    refine r_getR (dc dkX13_readNamed 8 rfl) flX13_28 fd_111_20 (np 17 rfl ?_)
    refine r_aload_n (dc dkX13_readNamed 9 rfl) rfl (np 18 rfl ?_)
    refine r_pV0 (y' := miX13_bands) (dc dkX13_readNamed 10 rfl) mlX13_276 ceX13_bands ob_111 (Nat.le_of_ble_eq_true rfl) (Nat.le_of_ble_eq_true rfl) (c_X13_bands ) (np 21 rfl ?_)
    refine r_aload_n (dc dkX13_readNamed 11 rfl) rfl (np 22 rfl ?_)
    refine r_gL 13 (dc dkX13_readNamed 12 rfl) flX13_133 fd_111_13 rfl (np 25 rfl ?_)
    refine r_pS3 (y' := miX13_findIn) (dc dkX13_readNamed 13 rfl) mlX13_242 seX13_findIn (Nat.le_of_ble_eq_true rfl) (Nat.le_of_ble_eq_true rfl) (c_X13_findIn ar_118 (by decide) hS.1 hS.2.1 (by rw [hwq]; exact ⟨by omega, by omega⟩)) (np 28 rfl ?_)
    refine r_iconst (dc dkX13_readNamed 14 rfl) (np 29 rfl ?_)
    refine r_icmp_ne (tgt := 38) (dc dkX13_readNamed 15 rfl) rfl fb (by first | assumption | decide | omega) (fun h29 => ?_) (fun h29 => (np 32 rfl ?_))
    · skip
      refine r_aload_n (dc dkX13_readNamed 20 rfl) rfl (np 39 rfl ?_)
      refine r_getR (dc dkX13_readNamed 21 rfl) flX13_91 fd_111_45 (np 42 rfl ?_)
      refine r_aload_n (dc dkX13_readNamed 22 rfl) rfl (np 43 rfl ?_)
      refine r_gI 50 (dc dkX13_readNamed 23 rfl) flX13_483 fd_111_50 rfl (np 46 rfl ?_)
      refine r_aload_n (dc dkX13_readNamed 24 rfl) rfl (np 47 rfl ?_)
      refine r_gL 13 (dc dkX13_readNamed 25 rfl) flX13_133 fd_111_13 rfl (np 50 rfl ?_)
      refine r_last (dc dkX13_readNamed 26 rfl) ar_138 (by omega) (np 51 rfl ?_)
      refine r_aload_n (dc dkX13_readNamed 27 rfl) rfl (np 52 rfl ?_)
      refine r_aload_n (dc dkX13_readNamed 28 rfl) rfl (np 53 rfl ?_)
      refine r_bipush (dc dkX13_readNamed 29 rfl) bp_50 (np 55 rfl ?_)
      refine r_iload_n (dc dkX13_readNamed 30 rfl) rfl (np 56 rfl ?_)
      refine r_iadd (dc dkX13_readNamed 31 rfl) (np 57 rfl ?_)
      refine r_aload_n (dc dkX13_readNamed 32 rfl) rfl (np 58 rfl ?_)
      refine r_gI 50 (dc dkX13_readNamed 33 rfl) flX13_483 fd_111_50 rfl (np 61 rfl ?_)
      refine r_iconst (dc dkX13_readNamed 34 rfl) (np 62 rfl ?_)
      refine r_iconst (dc dkX13_readNamed 35 rfl) (np 63 rfl ?_)
      refine r_cV4 (y' := miX13_lays) (dc dkX13_readNamed 36 rfl) mlX13_456 ceX13_lays ob_111 (Nat.le_of_ble_eq_true rfl) (Nat.le_of_ble_eq_true rfl) (c_X13_lays (by rw [ju_off _ _ _ _ _ (by decide)]; exact hN)) (fun r τ3 hp3 => (np 66 rfl ?_))
      obtain ⟨rfl, hs3, n3, w3⟩ := hp3
      rw [ju_off _ _ _ _ _ (by decide)] at n3 w3
      rw [ju_off _ _ _ _ _ (by decide)] at w3
      have f3 : mdT [5, 6, 7, 8, 9, 10, 11, 13, 14, 46, 49, 50] [137, 138] σ τ3 := ((mdT.refl _ _ _).row (by decide) (by decide)).tr (hs3.wide (by decide) (by decide))
      refine r_pI 49 (dc dkX13_readNamed 37 rfl) fpX13_453 fd_111_49 rfl (np 69 rfl ?_)
      refine r_aload_n (dc dkX13_readNamed 38 rfl) rfl (np 70 rfl ?_)
      refine r_dup (dc dkX13_readNamed 39 rfl) rfl (np 71 rfl ?_)
      refine r_gI 50 (dc dkX13_readNamed 40 rfl) flX13_483 fd_111_50 rfl (np 74 rfl ?_)
      refine r_iconst (dc dkX13_readNamed 41 rfl) (np 75 rfl ?_)
      refine r_iadd (dc dkX13_readNamed 42 rfl) (np 76 rfl ?_)
      refine r_pI 50 (dc dkX13_readNamed 43 rfl) fpX13_483 fd_111_50 rfl (np 79 rfl ?_)
      refine r_aload_n (dc dkX13_readNamed 44 rfl) rfl (np 80 rfl ?_)
      refine r_cV0 (y' := miX13_go) (dc dkX13_readNamed 45 rfl) mlX13_179 ceX13_go ob_111 (Nat.le_of_ble_eq_true rfl) (Nat.le_of_ble_eq_true rfl) (c_goR h0 (md_T hM (((((mdT.refl [46, 49, 50] [137, 138] _).row (by decide) (by decide)).tr (hs3.wide (by decide) (by decide))).put (by decide)).put (by decide)) (by decide) (by decide))) (fun r τ4 hp4 => (np 83 rfl ?_))
      obtain ⟨rfl, hs4, hM4⟩ := hp4
      refine r_iconst (dc dkX13_readNamed 46 rfl) (np 84 rfl ?_)
      exact r_zret (dc dkX13_readNamed 47 rfl) rfl (by first | exact Or.inl rfl | exact Or.inr rfl) (by
          have xx : nmB t L m ex R = stR t L m R := by rw [nmB, gte_t ⟨h0, h4⟩, gte_t (by rw [← hwq]; exact hx.mpr h29)]
          rw [xx]
          have e50 : τ3 111 50 = σ 111 50 := by rw [hs3.2 50 (by decide), ju_off _ _ _ _ _ (by decide)]
          have e138 : τ4 138 = ju σ 138 (σ 111 50) (σ 111 13) 138 := by rw [hs4.1 138 (by decide), ju_off _ _ _ _ _ (by decide), ju_off _ _ _ _ _ (by decide), hs3.1 138 (by decide) (by decide)]
          refine ⟨by rw [bI_t (by rw [stR_f]; exact h0)], ((f3.put (by decide)).put (by decide)).trS hs4 (by decide), hM4, fun _ => ⟨⟨wb.1, wb.2.1⟩, ?_, ?_, ?_, ?_, ?_, fun j hj => ?_⟩⟩
          · rw [hs4.2 46 (by decide), ju_ne (by decide), ju_ne (by decide), n3]
          · rw [hs4.2 49 (by decide), ju_ne (by decide), ju_at, ju_off _ _ _ _ _ (by decide)]
          · rw [hs4.2 50 (by decide), ju_at, ju_ne (by decide), e50]
          · rw [hs4.1 137 (by decide), ju_off _ _ _ _ _ (by decide), ju_off _ _ _ _ _ (by decide)]
            exact w3
          · rw [e138, ju_at, hwq]
          · rw [e138, ju_ne (by omega)])
    refine r_aload_n (dc dkX13_readNamed 16 rfl) rfl (np 33 rfl ?_)
    refine r_iconst (dc dkX13_readNamed 17 rfl) (np 34 rfl ?_)
    refine r_cV1 (y' := miX13_bad) (dc dkX13_readNamed 18 rfl) mlX13_165 ceX13_bad ob_111 (Nat.le_of_ble_eq_true rfl) (Nat.le_of_ble_eq_true rfl) (c_bdR h0 hM (by decide) (fun z => by omega)) (fun r τ2 hp2 => (np 37 rfl ?_))
    obtain ⟨rfl, hs2, hM2⟩ := hp2
    exact r_zret (dc dkX13_readNamed 19 rfl) rfl (by first | exact Or.inl rfl | exact Or.inr rfl) (by
        have xx : nmB t L m ex R = flR t L m 3 R := by rw [nmB, gte_t ⟨h0, h4⟩, gte_f (fun z => by rw [← hwq] at z; exact hx.mp z h29)]
        rw [xx]
        exact ⟨by rw [bI_f (flR_f (by decide))], mdT.of hs2 (by decide), hM2, fun z => absurd z (flR_f (by decide))⟩)
  refine r_aload_n (dc dkX13_readNamed 3 rfl) rfl (np 8 rfl ?_)
  refine r_iconst (dc dkX13_readNamed 4 rfl) (np 9 rfl ?_)
  refine r_cV1 (y' := miX13_bad) (dc dkX13_readNamed 5 rfl) mlX13_165 ceX13_bad ob_111 (Nat.le_of_ble_eq_true rfl) (Nat.le_of_ble_eq_true rfl) (c_bdR h0 hM (by decide) (fun _ => rfl)) (fun r τ2 hp2 => (np 12 rfl ?_))
  obtain ⟨rfl, hs2, hM2⟩ := hp2
  exact r_zret (dc dkX13_readNamed 6 rfl) rfl (by first | exact Or.inl rfl | exact Or.inr rfl) (by
      have xx : nmB t L m ex R = flR t L m 1 R := by rw [nmB, gte_f (fun z => h4 z.2)]
      rw [xx]
      exact ⟨by rw [bI_f (flR_f (by decide))], mdT.of hs2 (by decide), hM2, fun z => absurd z (flR_f (by decide))⟩)
set_option maxRecDepth 100000 in
set_option maxHeartbeats 4000000 in
theorem c_X13_readCompare {σ : jS} {t : Int → Int} {L m : Int} {R : Int × Int} (h0 : R.1 = 0) (hM : md t L m R.2 σ) {w : Int} (hw : 12 ≤ w ∧ w ≤ 16) (hN : 0 ≤ σ 111 46 ∧ σ 111 46 < 60) : Jm 4 miX13_readCompare [.ref 111, vI w] σ (fun r τ => r = some (vI (bI ((ms2 t L m R).1 = 0))) ∧ mdT [5, 6, 7, 8, 9, 10, 11, 13, 14, 46, 49, 50] [137, 138] σ τ ∧ mR t L m (ms2 t L m R) τ ∧ ((ms2 t L m R).1 = 0 → (60 ≤ tK t L m R.2 ∧ tK t L m R.2 ≤ 62) ∧ cB 999 (nQ t L m (ms1 t L m R).2) ∧ τ 111 46 = σ 111 46 + 1 ∧ τ 111 49 = σ 111 46 ∧ τ 111 50 = σ 111 50 ∧ nwN (σ 111 46) (50 + w) 0 (nQ t L m (ms1 t L m R).2) (tK t L m R.2) (σ 137) (τ 137) ∧ τ 138 = σ 138)) := by
  have kb := tK_b (t := t) (L := L) (m := m) (p := R.2)
  refine jm_ofF (Po := (fun r τ => r = some (vI (bI ((ms2 t L m R).1 = 0))) ∧ mdT [5, 6, 7, 8, 9, 10, 11, 13, 14, 46, 49, 50] [137, 138] σ τ ∧ mR t L m (ms2 t L m R) τ ∧ ((ms2 t L m R).1 = 0 → (60 ≤ tK t L m R.2 ∧ tK t L m R.2 ≤ 62) ∧ cB 999 (nQ t L m (ms1 t L m R).2) ∧ τ 111 46 = σ 111 46 + 1 ∧ τ 111 49 = σ 111 46 ∧ τ 111 50 = σ 111 50 ∧ nwN (σ 111 46) (50 + w) 0 (nQ t L m (ms1 t L m R).2) (tK t L m R.2) (σ 137) (τ 137) ∧ τ 138 = σ 138))) (plainFor_of_name (by decide)) (Nat.le_of_ble_eq_true rfl) (lv := [(0, _), (1, _)]) rfl ?_
  refine r_aload_n (dc dkX13_readCompare 0 rfl) rfl (np 1 rfl ?_)
  refine r_bipush (dc dkX13_readCompare 1 rfl) bp_60 (np 3 rfl ?_)
  refine r_pV1 (y' := miX13_isSign) (dc dkX13_readCompare 2 rfl) mlX13_182 ceX13_isSign ob_111 (Nat.le_of_ble_eq_true rfl) (Nat.le_of_ble_eq_true rfl) (c_X13_isSign hM (by decide)) (np 6 rfl ?_)
  have jj33 : 60 ≤ tK t L m R.2 ∧ tK t L m R.2 ≤ 62 → jR 4 miX13_readCompare (fun r τ => r = some (vI (bI ((ms2 t L m R).1 = 0))) ∧ mdT [5, 6, 7, 8, 9, 10, 11, 13, 14, 46, 49, 50] [137, 138] σ τ ∧ mR t L m (ms2 t L m R) τ ∧ ((ms2 t L m R).1 = 0 → (60 ≤ tK t L m R.2 ∧ tK t L m R.2 ≤ 62) ∧ cB 999 (nQ t L m (ms1 t L m R).2) ∧ τ 111 46 = σ 111 46 + 1 ∧ τ 111 49 = σ 111 46 ∧ τ 111 50 = σ 111 50 ∧ nwN (σ 111 46) (50 + w) 0 (nQ t L m (ms1 t L m R).2) (tK t L m R.2) (σ 137) (τ 137) ∧ τ 138 = σ 138)) 33 [(0, .ref 111), (1, vI w)] [] σ := by
    intro hsg
    refine r_aload_n (dc dkX13_readCompare 16 rfl) rfl (np 34 rfl ?_)
    refine r_gI 9 (dc dkX13_readCompare 17 rfl) flX13_130 fd_111_9 rfl (np 37 rfl ?_)
    refine r_eqI (tK t L m R.2) (hM.2.2.2.2.2.2.2.2.2.2.2.1 (by omega)) ?_
    refine r_istore_n (lv' := [(2, _), (0, _), (1, _)]) (dc dkX13_readCompare 18 rfl) (Nat.le_of_ble_eq_true rfl) rfl (np 38 rfl ?_)
    refine r_aload_n (dc dkX13_readCompare 19 rfl) rfl (np 39 rfl ?_)
    refine r_cV0 (y' := miX13_go) (dc dkX13_readCompare 20 rfl) mlX13_179 ceX13_go ob_111 (Nat.le_of_ble_eq_true rfl) (Nat.le_of_ble_eq_true rfl) (c_goR h0 hM) (fun r τ2 hp2 => (np 42 rfl ?_))
    obtain ⟨rfl, hs2, hM2⟩ := hp2
    have x1 : ms1 t L m R = stR t L m R := by rw [ms1, gte_t hsg]
    rw [← x1] at hM2
    have r1 : (ms1 t L m R).1 = 0 := by rw [x1, stR_f]; exact h0
    refine r_aload_n (dc dkX13_readCompare 21 rfl) rfl (np 43 rfl ?_)
    refine r_iconst (dc dkX13_readCompare 22 rfl) (np 44 rfl ?_)
    refine r_sipush (dc dkX13_readCompare 23 rfl) sp_999 (np 47 rfl ?_)
    refine r_cV2 (y' := miX13_readNumber) (dc dkX13_readCompare 24 rfl) mlX13_235 ceX13_readNumber ob_111 (Nat.le_of_ble_eq_true rfl) (Nat.le_of_ble_eq_true rfl) (c_nmR r1 (hM2.1 r1) (by decide) (by decide)) (fun r τ3 hp3 => (np 50 rfl ?_))
    obtain ⟨rfl, hs3, hM3, ht3⟩ := hp3
    have q2 := md_q (hM2.1 r1)
    have x2 : nmR t L m 0 999 (ms1 t L m R) = ms2 t L m R := by
      by_cases z : snR t L m 2 (ms1 t L m R)
      · have nb := nQ_b q2.2 z.2
        rw [nmR, ckR_y z (by omega), ms2, gte_t z]
      · rw [nmR, ckR_n z, stR_n (flR_f (by decide)), ms2, gte_f z]
    rw [x2] at hM3 ht3
    rw [x2]
    have n46 : τ3 111 46 = σ 111 46 := by rw [hs3.2 46 (by decide), hs2.2 46 (by decide)]
    refine r_bn (tgt := 55) (dc dkX13_readCompare 25 rfl) rfl (fun h50 => ?_) (fun h50 => (np 53 rfl ?_))
    · skip
      refine r_aload_n (dc dkX13_readCompare 28 rfl) rfl (np 56 rfl ?_)
      refine r_aload_n (dc dkX13_readCompare 29 rfl) rfl (np 57 rfl ?_)
      refine r_bipush (dc dkX13_readCompare 30 rfl) bp_50 (np 59 rfl ?_)
      refine r_iload_n (dc dkX13_readCompare 31 rfl) rfl (np 60 rfl ?_)
      refine r_iadd (dc dkX13_readCompare 32 rfl) (np 61 rfl ?_)
      refine r_iconst (dc dkX13_readCompare 33 rfl) (np 62 rfl ?_)
      refine r_aload_n (dc dkX13_readCompare 34 rfl) rfl (np 63 rfl ?_)
      refine r_gI 14 (dc dkX13_readCompare 35 rfl) flX13_172 fd_111_14 rfl (np 66 rfl ?_)
      refine r_iload_n (dc dkX13_readCompare 36 rfl) rfl (np 67 rfl ?_)
      refine r_cV4 (y' := miX13_lays) (dc dkX13_readCompare 37 rfl) mlX13_456 ceX13_lays ob_111 (Nat.le_of_ble_eq_true rfl) (Nat.le_of_ble_eq_true rfl) (c_X13_lays (by rw [n46]; exact hN)) (fun r τ4 hp4 => (np 70 rfl ?_))
      obtain ⟨rfl, hs4, n4, w4⟩ := hp4
      refine r_pI 49 (dc dkX13_readCompare 38 rfl) fpX13_453 fd_111_49 rfl (np 73 rfl ?_)
      refine r_iconst (dc dkX13_readCompare 39 rfl) (np 74 rfl ?_)
      exact r_zret (dc dkX13_readCompare 40 rfl) rfl (by first | exact Or.inl rfl | exact Or.inr rfl) (by
          have z : snR t L m 2 (ms1 t L m R) := Classical.byContradiction (fun z => by rw [ms2, gte_f z] at h50; exact flR_f (by decide) h50)
          have nb := nQ_b q2.2 z.2
          have F3 : mdT [5, 6, 7, 8, 9, 10, 11, 13, 14, 46, 49, 50] [137, 138] σ τ3 := (mdT.of hs2 (by decide)).trS hs3 (by decide)
          have a3 := ht3 h50
          rw [n46] at n4 w4
          rw [a3, hs3.1 137 (by decide), hs2.1 137 (by decide)] at w4
          rw [n46]
          refine ⟨by rw [bI_t h50], (F3.tr (hs4.wide (by decide) (by decide))).put (by decide), mR_T (mR_T hM3 hs4 (by decide) (by decide)) ((mdT.refl [49] [] _).put (by decide)) (by decide) (by decide), fun _ => ⟨hsg, nb, ?_, ju_at _ _ _ _, ?_, ?_, ?_⟩⟩
          · rw [ju_ne (by decide)]; exact n4
          · rw [ju_ne (by decide), hs4.2 50 (by decide), hs3.2 50 (by decide), hs2.2 50 (by decide)]
          · rw [ju_off _ _ _ _ _ (by decide)]; exact w4
          · rw [ju_off _ _ _ _ _ (by decide), hs4.1 138 (by decide) (by decide), hs3.1 138 (by decide), hs2.1 138 (by decide)])
    refine r_iconst (dc dkX13_readCompare 26 rfl) (np 54 rfl ?_)
    exact r_zret (dc dkX13_readCompare 27 rfl) rfl (by first | exact Or.inl rfl | exact Or.inr rfl) ⟨by rw [bI_f h50], (mdT.of hs2 (by decide)).trS hs3 (by decide), hM3, fun z => absurd z h50⟩
  refine r_bn (tgt := 33) (dc dkX13_readCompare 3 rfl) rfl (fun h6 => ?_) (fun h6 => (np 9 rfl ?_))
  · skip
    refine r_pick [0, 1] rfl ?_
    exact jj33 (by omega)
  refine r_aload_n (dc dkX13_readCompare 4 rfl) rfl (np 10 rfl ?_)
  refine r_bipush (dc dkX13_readCompare 5 rfl) bp_61 (np 12 rfl ?_)
  refine r_pV1 (y' := miX13_isSign) (dc dkX13_readCompare 6 rfl) mlX13_182 ceX13_isSign ob_111 (Nat.le_of_ble_eq_true rfl) (Nat.le_of_ble_eq_true rfl) (c_X13_isSign hM (by decide)) (np 15 rfl ?_)
  refine r_bn (tgt := 33) (dc dkX13_readCompare 7 rfl) rfl (fun h15 => ?_) (fun h15 => (np 18 rfl ?_))
  · skip
    refine r_pick [0, 1] rfl ?_
    exact jj33 (by omega)
  refine r_aload_n (dc dkX13_readCompare 8 rfl) rfl (np 19 rfl ?_)
  refine r_bipush (dc dkX13_readCompare 9 rfl) bp_62 (np 21 rfl ?_)
  refine r_pV1 (y' := miX13_isSign) (dc dkX13_readCompare 10 rfl) mlX13_182 ceX13_isSign ob_111 (Nat.le_of_ble_eq_true rfl) (Nat.le_of_ble_eq_true rfl) (c_X13_isSign hM (by decide)) (np 24 rfl ?_)
  refine r_bn (tgt := 33) (dc dkX13_readCompare 11 rfl) rfl (fun h24 => ?_) (fun h24 => (np 27 rfl ?_))
  · skip
    refine r_pick [0, 1] rfl ?_
    exact jj33 (by omega)
  refine r_aload_n (dc dkX13_readCompare 12 rfl) rfl (np 28 rfl ?_)
  refine r_iconst (dc dkX13_readCompare 13 rfl) (np 29 rfl ?_)
  refine r_cV1 (y' := miX13_bad) (dc dkX13_readCompare 14 rfl) mlX13_165 ceX13_bad ob_111 (Nat.le_of_ble_eq_true rfl) (Nat.le_of_ble_eq_true rfl) (c_bdR h0 hM (by decide) (fun _ => rfl)) (fun r τ2 hp2 => (np 32 rfl ?_))
  obtain ⟨rfl, hs2, hM2⟩ := hp2
  exact r_zret (dc dkX13_readCompare 15 rfl) rfl (by first | exact Or.inl rfl | exact Or.inr rfl) (by
      have x0 : ¬ (flR t L m 1 R).1 = 0 := flR_f (by decide)
      have x1 : ms1 t L m R = flR t L m 1 R := by rw [ms1, gte_f (by omega), stR_n x0]
      have xx : ms2 t L m R = flR t L m 1 R := by rw [ms2, x1, gte_f (fun z => x0 z.1), flR_n x0]
      rw [xx]
      exact ⟨by rw [bI_f x0], mdT.of hs2 (by decide), hM2, fun z => absurd z x0⟩)
