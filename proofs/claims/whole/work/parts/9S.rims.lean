/-! ===== the places along a band are such a rim ===== -/
theorem fl_one {h : Int → Int} {g : Int} (hg : 0 ≤ g) : ((fl (fun s => [h s]) g).length : Int) = g := by
  have key : ∀ m : Nat, (flN (fun s => [h s]) m).length = m := by
    intro m
    induction m with
    | zero => rfl
    | succ m ih => rw [flN, List.length_append, ih]; rfl
  unfold fl
  rw [key]; omega
theorem fl_get {f : Int → List Int} {n k : Int} {t : Nat} (k0 : 0 ≤ k) (k1 : k < n) (ht : t < (f k).length) : (fl f n).getD ((fl f k).length + t) 0 = (f k).getD t 0 := by
  obtain ⟨r, e⟩ := fl_pre (f := f) k0 k1
  rw [← e, List.getD_eq_getElem?_getD, List.getD_eq_getElem?_getD, List.append_assoc, List.getElem?_append_right (by omega), Nat.add_sub_cancel_left, List.getElem?_append_left ht]
theorem fl_onet {h : Int → Int} {g t : Int} (t0 : 0 ≤ t) (t1 : t < g) : (fl (fun s => [h s]) g).getD t.toNat 0 = h t := by
  have a := fl_get (f := fun s => [h s]) (t := 0) t0 t1 (by simp)
  have b := fl_one (h := h) t0
  rw [show (fl (fun s => [h s]) t).length + 0 = t.toNat by omega] at a
  rw [a]; rfl
def off (P : Int → Int) (k : Int) : Int := smI (fun i => pts (P i) (P (i + 1))) k
theorem pts_0 (a b : Int) : 0 ≤ pts a b := by unfold pts gd; omega
theorem off_len {P : Int → Int} {m : Int} (hm : 0 ≤ m) : ((fl (ALs P) m).length : Int) = off P m := by
  have key : ∀ k : Nat, ((fl (ALs P) k).length : Int) = off P k := by
    intro k
    induction k with
    | zero => rfl
    | succ k ih =>
      rw [show ((k + 1 : Nat) : Int) = (k : Int) + 1 by omega, fl_s _ (by omega), List.length_append]
      unfold off at *
      rw [smI_s _ (by omega), ← ih]
      have := fl_one (h := fun s => ALf (P k) (P (k + 1)) s) (pts_0 (P k) (P (k + 1)))
      unfold ALs
      omega
  have := key m.toNat
  rw [show ((m.toNat : Nat) : Int) = m by omega] at this
  exact this
theorem off_0 (P : Int → Int) : off P 0 = 0 := rfl
theorem off_s (P : Int → Int) {k : Int} (h : 0 ≤ k) : off P (k + 1) = off P k + pts (P k) (P (k + 1)) := smI_s _ h
theorem off_mono (P : Int → Int) {k l : Int} (h : 0 ≤ k) (hl : k ≤ l) : off P k ≤ off P l := by
  have e := smI_split (fun i => pts (P i) (P (i + 1))) h (show 0 ≤ l - k by omega)
  rw [show k + (l - k) = l by omega] at e
  have g := smI_ge (f := fun i => pts (P (k + i)) (P (k + i + 1))) (n := l - k) (fun i _ _ => pts_0 _ _)
  unfold off
  omega
theorem alN_off {n : Int} {P : Int → Int} (hn : 0 ≤ n) : alN n P = off P n := off_len hn
theorem al_get {n : Int} {P : Int → Int} {k t : Int} (k0 : 0 ≤ k) (k1 : k < n) (t0 : 0 ≤ t) (t1 : t < pts (P k) (P (k + 1))) : alP n P (off P k + t) = ALf (P k) (P (k + 1)) t := by
  have a := off_len (P := P) k0
  have b := fl_one (h := fun s => ALf (P k) (P (k + 1)) s) (pts_0 (P k) (P (k + 1)))
  have c := fl_get (f := ALs P) (t := t.toNat) k0 k1 (by unfold ALs; omega)
  unfold alP ALL
  rw [show (off P k + t).toNat = (fl (ALs P) k).length + t.toNat by omega, c]
  exact fl_onet t0 t1
theorem al_ex {P : Int → Int} {m k : Int} (hm : 0 ≤ m) (k0 : 0 ≤ k) (k1 : k < off P m) : ∃ i t, 0 ≤ i ∧ i < m ∧ 0 ≤ t ∧ t < pts (P i) (P (i + 1)) ∧ k = off P i + t := by
  have key : ∀ j : Nat, (j : Int) ≤ m → k < off P j → ∃ i t, 0 ≤ i ∧ i < m ∧ 0 ≤ t ∧ t < pts (P i) (P (i + 1)) ∧ k = off P i + t := by
    intro j
    induction j with
    | zero => intro _ h; have : off P ((0 : Nat) : Int) = 0 := rfl; omega
    | succ j ih =>
      intro hj h
      by_cases c : k < off P j
      · exact ih (by omega) c
      · rw [show ((j + 1 : Nat) : Int) = (j : Int) + 1 by omega, off_s P (by omega)] at h
        exact ⟨j, k - off P j, by omega, by omega, by omega, by omega, by omega⟩
  exact key m.toNat (by omega) (by rw [show ((m.toNat : Nat) : Int) = m by omega]; exact k1)
/-- the places on one side -/
theorem al_pts {a b : Int} (ha : isPg a) (hb : isPg b) (n : ¬ a = b) : ∃ dx dy : Int, 0 < pts a b ∧ dx * pts a b = b % 10 - a % 10 ∧ dy * pts a b = b / 10 - a / 10 ∧ ∀ t, 0 ≤ t → t ≤ pts a b → isPg (ALf a b t) ∧ ALf a b t % 10 = a % 10 + dx * t ∧ ALf a b t / 10 = a / 10 + dy * t := by
  have d1 : pts a b ∣ (b % 10 - a % 10) := by
    have := gd_dl (a % 10 - b % 10) (a / 10 - b / 10)
    rw [show b % 10 - a % 10 = -(a % 10 - b % 10) by omega]
    exact Int.dvd_neg.mpr this
  have d2 : pts a b ∣ (b / 10 - a / 10) := by
    have := gd_dr (a % 10 - b % 10) (a / 10 - b / 10)
    rw [show b / 10 - a / 10 = -(a / 10 - b / 10) by omega]
    exact Int.dvd_neg.mpr this
  have g0 := pts_0 a b
  obtain ⟨dx, ex⟩ := d1
  obtain ⟨dy, ey⟩ := d2
  have g1 : 0 < pts a b := by
    by_cases z : pts a b = 0
    · rw [z, Int.zero_mul] at ex ey
      exact absurd (show a = b by omega) n
    · omega
  refine ⟨dx, dy, g1, by rw [Int.mul_comm, ← ex], by rw [Int.mul_comm, ← ey], fun t t0 t1 => ?_⟩
  have bd : ∀ u v d : Int, 0 ≤ u → u ≤ 9 → 0 ≤ v → v ≤ 9 → v - u = pts a b * d → 0 ≤ u + d * t ∧ u + d * t ≤ 9 := by
    intro u v d u0 u9 v0 v9 e
    rcases Int.le_total 0 d with he | he
    · have q1 := Int.mul_nonneg he t0
      have q2 := Int.mul_le_mul_of_nonneg_left t1 he
      rw [Int.mul_comm d (pts a b)] at q2
      omega
    · have q1 := Int.mul_nonneg (show 0 ≤ -d by omega) t0
      have q2 := Int.mul_le_mul_of_nonneg_left t1 (show 0 ≤ -d by omega)
      rw [Int.neg_mul, Int.neg_mul, Int.mul_comm d (pts a b)] at q2
      rw [Int.neg_mul] at q1
      omega
  have fx : ALx a b (pts a b) t = a % 10 + dx * t := by unfold ALx; rw [ex, Int.mul_tdiv_cancel_left _ (by omega)]
  have fy : ALy a b (pts a b) t = a / 10 + dy * t := by unfold ALy; rw [ey, Int.mul_tdiv_cancel_left _ (by omega)]
  have bx := bd (a % 10) (b % 10) dx (by omega) (by omega) (by omega) (by omega) ex
  have by_ := bd (a / 10) (b / 10) dy (by omega) (by omega) (by omega) (by omega) ey
  unfold ALf
  rw [fx, fy]
  omega
theorem al_lv {a b : Int} (ha : isPg a) (hb : isPg b) (n : ¬ a = b) : ∃ d : Int, ¬ d = 0 ∧ 0 < pts a b ∧ lv b = lv a + d * pts a b ∧ ALf a b 0 = a ∧ ALf a b (pts a b) = b ∧ (∀ t, 0 ≤ t → t ≤ pts a b → isPg (ALf a b t) ∧ lv (ALf a b t) = lv a + d * t ∧ tn a b (ALf a b t) = 0) ∧ smI (fun t => sh (ALf a b t) (ALf a b (t + 1))) (pts a b) = sh a b := by
  obtain ⟨dx, dy, g0, ex, ey, h⟩ := al_pts ha hb n
  have lb : lv b = lv a + (20 * dy - dx) * pts a b := by
    unfold lv
    rw [Int.sub_mul, Int.mul_assoc, ex, ey]; omega
  refine ⟨20 * dy - dx, fun z => n (lv_i ?_), g0, lb, ?_, ?_, fun t t0 t1 => ?_, ?_⟩
  · rw [z, Int.zero_mul] at lb; omega
  · have := h 0 (by omega) (by omega); rw [Int.mul_zero, Int.mul_zero] at this; omega
  · have := h _ (by omega) (Int.le_refl _); rw [ex, ey] at this; omega
  · obtain ⟨h1, h2, h3⟩ := h t t0 t1
    refine ⟨h1, ?_, ?_⟩
    · unfold lv; rw [h2, h3]; grind
    · unfold tn crs; rw [h2, h3, ← ex, ← ey]; grind
  · rw [smI_congr (g := fun t => (a % 10) * dy - (a / 10) * dx) (fun t t0 t1 => ?_)]
    · have key : ∀ (c : Int) (m : Nat), sm (fun _ => c) m = m * c := by
        intro c m
        induction m with
        | zero => show (0 : Int) = _; simp
        | succ m ih => show sm (fun _ => c) m + c = _; rw [ih, show ((m + 1 : Nat) : Int) = (m : Int) + 1 by omega]; grind
      unfold smI
      rw [key, show (((pts a b).toNat : Nat) : Int) = pts a b by omega]
      unfold sh
      rw [show b / 10 = a / 10 + dy * pts a b by omega, show b % 10 = a % 10 + dx * pts a b by omega]
      grind
    · obtain ⟨_, x1, y1⟩ := h t t0 (by omega)
      obtain ⟨_, x2, y2⟩ := h (t + 1) (by omega) (by omega)
      unfold sh
      rw [x1, y1, x2, y2]
      grind
/-- a side between two places of a line is as the line -/
theorem sub_FS {a b c d : Int} (ha : isPg a) (hb : isPg b) (n : ¬ a = b) (hc : isPg c) (hd : isPg d) (m : ¬ c = d) (h1 : tn a b c = 0) (h2 : tn a b d = 0) (s : Int) : FS c d s = FS a b s := by
  have dl : ¬ lv b - lv a = 0 := fun z => n (lv_i (by omega))
  have z1 := FS_p ha hb n c
  have z2 := FS_p ha hb n d
  rw [h1, Int.mul_zero] at z1
  rw [h2, Int.mul_zero] at z2
  have y1 : ps c - FS a b (2 * lv c) = 0 := by rcases Int.mul_eq_zero.mp z1 with w | w; exact absurd w dl; exact w
  have y2 : ps d - FS a b (2 * lv d) = 0 := by rcases Int.mul_eq_zero.mp z2 with w | w; exact absurd w dl; exact w
  have f1 := FS_a c d
  have f2 := FS_b hc hd m
  have dc : ¬ lv d - lv c = 0 := fun z => m (lv_i (by omega))
  have em : mS c d = mS a b := by
    refine Int.eq_of_mul_eq_mul_right dc ?_
    unfold FS at *
    grind
  unfold FS at *
  rw [em] at f1 ⊢
  omega
theorem FS_on {a b c : Int} (ha : isPg a) (hb : isPg b) (n : ¬ a = b) (h1 : tn a b c = 0) : FS a b (2 * lv c) = ps c := by
  have dl : ¬ lv b - lv a = 0 := fun z => n (lv_i (by omega))
  have z1 := FS_p ha hb n c
  rw [h1, Int.mul_zero] at z1
  have : ps c - FS a b (2 * lv c) = 0 := by rcases Int.mul_eq_zero.mp z1 with w | w; exact absurd w dl; exact w
  omega
theorem mul_cmp {d t g : Int} (h0 : 0 ≤ t) (h1 : t ≤ g) : (0 ≤ d → 0 ≤ d * t ∧ d * t ≤ d * g) ∧ (d ≤ 0 → d * t ≤ 0 ∧ d * g ≤ d * t) := by
  refine ⟨fun g0 => ⟨Int.mul_nonneg g0 h0, Int.mul_le_mul_of_nonneg_left h1 g0⟩, fun g0 => ?_⟩
  have a := Int.mul_nonneg (show 0 ≤ -d by omega) h0
  have b := Int.mul_le_mul_of_nonneg_left h1 (show 0 ≤ -d by omega)
  rw [Int.neg_mul] at a
  rw [Int.neg_mul, Int.neg_mul] at b
  omega
/-- all that is needed of a part of a side -/
def subd (a b c d : Int) : Prop := isPg c ∧ isPg d ∧ ¬ c = d ∧ tn a b c = 0 ∧ tn a b d = 0 ∧ (∀ s, inc (lv c) (lv d) s → inc (lv a) (lv b) s) ∧ (∀ s, ino (lv c) (lv d) s → ino (lv a) (lv b) s)
theorem subd_al {a b t : Int} (ha : isPg a) (hb : isPg b) (n : ¬ a = b) (t0 : 0 ≤ t) (t1 : t < pts a b) : subd a b (ALf a b t) (ALf a b (t + 1)) := by
  obtain ⟨d, d0, g0, lb, _, _, h, _⟩ := al_lv ha hb n
  obtain ⟨p1, l1, z1⟩ := h t t0 (by omega)
  obtain ⟨p2, l2, z2⟩ := h (t + 1) (by omega) (by omega)
  have e : d * (t + 1) = d * t + d := by grind
  have c1 := mul_cmp (d := d) t0 (show t ≤ pts a b by omega)
  have c2 := mul_cmp (d := d) (show 0 ≤ t + 1 by omega) (show t + 1 ≤ pts a b by omega)
  refine ⟨p1, p2, fun z => ?_, z1, z2, fun s hs => ?_, fun s hs => ?_⟩
  · rw [z] at l1; omega
  · unfold inc at *; rw [l1, l2] at hs; rw [lb]; omega
  · unfold ino at *; rw [l1, l2] at hs; rw [lb]; omega
theorem HP_sub {a b c d x y : Int} (ha : isPg a) (hb : isPg b) (n : ¬ a = b) (h : subd a b c d) (H : HP a b x y) : HP c d x y := fun s t h1 h2 h3 h4 h5 h6 => by
  rw [sub_FS ha hb n h.1 h.2.1 h.2.2.1 h.2.2.2.1 h.2.2.2.2.1, sub_FS ha hb n h.1 h.2.1 h.2.2.1 h.2.2.2.1 h.2.2.2.2.1]
  exact H s t (h.2.2.2.2.2.1 s h1) h2 (h3.imp_left (h.2.2.2.2.2.2 s)) (h.2.2.2.2.2.1 t h4) h5 (h6.imp_left (h.2.2.2.2.2.2 t))
noncomputable def RR1 (n : Int) (P : Int → Int) (k : Int) : Int := alP n P (k % alN n P)
theorem rim_g {n : Int} {P : Int → Int} (hn : 3 ≤ n) (W : PW n P) {k : Int} (k0 : 0 ≤ k) (k1 : k < n) : 0 < pts (P k) (P (k + 1)) := by
  obtain ⟨_, _, g, _⟩ := al_lv (W.2.2.1 k) (W.2.2.1 (k + 1)) (PW_d W k0 k1)
  exact g
theorem rim_M {n : Int} {P : Int → Int} (hn : 3 ≤ n) (W : PW n P) : 3 ≤ alN n P := by
  rw [alN_off (by omega)]
  have a := off_mono P (k := 3) (l := n) (by omega) hn
  have b := off_s P (k := 2) (by omega)
  have c := off_s P (k := 1) (by omega)
  have d := off_s P (k := 0) (by omega)
  have e := off_0 P
  have g0 := rim_g hn W (k := 0) (by omega) (by omega)
  have g1 := rim_g hn W (k := 1) (by omega) (by omega)
  have g2 := rim_g hn W (k := 2) (by omega) (by omega)
  simp only [Int.reduceAdd] at *
  omega
theorem rim_at {n : Int} {P : Int → Int} (hn : 3 ≤ n) (W : PW n P) {k t : Int} (k0 : 0 ≤ k) (k1 : k < n) (t0 : 0 ≤ t) (t1 : t ≤ pts (P k) (P (k + 1))) : RR1 n P (off P k + t) = ALf (P k) (P (k + 1)) t := by
  have o0 : 0 ≤ off P k := by have := off_mono P (k := 0) (l := k) (by omega) k0; rw [off_0] at this; exact this
  have os := off_s P k0
  have om := off_mono P (k := k + 1) (l := n) (by omega) (by omega)
  have eM := alN_off (n := n) (P := P) (by omega)
  obtain ⟨_, _, g, _, _, ag, _⟩ := al_lv (W.2.2.1 k) (W.2.2.1 (k + 1)) (PW_d W k0 k1)
  unfold RR1
  by_cases c : t < pts (P k) (P (k + 1))
  · rw [Int.emod_eq_of_lt (by omega) (by omega)]
    exact al_get k0 k1 t0 c
  · have et : t = pts (P k) (P (k + 1)) := by omega
    rw [et, ag, ← os]
    by_cases c2 : k + 1 = n
    · rw [c2, eM, Int.emod_self]
      have := al_get (n := n) (P := P) (k := 0) (t := 0) (by omega) (by omega) (by omega) (rim_g hn W (by omega) (by omega))
      rw [off_0, Int.add_zero] at this
      obtain ⟨_, _, _, _, a0, _⟩ := al_lv (W.2.2.1 0) (W.2.2.1 (0 + 1)) (PW_d W (by omega) (by omega))
      rw [this, a0, W.2.1]
    · have os2 := off_s P (k := k + 1) (by omega)
      have gg := rim_g hn W (k := k + 1) (by omega) (by omega)
      have om2 := off_mono P (k := k + 1 + 1) (l := n) (by omega) (by omega)
      rw [Int.emod_eq_of_lt (by omega) (by omega)]
      have := al_get (n := n) (P := P) (k := k + 1) (t := 0) (by omega) (by omega) (by omega) gg
      rw [Int.add_zero] at this
      obtain ⟨_, _, _, _, a0, _⟩ := al_lv (W.2.2.1 (k + 1)) (W.2.2.1 (k + 1 + 1)) (PW_d W (by omega) (by omega))
      rw [this, a0]
/-- where a place of the rim lies -/
theorem rim_ex {n : Int} {P : Int → Int} (hn : 3 ≤ n) (W : PW n P) (k : Int) : ∃ i t, 0 ≤ i ∧ i < n ∧ 0 ≤ t ∧ t < pts (P i) (P (i + 1)) ∧ k % alN n P = off P i + t ∧ RR1 n P k = ALf (P i) (P (i + 1)) t ∧ RR1 n P (k + 1) = ALf (P i) (P (i + 1)) (t + 1) := by
  have M3 := rim_M hn W
  have eM := alN_off (n := n) (P := P) (by omega)
  have m0 := Int.emod_nonneg k (show ¬ alN n P = 0 by omega)
  have m1 := Int.emod_lt_of_pos k (show 0 < alN n P by omega)
  obtain ⟨i, t, i0, i1, t0, t1, e⟩ := al_ex (P := P) (m := n) (by omega) m0 (by rw [← eM]; exact m1)
  refine ⟨i, t, i0, i1, t0, t1, e, ?_, ?_⟩
  · have := rim_at hn W i0 i1 t0 (by omega)
    rw [← this, ← e]
    unfold RR1
    rw [Int.emod_emod]
  · have := rim_at hn W i0 i1 (t := t + 1) (by omega) (by omega)
    rw [← this, show off P i + (t + 1) = k % alN n P + 1 by omega]
    unfold RR1
    rw [Int.emod_add_emod]
theorem rim_RIM {n : Int} {P : Int → Int} (hn : 3 ≤ n) (W : PW n P) : RIM (alN n P) (RR1 n P) := by
  have M3 := rim_M hn W
  have ne : ∀ k l, k < l → l < k + alN n P → ¬ k % alN n P = l % alN n P := by
    intro k l kl lk e
    have d : alN n P ∣ l - k := Int.dvd_of_emod_eq_zero (Int.emod_eq_emod_iff_emod_sub_eq_zero.mp e.symm)
    have := Int.le_of_dvd (by omega) d
    omega
  have key : ∀ k l, k < l → l < k + alN n P → ¬ RR1 n P k = RR1 n P l ∧ HP (RR1 n P k) (RR1 n P (k + 1)) (RR1 n P l) (RR1 n P (l + 1)) := by
    intro k l kl lk
    obtain ⟨i, t, i0, i1, t0, t1, e, r1, r2⟩ := rim_ex hn W k
    obtain ⟨j, v, j0, j1, v0, v1, f, q1, q2⟩ := rim_ex hn W l
    have nkl := ne k l kl lk
    rw [e, f] at nkl
    rw [r1, r2, q1, q2]
    have pa := W.2.2.1 i
    have pb := W.2.2.1 (i + 1)
    have pc := W.2.2.1 j
    have pd := W.2.2.1 (j + 1)
    have na := PW_d W i0 i1
    have nc := PW_d W j0 j1
    by_cases c : i = j
    · subst c
      have tv : ¬ t = v := by omega
      obtain ⟨d, d0, g0, lb, _, _, h, _⟩ := al_lv pa pb na
      obtain ⟨_, l1, _⟩ := h t t0 (by omega)
      obtain ⟨_, l2, _⟩ := h v v0 (by omega)
      obtain ⟨_, l3, _⟩ := h (t + 1) (by omega) (by omega)
      obtain ⟨_, l4, _⟩ := h (v + 1) (by omega) (by omega)
      have e1 : d * (t + 1) = d * t + d := by grind
      have e2 : d * (v + 1) = d * v + d := by grind
      have c1 : t < v → (0 ≤ d → d * (t + 1) ≤ d * v) ∧ (d ≤ 0 → d * v ≤ d * (t + 1)) := fun g => ⟨fun x => ((mul_cmp (d := d) (t := t + 1) (g := v) (by omega) (by omega)).1 x).2, fun x => ((mul_cmp (d := d) (t := t + 1) (g := v) (by omega) (by omega)).2 x).2⟩
      have c2 : v < t → (0 ≤ d → d * (v + 1) ≤ d * t) ∧ (d ≤ 0 → d * t ≤ d * (v + 1)) := fun g => ⟨fun x => ((mul_cmp (d := d) (t := v + 1) (g := t) (by omega) (by omega)).1 x).2, fun x => ((mul_cmp (d := d) (t := v + 1) (g := t) (by omega) (by omega)).2 x).2⟩
      have dis : t < v ∧ 0 < d ∧ d * (t + 1) ≤ d * v ∨ t < v ∧ d < 0 ∧ d * v ≤ d * (t + 1) ∨ v < t ∧ 0 < d ∧ d * (v + 1) ≤ d * t ∨ v < t ∧ d < 0 ∧ d * t ≤ d * (v + 1) := by
        by_cases g : t < v
        · have := c1 g; omega
        · have := c2 (by omega); omega
      clear c1 c2
      refine ⟨fun z => ?_, fun s s' h1 h2 h3 _ _ _ => ?_⟩
      · rw [z] at l1; omega
      · exfalso
        unfold inc at h1 h2
        unfold ino at h3
        rw [l1, l3] at h1 h3
        rw [l2, l4] at h2 h3
        rw [e1] at dis h1 h3
        rw [e2] at dis h2 h3
        generalize d * t = x at *
        generalize d * v = y at *
        omega
    · have H := PW_hp W i0 i1 j0 j1 c
      have s1 := subd_al pa pb na t0 t1
      have s2 := subd_al pc pd nc v0 v1
      refine ⟨fun z => ?_, HP_sub pa pb na s1 (HP_sym (HP_sub pc pd nc s2 (HP_sym H)))⟩
      -- a common place of two sides
      obtain ⟨d, d0, g0, lb, za, _, h, _⟩ := al_lv pa pb na
      obtain ⟨d', d0', g0', lb', za', _, h', _⟩ := al_lv pc pd nc
      obtain ⟨_, l1, z1⟩ := h t t0 (by omega)
      obtain ⟨_, l2, z2⟩ := h' v v0 (by omega)
      by_cases c0 : t = 0 ∧ v = 0
      · rw [c0.1, c0.2, za, za'] at z
        exact c (W.2.2.2.1 i j i0 i1 j0 j1 z)
      · have f1 := FS_on pa pb na z1
        have f2 := FS_on pc pd nc z2
        rw [← z] at f2 l2
        have m1 := mul_cmp (d := d) t0 (show t ≤ pts (P i) (P (i + 1)) by omega)
        have m2 := mul_cmp (d := d') v0 (show v ≤ pts (P j) (P (j + 1)) by omega)
        have ic : inc (lv (P i)) (lv (P (i + 1))) (2 * lv (ALf (P i) (P (i + 1)) t)) := by unfold inc; rw [lb, l1]; omega
        have id_ : inc (lv (P j)) (lv (P (j + 1))) (2 * lv (ALf (P i) (P (i + 1)) t)) := by unfold inc; rw [lb', l2]; omega
        have str : ∀ {d t g : Int}, ¬ d = 0 → 0 < t → t < g → (0 < d → 0 < d * t ∧ d * t < d * g) ∧ (d < 0 → d * t < 0 ∧ d * g < d * t) := by
          intro d t g d0 t0 tg
          refine ⟨fun x => ⟨Int.mul_pos x t0, Int.mul_lt_mul_of_pos_left tg x⟩, fun x => ⟨Int.mul_neg_of_neg_of_pos x t0, ?_⟩⟩
          have := Int.mul_lt_mul_of_pos_left tg (show 0 < -d by omega)
          rw [Int.neg_mul, Int.neg_mul] at this
          omega
        have io : ino (lv (P i)) (lv (P (i + 1))) (2 * lv (ALf (P i) (P (i + 1)) t)) ∨ ino (lv (P j)) (lv (P (j + 1))) (2 * lv (ALf (P i) (P (i + 1)) t)) := by
          by_cases c1 : t = 0
          · right
            have := str d0' (show 0 < v by omega) v1
            unfold ino; rw [lb', l2]; omega
          · left
            have := str d0 (show 0 < t by omega) t1
            unfold ino; rw [lb, l1]; omega
        have := (H _ _ ic id_ io ic id_ io).2
        rw [f1, f2] at this
        exact this rfl
  refine ⟨fun k => by unfold RR1; rw [Int.add_emod_right], fun k => ?_, fun k l a b => (key k l a b).1, fun k l a b => (key k l a b).2⟩
  obtain ⟨i, t, i0, i1, t0, t1, e, r1, r2⟩ := rim_ex hn W k
  rw [r1]
  exact (subd_al (W.2.2.1 i) (W.2.2.1 (i + 1)) (PW_d W i0 i1) t0 t1).1
theorem rim_sum {n : Int} {P : Int → Int} (hn : 3 ≤ n) (W : PW n P) (f : Int → Int → Int) : smI (fun k => f (RR1 n P k) (RR1 n P (k + 1))) (alN n P) = smI (fun i => smI (fun t => f (ALf (P i) (P (i + 1)) t) (ALf (P i) (P (i + 1)) (t + 1))) (pts (P i) (P (i + 1)))) n := by
  rw [alN_off (by omega)]
  have key : ∀ m : Nat, (m : Int) ≤ n → smI (fun k => f (RR1 n P k) (RR1 n P (k + 1))) (off P m) = smI (fun i => smI (fun t => f (ALf (P i) (P (i + 1)) t) (ALf (P i) (P (i + 1)) (t + 1))) (pts (P i) (P (i + 1)))) m := by
    intro m
    induction m with
    | zero => intro _; rfl
    | succ m ih =>
      intro hm
      have o0 : 0 ≤ off P m := by have := off_mono P (k := 0) (l := m) (by omega) (by omega); rw [off_0] at this; exact this
      rw [show ((m + 1 : Nat) : Int) = (m : Int) + 1 by omega, off_s P (by omega), smI_split _ o0 (pts_0 _ _), ih (by omega), smI_s _ (by omega)]
      congr 1
      refine smI_congr (fun t t0 t1 => ?_)
      have a := rim_at hn W (k := m) (t := t) (by omega) (by omega) t0 (by omega)
      have b := rim_at hn W (k := m) (t := t + 1) (by omega) (by omega) (by omega) (by omega)
      rw [a, show off P m + t + 1 = off P m + (t + 1) by omega, b]
  have := key n.toNat (by omega)
  rw [show ((n.toNat : Nat) : Int) = n by omega] at this
  exact this
theorem rim_A {n : Int} {P : Int → Int} (hn : 3 ≤ n) (W : PW n P) : smI (fun k => sh (RR1 n P k) (RR1 n P (k + 1))) (alN n P) = areaS n P := by
  rw [rim_sum hn W sh]
  refine smI_congr (fun i i0 i1 => ?_)
  obtain ⟨_, _, _, _, _, _, _, e⟩ := al_lv (W.2.2.1 i) (W.2.2.1 (i + 1)) (PW_d W i0 i1)
  exact e
theorem rim_W {n : Int} {P : Int → Int} (hn : 3 ≤ n) (W : PW n P) (u t : Int) : smI (rt (RR1 n P) u t) (alN n P) = LW n P u t := by
  have e := rim_sum hn W (fun a b => tr (lv a) (lv b) u (FS a b (2 * u + 1)) t)
  refine Eq.trans e (smI_congr (fun i i0 i1 => ?_))
  have pa := W.2.2.1 i
  have pb := W.2.2.1 (i + 1)
  have na := PW_d W i0 i1
  obtain ⟨d, d0, g0, lb, e0, eg, h, _⟩ := al_lv pa pb na
  show _ = tr (lv (P i)) (lv (P (i + 1))) u (FS (P i) (P (i + 1)) (2 * u + 1)) t
  have tel := smI_tel (h := fun v => tr (lv (ALf (P i) (P (i + 1)) v)) (lv (ALf (P i) (P (i + 1)) (v + 1))) u (FS (ALf (P i) (P (i + 1)) v) (ALf (P i) (P (i + 1)) (v + 1)) (2 * u + 1)) t) (g := fun v => if FS (P i) (P (i + 1)) (2 * u + 1) < t then (if u < lv (ALf (P i) (P (i + 1)) v) then (1 : Int) else 0) else 0) (n := pts (P i) (P (i + 1))) (by omega) (fun v v0 v1 => by
    have s := subd_al pa pb na v0 v1
    unfold tr dd
    rw [sub_FS pa pb na s.1 s.2.1 s.2.2.1 s.2.2.2.1 s.2.2.2.2.1]
    by_cases c : FS (P i) (P (i + 1)) (2 * u + 1) < t
    · simp only [if_pos c]
    · simp only [if_neg c]; rfl)
  refine Eq.trans tel ?_
  simp only [e0, eg]
  unfold tr dd
  by_cases c : FS (P i) (P (i + 1)) (2 * u + 1) < t
  · simp only [if_pos c]
  · simp only [if_neg c]; rfl
