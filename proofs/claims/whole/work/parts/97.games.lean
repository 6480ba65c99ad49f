/-! ===== the game, side by side ===== -/
theorem sm_wh : ∀ w, w ≤ 10 → ∀ h, h ≤ 10 → sm (fun p => if p % 10 < (w : Nat) ∧ p / 10 < (h : Nat) then 1 else 0) 100 = (w : Int) * (h : Int) := by decide +kernel
theorem pgN_sm {pk : Int → Int} : ∀ n : Nat, ((flN (fun a => lif (pk a = 1) [a]) n).length : Int) = sm (fun a => bI (pk a = 1)) n
  | 0 => rfl
  | n + 1 => by
    rw [flN, List.length_append]
    show _ = sm _ n + bI (pk n = 1)
    rw [← pgN_sm n]
    by_cases c : pk n = 1
    · rw [lif_t c, bI_t c]; rfl
    · rw [lif_f c, bI_f c]; simp
theorem pgN_eq {D : Int → Int} (h : okV D) : pgN (pkD D) = D 0 * D 1 - D 3 := by
  have a : pgN (pkD D) = smI (fun p => bI (pkD D p = 1)) 100 := pgN_sm 100
  have b : smI (fun p => bI (pkD D p = 1)) 100 + smI (fun p => D (5 + p)) 100 = smI (fun p => if p % 10 < D 0 ∧ p / 10 < D 1 then 1 else 0) 100 := by
    unfold smI
    rw [← sm_add]
    refine sm_congr _ (fun p p0 p1 => ?_)
    have o := h.2.2.2.2.1 p p0 (by rw [show Int.toNat 100 = 100 from rfl] at p1; omega)
    unfold pkD
    by_cases c : p % 10 < D 0 ∧ p / 10 < D 1
    · rw [if_pos c, if_pos ⟨p0, c.1, c.2⟩]
      by_cases d : D (5 + p) = 0
      · rw [if_pos d, bI_t rfl, d]; rfl
      · rw [if_neg d, bI_f (by decide)]; omega
    · rw [if_neg c, if_neg (fun z => c z.2), bI_f (by decide)]
      have : D (5 + p) = 0 := Classical.byContradiction (fun z => c (o.2 z))
      omega
  have hw : 0 ≤ D 0 ∧ D 0 ≤ 10 := by have := h.1; omega
  have hh : 0 ≤ D 1 ∧ D 1 ≤ 10 := by have := h.1; omega
  have c := sm_wh (D 0).toNat (by omega) (D 1).toNat (by omega)
  rw [Int.toNat_of_nonneg hw.1, Int.toNat_of_nonneg hh.1] at c
  have d : smI (fun p => if p % 10 < D 0 ∧ p / 10 < D 1 then 1 else 0) 100 = D 0 * D 1 := c
  rw [d, ← h.2.2.2.2.2.1] at b
  omega
theorem mt_0 {a b c d : Int} : mt a b c d = 0 ↔ ¬ (tn a b c * tn a b d < 0 ∧ tn c d a * tn c d b < 0) ∧ ¬ (onS c a b ∨ onS d a b ∨ onS a c d ∨ onS b c d) := by
  unfold mt
  by_cases h1 : tn a b c * tn a b d < 0 ∧ tn c d a * tn c d b < 0
  · rw [if_pos h1]; exact ⟨fun z => by omega, fun z => absurd h1 z.1⟩
  · rw [if_neg h1]
    by_cases h2 : onS c a b ∨ onS d a b ∨ onS a c d ∨ onS b c d
    · rw [if_pos h2]; exact ⟨fun z => by omega, fun z => absurd h2 z.2⟩
    · rw [if_neg h2]; exact ⟨fun _ => ⟨h1, h2⟩, fun _ => rfl⟩
theorem mt_sw {a b c d : Int} : mt c d a b = 0 ↔ mt a b c d = 0 := by
  rw [mt_0, mt_0]
  constructor
  · rintro ⟨h1, h2⟩
    exact ⟨fun z => h1 ⟨z.2, z.1⟩, fun z => h2 (by rcases z with z | z | z | z; exact Or.inr (Or.inr (Or.inl z)); exact Or.inr (Or.inr (Or.inr z)); exact Or.inl z; exact Or.inr (Or.inl z))⟩
  · rintro ⟨h1, h2⟩
    exact ⟨fun z => h1 ⟨z.2, z.1⟩, fun z => h2 (by rcases z with z | z | z | z; exact Or.inr (Or.inr (Or.inl z)); exact Or.inr (Or.inr (Or.inr z)); exact Or.inl z; exact Or.inr (Or.inl z))⟩
theorem onS_rev {p a b : Int} : onS p b a ↔ onS p a b := by
  unfold onS
  have e1 : tn b a p = -tn a b p := tn_12 _ _ _
  have e2 : al p b a = al p a b := by unfold al dt; grind
  rw [e1, e2]
  omega
theorem mt_rev {a b c d : Int} : mt a b d c = 0 ↔ mt a b c d = 0 := by
  rw [mt_0, mt_0]
  have e1 : tn d c a = -tn c d a := tn_12 _ _ _
  have e2 : tn d c b = -tn c d b := tn_12 _ _ _
  rw [e1, e2, Int.neg_mul_neg, Int.mul_comm (tn a b d) (tn a b c), onS_rev (p := a) (a := c) (b := d), onS_rev (p := b) (a := c) (b := d)]
  constructor
  · rintro ⟨h1, h2⟩
    exact ⟨h1, fun z => h2 (by rcases z with z | z | z | z; exact Or.inr (Or.inl z); exact Or.inl z; exact Or.inr (Or.inr (Or.inl z)); exact Or.inr (Or.inr (Or.inr z)))⟩
  · rintro ⟨h1, h2⟩
    exact ⟨h1, fun z => h2 (by rcases z with z | z | z | z; exact Or.inr (Or.inl z); exact Or.inl z; exact Or.inr (Or.inr (Or.inl z)); exact Or.inr (Or.inr (Or.inr z)))⟩
theorem onS_a (a b : Int) : onS a a b := by
  unfold onS
  refine ⟨tn_ac a b, ?_⟩
  unfold al dt
  rw [Int.sub_self, Int.sub_self, Int.zero_mul, Int.zero_mul]; decide
theorem onS_b (a b : Int) : onS b a b := onS_rev.mp (onS_a b a)
theorem pts_sym (a b : Int) : pts b a = pts a b := by unfold pts; exact gd_neg _ _ _ _
/-- lines that have no point in common have no end in common -/
theorem mt_ne {a b c d : Int} (h : mt a b c d = 0) : ¬ c = a ∧ ¬ c = b ∧ ¬ d = a ∧ ¬ d = b := by
  have z := (mt_0.mp h).2
  exact ⟨fun e => z (Or.inl (by rw [e]; exact onS_a a b)), fun e => z (Or.inl (by rw [e]; exact onS_b a b)), fun e => z (Or.inr (Or.inl (by rw [e]; exact onS_a a b))), fun e => z (Or.inr (Or.inl (by rw [e]; exact onS_b a b)))⟩
theorem may_eq {D : Int → Int} (hm : cB 4 (D 261)) {a b : Int} (pa : pkD D a = 1) (pb : pkD D b = 1) (hp : pts a b = 1) (hab : ¬ a = b) : mayL D a b ↔ ∀ k, 0 ≤ k → k < D 261 → mt a b (D (262 + 2 * k)) (D (262 + 2 * k + 1)) = 0 := by
  constructor
  · intro h; exact h.2.2.2.2
  · intro h
    have fr : ∀ x, (x = a ∨ x = b) → ∀ k, 0 ≤ k → k < 2 * D 261 → ¬ D (262 + k) = x := fun x hx k k0 k1 e => by
      have n := mt_ne (h (k / 2) (by omega) (by omega))
      rcases (show k = 2 * (k / 2) ∨ k = 2 * (k / 2) + 1 by omega) with c | c
      · rw [c] at e
        rcases hx with hx | hx
        · exact n.1 (e.trans hx)
        · exact n.2.1 (e.trans hx)
      · rw [c, show 262 + (2 * (k / 2) + 1) = 262 + 2 * (k / 2) + 1 by omega] at e
        rcases hx with hx | hx
        · exact n.2.2.1 (e.trans hx)
        · exact n.2.2.2 (e.trans hx)
    exact ⟨hab, ⟨fr a (Or.inl rfl), pa⟩, ⟨fr b (Or.inr rfl), pb⟩, hp, h⟩
theorem may_sw {D : Int → Int} {a b : Int} (h : mayL D a b) : mayL D b a := ⟨fun e => h.1 e.symm, h.2.2.1, h.2.1, by rw [pts_sym]; exact h.2.2.2.1, fun k k0 k1 => mt_sw.mp (mt_rev.mp (mt_sw.mpr (h.2.2.2.2 k k0 k1)))⟩
/-- a line of the list -/
def inLN (pk : Int → Int) (c : Int) : Prop := ∃ a b, (cB 99 a ∧ cB 99 b) ∧ (pk a = 1 ∧ pk b = 1) ∧ (a < b ∧ pts a b = 1) ∧ c = 100 * a + b
theorem LN_mem {pk : Int → Int} {c : Int} : c ∈ LN pk ↔ inLN pk c := by
  have hf : ∀ (f : Int → List Int) (n : Nat) (x : Int), x ∈ flN f n ↔ ∃ i : Nat, i < n ∧ x ∈ f i := by
    intro f n
    induction n with
    | zero => intro x; simp [flN]
    | succ n ih =>
      intro x
      rw [flN, List.mem_append, ih]
      constructor
      · rintro (⟨i, hi, hx⟩ | hx)
        · exact ⟨i, by omega, hx⟩
        · exact ⟨n, by omega, hx⟩
      · rintro ⟨i, hi, hx⟩
        by_cases e : i = n
        · subst e; exact Or.inr hx
        · exact Or.inl ⟨i, by omega, hx⟩
  have hl : ∀ (P : Prop) (L : List Int) (x : Int), x ∈ lif P L ↔ P ∧ x ∈ L := by
    intro P L x
    by_cases e : P
    · rw [lif_t e]; exact ⟨fun h => ⟨e, h⟩, fun h => h.2⟩
    · rw [lif_f e]; exact ⟨fun h => by simp at h, fun h => absurd h.1 e⟩
  unfold LN fl inLN
  rw [hf]
  constructor
  · rintro ⟨a, ha, h⟩
    rw [hl, hf] at h
    obtain ⟨pa, b, hb, h⟩ := h
    rw [hl, hl, List.mem_singleton] at h
    have ha' : a < 100 := ha
    have hb' : b < 100 := hb
    exact ⟨a, b, ⟨by omega, by omega⟩, ⟨pa, h.1⟩, h.2.1, h.2.2⟩
  · rintro ⟨a, b, ⟨ha, hb⟩, ⟨pa, pb⟩, h, rfl⟩
    obtain ⟨a', rfl⟩ := Int.eq_ofNat_of_zero_le ha.1
    obtain ⟨b', rfl⟩ := Int.eq_ofNat_of_zero_le hb.1
    refine ⟨a', (by show a' < 100; omega), ?_⟩
    rw [hl, hf]
    refine ⟨pa, b', (by show b' < 100; omega), ?_⟩
    rw [hl, hl, List.mem_singleton]
    exact ⟨pb, h, rfl⟩
theorem GM_in {ρ : jS} {L : List Int} (h : GM ρ L) {i : Int} (hi : 0 ≤ i ∧ i < ρ 23 3) : ρ 25 i ∈ L := by
  rw [LI_at h.1 hi.1 hi.2, gDe (by have := h.1.1; omega)]
  exact List.getElem_mem _
theorem GM_ix {ρ : jS} {L : List Int} (h : GM ρ L) {c : Int} (hc : c ∈ L) : ∃ i, (0 ≤ i ∧ i < ρ 23 3) ∧ ρ 25 i = c := by
  obtain ⟨n, hn, e⟩ := List.getElem_of_mem hc
  refine ⟨n, ⟨by omega, by have := h.1.1; omega⟩, ?_⟩
  rw [h.1.2 n hn, gDe hn, e]
/-- which lines of the list are open: those that may be laid -/
theorem op_eq {σ ρ : jS} (h : Inv σ) (hg : GB σ ρ) (h9 : pgN (pkC σ 28) ≤ 9) {i : Int} (hi : 0 ≤ i ∧ i < ρ 23 3) : opB ρ i ↔ mayL (σ 113) (ρ 25 i / 100) (ρ 25 i % 100) := by
  obtain ⟨hG, hH⟩ := hg.2 h9
  have k7 : pkC σ 28 = pkD (σ 113) := (Inv_k h).2.2.2.2.2.2.1
  obtain ⟨l1, l2, l3⟩ := h.2.2.1.2.2.2.1
  have l1' : σ 113 261 = σ 27 3 := l1
  have m4 := l2.1
  obtain ⟨a, b, ⟨ha, hb⟩, ⟨pa, pb⟩, ⟨ab, pt⟩, e⟩ := LN_mem.mp (GM_in hG hi)
  rw [k7] at pa pb
  have x1 : ρ 25 i / 100 = a := by omega
  have x2 : ρ 25 i % 100 = b := by omega
  rw [x1, x2, may_eq m4 pa pb pt (by omega)]
  have e27 : ρ 27 3 = σ 27 3 := by rw [hg.1 27 (by decide)]
  have e37 : ρ 37 = σ 37 := hg.1 37 (by decide)
  have w01 : cB 10 (σ 113 0) ∧ cB 10 (σ 113 1) := by have := h.2.2.1.1.1.1; omega
  have key : ∀ x, 0 ≤ x → x < σ 27 3 → ∃ f, (0 ≤ f ∧ f < ρ 23 3) ∧ fi (lnI ρ (ρ 37 x / 100) (ρ 37 x % 100)) (ρ 23 3) = f ∧ (¬ bt (ρ 26 f) i ↔ mt a b (σ 113 (262 + 2 * x)) (σ 113 (262 + 2 * x + 1)) = 0) := fun x q0 q1 => by
    obtain ⟨y1, y2⟩ := l3 x q0 (by omega)
    have y2' : σ 37 x = 100 * min (σ 113 (262 + 2 * x)) (σ 113 (262 + 2 * x + 1)) + max (σ 113 (262 + 2 * x)) (σ 113 (262 + 2 * x + 1)) := y2
    have p1 := l2.2.1 (2 * x) (by omega) (by omega)
    have p2 := l2.2.1 (2 * x + 1) (by omega) (by omega)
    have ne := l2.2.2 (2 * x) (2 * x + 1) (by omega) (by omega) (by omega)
    rw [show 262 + (2 * x + 1) = 262 + 2 * x + 1 by omega] at p2 ne
    have g1 := pkD_p w01 p1
    have g2 := pkD_p w01 p2
    generalize σ 113 (262 + 2 * x) = c at *
    generalize σ 113 (262 + 2 * x + 1) = d at *
    have mem : ρ 37 x ∈ LN (pkC σ 28) := by
      rw [e37, y2', LN_mem, k7]
      rcases Int.lt_or_lt_of_ne ne with o | o
      · exact ⟨c, d, ⟨by omega, by omega⟩, ⟨p1, p2⟩, ⟨o, y1⟩, by rw [Int.min_eq_left (by omega), Int.max_eq_right (by omega)]⟩
      · exact ⟨d, c, ⟨by omega, by omega⟩, ⟨p2, p1⟩, ⟨o, by rw [pts_sym]; exact y1⟩, by rw [Int.min_eq_right (by omega), Int.max_eq_left (by omega)]⟩
    obtain ⟨j, hj, ej⟩ := GM_ix hG mem
    rcases fi_spec (lnI ρ (ρ 37 x / 100) (ρ 37 x % 100)) (n := ρ 23 3) (by omega) with z | z
    · exact absurd ⟨by rw [ej], by rw [ej]⟩ (z.2 j hj.1 hj.2)
    · refine ⟨_, ⟨z.1, z.2.1⟩, rfl, ?_⟩
      rw [hH _ i z.1 z.2.1 hi.1 hi.2]
      have q1 : ρ 25 (fi (lnI ρ (ρ 37 x / 100) (ρ 37 x % 100)) (ρ 23 3)) / 100 = ρ 37 x / 100 := z.2.2.1.1
      have q2 : ρ 25 (fi (lnI ρ (ρ 37 x / 100) (ρ 37 x % 100)) (ρ 23 3)) % 100 = ρ 37 x % 100 := z.2.2.1.2
      unfold mtC
      rw [q1, q2, x1, x2, e37, y2', Classical.not_not]
      rcases Int.lt_or_lt_of_ne ne with o | o
      · rw [Int.min_eq_left (by omega), Int.max_eq_right (by omega), show (100 * c + d) / 100 = c by omega, show (100 * c + d) % 100 = d by omega]
        exact mt_sw
      · rw [Int.min_eq_right (by omega), Int.max_eq_left (by omega), show (100 * d + c) / 100 = d by omega, show (100 * d + c) % 100 = c by omega]
        exact mt_sw.trans mt_rev
  unfold opB
  rw [e27]
  constructor
  · rintro ⟨_, u⟩ k k0 k1
    obtain ⟨f, f1, f2, f3⟩ := key k k0 (by omega)
    have := u k k0 (by omega)
    rw [f2] at this
    exact f3.mp (this (by omega))
  · intro u
    refine ⟨hi.2, fun x q0 q1 _ => ?_⟩
    obtain ⟨f, f1, f2, f3⟩ := key x q0 q1
    rw [f2]
    exact f3.mpr (u x q0 (by omega))
/-- the class' open lines are those that may be laid, in the same order -/
theorem ch_eq {D : Int → Int} {ρ : jS} {pk : Int → Int} (k7 : pk = pkD D) (hG : GM ρ (LN pk)) {O : Int → Prop} {R : Int → Int → Prop} (hR : ∀ a b, R a b → mayL D a b) (hO : ∀ i, 0 ≤ i → i < ρ 23 3 → (O i ↔ R (ρ 25 i / 100) (ρ 25 i % 100))) : chL ρ O (ρ 23 3) = PL2 (fun i => i) R 100 := by
  have e1 : chL ρ O (ρ 23 3) = fl (fun i => (fun c => lif (R (c / 100) (c % 100)) [c]) (ρ 25 i)) (ρ 23 3) := fl_c (fun i i0 i1 => lif_iff (hO i i0 i1) _)
  rw [e1, fl_LI (g := fun c => lif (R (c / 100) (c % 100)) [c]) hG.1]
  unfold LN fl
  rw [flN_fm]
  refine flN_c _ (fun a a0 a1 => ?_)
  have a1' : a < 100 := a1
  have hl : ∀ (P : Prop) (L : List Int) (g : Int → List Int), (lif P L).flatMap g = lif P (L.flatMap g) := by
    intro P L g
    by_cases e : P
    · rw [lif_t e, lif_t e]
    · rw [lif_f e, lif_f e]; rfl
  rw [hl, flN_fm]
  show _ = flN (H2 (fun i => i) R a) _
  by_cases pa : pk a = 1
  · rw [lif_t pa]
    refine flN_c _ (fun b b0 b1 => ?_)
    have b1' : b < 100 := b1
    rw [hl, hl, show ([100 * a + b] : List Int).flatMap (fun c => lif (R (c / 100) (c % 100)) [c]) = lif (R a b) [100 * a + b] by rw [List.flatMap_cons, List.flatMap_nil, List.append_nil]; rw [show (100 * a + b) / 100 = a by omega, show (100 * a + b) % 100 = b by omega]]
    unfold H2
    by_cases c : a < b ∧ R a b
    · have m := hR a b c.2
      rw [lif_t c, lif_t (by rw [k7]; exact m.2.2.1.2), lif_t ⟨c.1, m.2.2.2.1⟩, lif_t c.2]
    · rw [lif_f c]
      by_cases q : pk b = 1
      · rw [lif_t q]
        by_cases q2 : a < b ∧ pts a b = 1
        · rw [lif_t q2, lif_f (fun z => c ⟨q2.1, z⟩)]
        · rw [lif_f q2]
      · rw [lif_f q]
  · rw [lif_f pa]
    refine (flN_nil _ (fun b b0 b1 => lif_f (fun z => pa ?_))).symm
    rw [k7]; exact (hR a b z.2).2.1.2
