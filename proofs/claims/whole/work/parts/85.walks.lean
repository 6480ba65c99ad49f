/-! ===== walks of threes ===== -/
theorem tn_12 (a b c : Int) : tn b a c = -tn a b c := by unfold tn crs; grind
theorem tn_23 (a b c : Int) : tn a c b = -tn a b c := by unfold tn crs; grind
theorem tn_312 (a b c : Int) : tn c a b = tn a b c := by unfold tn crs; grind
def stp3 (w h : Int) (pk : Int → Int) (a b c a' b' c' : Int) : Prop := ((nbr w h pk a a' ∧ b' = b ∧ c' = c) ∨ (a' = a ∧ nbr w h pk b b' ∧ c' = c) ∨ (a' = a ∧ b' = b ∧ nbr w h pk c c')) ∧ ¬ tn (pgW w a') (pgW w b') (pgW w c') = 0
def R3 (w h : Int) (pk : Int → Int) (a0 b0 c0 : Int) : Nat → Int → Int → Int → Prop
  | 0, a, b, c => a = a0 ∧ b = b0 ∧ c = c0
  | k + 1, a, b, c => ∃ x y z, R3 w h pk a0 b0 c0 k x y z ∧ stp3 w h pk x y z a b c
def val3 (w h a b c : Int) : Prop := (0 ≤ a ∧ a < w * h) ∧ (0 ≤ b ∧ b < w * h) ∧ (0 ≤ c ∧ c < w * h) ∧ ¬ tn (pgW w a) (pgW w b) (pgW w c) = 0
theorem stp_val {w h : Int} {pk : Int → Int} {a b c a' b' c' : Int} (v : val3 w h a b c) (s : stp3 w h pk a b c a' b' c') : val3 w h a' b' c' := by
  obtain ⟨s1, s2⟩ := s
  rcases s1 with ⟨n, rfl, rfl⟩ | ⟨rfl, n, rfl⟩ | ⟨rfl, rfl, n⟩
  · exact ⟨n.2.1, v.2.1, v.2.2.1, s2⟩
  · exact ⟨v.1, n.2.1, v.2.2.1, s2⟩
  · exact ⟨v.1, v.2.1, n.2.1, s2⟩
theorem R3_val {w h : Int} {pk : Int → Int} {a0 b0 c0 : Int} (v : val3 w h a0 b0 c0) : ∀ (k : Nat) {a b c : Int}, R3 w h pk a0 b0 c0 k a b c → val3 w h a b c
  | 0, a, b, c, r => by obtain ⟨rfl, rfl, rfl⟩ := r; exact v
  | k + 1, a, b, c, ⟨x, y, z, r, s⟩ => stp_val (R3_val v k r) s
def mvS (w h : Int) (pk : Int → Int) (a b c n : Int) : Prop := mvA w h pk a b c n ∨ mvA w h pk b a c n ∨ mvA w h pk c a b n
theorem mvA_23 {w h : Int} {pk : Int → Int} {a b c n : Int} : mvA w h pk a c b n ↔ mvA w h pk a b c n := by
  constructor
  · rintro ⟨p, q, t, e⟩
    exact ⟨p, q, fun z => t (by rw [tn_23, z]; rfl), by rw [e, nm3_23]⟩
  · rintro ⟨p, q, t, e⟩
    exact ⟨p, q, fun z => t (by rw [tn_23, z]; rfl), by rw [e, nm3_23]⟩
theorem mvS_12 {w h : Int} {pk : Int → Int} {a b c n : Int} : mvS w h pk b a c n ↔ mvS w h pk a b c n := by
  unfold mvS
  rw [mvA_23 (a := c) (b := a) (c := b)]
  exact ⟨fun u => by rcases u with u | u | u; exact Or.inr (Or.inl u); exact Or.inl u; exact Or.inr (Or.inr u), fun u => by rcases u with u | u | u; exact Or.inr (Or.inl u); exact Or.inl u; exact Or.inr (Or.inr u)⟩
theorem mvS_23 {w h : Int} {pk : Int → Int} {a b c n : Int} : mvS w h pk a c b n ↔ mvS w h pk a b c n := by
  unfold mvS
  rw [mvA_23 (a := a) (b := b) (c := c)]
  exact ⟨fun u => by rcases u with u | u | u; exact Or.inl u; exact Or.inr (Or.inr u); exact Or.inr (Or.inl u), fun u => by rcases u with u | u | u; exact Or.inl u; exact Or.inr (Or.inr u); exact Or.inr (Or.inl u)⟩
theorem stp_mv {w h : Int} {pk : Int → Int} {a b c n : Int} : (∃ a' b' c', stp3 w h pk a b c a' b' c' ∧ nm3 a' b' c' = n) ↔ mvS w h pk a b c n := by
  constructor
  · rintro ⟨a', b', c', ⟨s1, s2⟩, e⟩
    rcases s1 with ⟨q, rfl, rfl⟩ | ⟨rfl, q, rfl⟩ | ⟨rfl, rfl, q⟩
    · exact Or.inl ⟨a', q, s2, e.symm⟩
    · exact Or.inr (Or.inl ⟨b', q, fun z => s2 (by rw [tn_12, z]; rfl), by rw [nm3_12]; exact e.symm⟩)
    · exact Or.inr (Or.inr ⟨c', q, fun z => s2 (by rw [← tn_312]; exact z), by rw [nm3_12, nm3_23]; exact e.symm⟩)
  · rintro (⟨p, q, t, e⟩ | ⟨p, q, t, e⟩ | ⟨p, q, t, e⟩)
    · exact ⟨p, b, c, ⟨Or.inl ⟨q, rfl, rfl⟩, t⟩, e.symm⟩
    · exact ⟨a, p, c, ⟨Or.inr (Or.inl ⟨rfl, q, rfl⟩), fun z => t (by rw [tn_12, z]; rfl)⟩, by rw [e, nm3_12]⟩
    · exact ⟨a, b, p, ⟨Or.inr (Or.inr ⟨rfl, rfl, q⟩), fun z => t (by rw [tn_312]; exact z)⟩, by rw [e, nm3_12 a p b, nm3_23]⟩
theorem perm6 {a b c p q r : Int} (hs : p < q ∧ q < r) (e1 : hi3 a b c = r) (e2 : md3 a b c = q) (e3 : lo3 a b c = p) : (a = p ∧ b = q ∧ c = r) ∨ (a = p ∧ b = r ∧ c = q) ∨ (a = q ∧ b = p ∧ c = r) ∨ (a = q ∧ b = r ∧ c = p) ∨ (a = r ∧ b = p ∧ c = q) ∨ (a = r ∧ b = q ∧ c = p) := by
  unfold md3 at e2
  rw [e1, e3] at e2
  have m1 : a = p ∨ b = p ∨ c = p := by clear e1 e2; unfold lo3 at e3; omega
  have m2 : a = r ∨ b = r ∨ c = r := by clear e3 e2; unfold hi3 at e1; omega
  clear e1 e3
  rcases m1 with h1 | h1 | h1 <;> rcases m2 with h2 | h2 | h2
  · omega
  · exact Or.inr (Or.inl ⟨h1, h2, by omega⟩)
  · exact Or.inl ⟨h1, by omega, h2⟩
  · exact Or.inr (Or.inr (Or.inr (Or.inr (Or.inl ⟨h2, h1, by omega⟩))))
  · omega
  · exact Or.inr (Or.inr (Or.inl ⟨by omega, h1, h2⟩))
  · exact Or.inr (Or.inr (Or.inr (Or.inr (Or.inr ⟨h2, by omega, h1⟩))))
  · exact Or.inr (Or.inr (Or.inr (Or.inl ⟨by omega, h2, h1⟩)))
  · omega
theorem mvS_p {w h : Int} {pk : Int → Int} {a b c p q r n : Int} (hs : p < q ∧ q < r) (e1 : hi3 a b c = r) (e2 : md3 a b c = q) (e3 : lo3 a b c = p) : mvS w h pk a b c n ↔ mvS w h pk p q r n := by
  rcases perm6 hs e1 e2 e3 with ⟨rfl, rfl, rfl⟩ | ⟨rfl, rfl, rfl⟩ | ⟨rfl, rfl, rfl⟩ | ⟨rfl, rfl, rfl⟩ | ⟨rfl, rfl, rfl⟩ | ⟨rfl, rfl, rfl⟩
  · exact Iff.rfl
  · exact mvS_23
  · exact mvS_12
  · rw [mvS_23, mvS_12]
  · rw [mvS_12, mvS_23]
  · rw [mvS_12, mvS_23, mvS_12]
def H3 (w h : Int) (pk : Int → Int) (a0 b0 c0 : Int) (k : Nat) (n : Int) : Prop := ∃ a b c, R3 w h pk a0 b0 c0 k a b c ∧ nm3 a b c = n
theorem val_d {w h a b c : Int} (h36 : w * h ≤ 36) (v : val3 w h a b c) : (0 ≤ a ∧ a < 36) ∧ (0 ≤ b ∧ b < 36) ∧ (0 ≤ c ∧ c < 36) ∧ (¬ a = b ∧ ¬ a = c ∧ ¬ b = c) := ⟨by have := v.1; omega, by have := v.2.1; omega, by have := v.2.2.1; omega, tn_ds v.2.2.2⟩
/-- from the sorted three of a marked number one comes as far as from the three itself -/
theorem H3_mv {w h : Int} {pk : Int → Int} {a0 b0 c0 : Int} (h36 : w * h ≤ 36) (v : val3 w h a0 b0 c0) {k : Nat} {p q r n : Int} (hs : 0 ≤ p ∧ p < q ∧ q < r ∧ r < w * h) (hH : H3 w h pk a0 b0 c0 k (c3 r + c2 q + p)) (hm : mvS w h pk p q r n) : H3 w h pk a0 b0 c0 (k + 1) n := by
  obtain ⟨a, b, c, hR, e⟩ := hH
  have va := val_d h36 (R3_val v k hR)
  rw [← nm3_s ⟨hs.2.1, hs.2.2.1⟩] at e
  have inj := nm3_inj va.1 va.2.1 va.2.2.1 va.2.2.2 (p' := p) (q' := q) (r' := r) (by omega) (by omega) (by omega) (by omega) e
  have x1 : hi3 p q r = r := by unfold hi3; omega
  have x3 : lo3 p q r = p := by unfold lo3; omega
  have x2 : md3 p q r = q := by unfold md3; rw [x1, x3]; omega
  obtain ⟨a', b', c', s, e'⟩ := stp_mv.mpr ((mvS_p (w := w) (h := h) (pk := pk) (n := n) (show p < q ∧ q < r by omega) (inj.1.trans x1) (inj.2.1.trans x2) (inj.2.2.trans x3)).mpr hm)
  exact ⟨a', b', c', ⟨a, b, c, hR, s⟩, e'⟩
theorem H3_st {w h : Int} {pk : Int → Int} {a0 b0 c0 : Int} (h36 : w * h ≤ 36) (v : val3 w h a0 b0 c0) {k : Nat} {n : Int} (hH : H3 w h pk a0 b0 c0 (k + 1) n) : ∃ p q r, (0 ≤ p ∧ p < q ∧ q < r ∧ r < w * h) ∧ H3 w h pk a0 b0 c0 k (c3 r + c2 q + p) ∧ mvS w h pk p q r n := by
  obtain ⟨a', b', c', ⟨a, b, c, hR, s⟩, e⟩ := hH
  have vv := R3_val v k hR
  have va := val_d h36 vv
  have ss := srt3 va.2.2.2
  refine ⟨lo3 a b c, md3 a b c, hi3 a b c, ⟨by unfold lo3; omega, ss.1, ss.2, ?_⟩, ⟨a, b, c, hR, ?_⟩, ?_⟩
  · have v1 := vv.1
    have v2 := vv.2.1
    have v3 := vv.2.2.1
    unfold hi3
    omega
  · rfl
  · exact (mvS_p ss rfl rfl rfl).mp (stp_mv.mp ⟨a', b', c', s, e⟩)
theorem H3_b {w h : Int} {pk : Int → Int} {a0 b0 c0 : Int} (h36 : w * h ≤ 36) (v : val3 w h a0 b0 c0) {k : Nat} {n : Int} (hH : H3 w h pk a0 b0 c0 k n) : 0 ≤ n ∧ n < 7140 := by
  obtain ⟨a, b, c, hR, e⟩ := hH
  have va := val_d h36 (R3_val v k hR)
  rw [← e]
  exact nm3_b va.1 va.2.1 va.2.2.1 va.2.2.2
/-- the least k of a kind, or NONE -/
def ans (H : Nat → Prop) (v : Int) : Prop := (∃ k : Nat, v = k ∧ H k ∧ ∀ j, j < k → ¬ H j) ∨ (v = -1 ∧ ∀ k, ¬ H k)
theorem ans_u {H H' : Nat → Prop} (e : ∀ k, H k ↔ H' k) {v v' : Int} (h : ans H v) (h' : ans H' v') : v = v' := by
  rcases h with ⟨k, rfl, a, b⟩ | ⟨rfl, a⟩
  · rcases h' with ⟨k', rfl, a', b'⟩ | ⟨rfl, a'⟩
    · rcases Nat.lt_trichotomy k k' with c | c | c
      · exact absurd ((e k).mp a) (b' k c)
      · rw [c]
      · exact absurd ((e k').mpr a') (b k' c)
    · exact absurd ((e k).mp a) (a' k)
  · rcases h' with ⟨k', rfl, a', b'⟩ | ⟨rfl, a'⟩
    · exact absurd ((e k').mpr a') (a k')
    · rfl
/-- what is seen, and its edge, after k moves -/
def FW (w h : Int) (pk : Int → Int) (a0 b0 c0 : Int) (S E : Int → Prop) (k : Nat) : Prop := ∀ n, 0 ≤ n → n < 7168 → (S n ↔ ∃ j, j ≤ k ∧ H3 w h pk a0 b0 c0 j n) ∧ (E n ↔ H3 w h pk a0 b0 c0 k n ∧ ∀ j, j < k → ¬ H3 w h pk a0 b0 c0 j n)
theorem FW_s {w h : Int} {pk : Int → Int} {a0 b0 c0 : Int} (h36 : w * h ≤ 36) (v : val3 w h a0 b0 c0) {S E S' E' A : Int → Prop} {k : Nat} (hF : FW w h pk a0 b0 c0 S E k) (hA : ∀ n, A n ↔ spA w h pk E (fun _ _ _ => True) n) (hn : ∀ n, 0 ≤ n → n < 7168 → (S' n ↔ S n ∨ A n) ∧ (E' n ↔ A n ∧ ¬ S n)) : FW w h pk a0 b0 c0 S' E' (k + 1) := by
  have up : ∀ n, A n → H3 w h pk a0 b0 c0 (k + 1) n := fun n a => by
    obtain ⟨p, q, r, hs, _, hE, hm⟩ := (hA n).mp a
    have b := c_s (k := r) (by omega)
    have d := c_s (k := q) (by omega)
    have hb : 0 ≤ c3 r + c2 q + p ∧ c3 r + c2 q + p < 7140 := by
      have := nm3_b (p := p) (q := q) (r := r) (by omega) (by omega) (by omega) (by omega)
      rw [nm3_s (by omega)] at this
      exact this
    exact H3_mv h36 v hs ((hF _ hb.1 (by omega)).2.mp hE).1 hm
  have dn : ∀ n, 0 ≤ n → n < 7168 → H3 w h pk a0 b0 c0 (k + 1) n → ¬ S n → A n := fun n n0 n1 hH hS => by
    obtain ⟨p, q, r, hs, hE, hm⟩ := H3_st h36 v hH
    have hb := H3_b h36 v hE
    refine (hA n).mpr ⟨p, q, r, hs, trivial, (hF _ hb.1 (by omega)).2.mpr ⟨hE, fun j hj u => hS ?_⟩, hm⟩
    exact (hF n n0 n1).1.mpr ⟨j + 1, by omega, H3_mv h36 v hs u hm⟩
  intro n n0 n1
  have f := hF n n0 n1
  rw [(hn n n0 n1).1, (hn n n0 n1).2]
  constructor
  · constructor
    · rintro (u | u)
      · obtain ⟨j, hj, x⟩ := f.1.mp u
        exact ⟨j, by omega, x⟩
      · exact ⟨k + 1, Nat.le_refl _, up n u⟩
    · rintro ⟨j, hj, x⟩
      by_cases c : S n
      · exact Or.inl c
      · refine Or.inr ?_
        by_cases e : j = k + 1
        · subst e; exact dn n n0 n1 x c
        · exact absurd (f.1.mpr ⟨j, by omega, x⟩) c
  · constructor
    · rintro ⟨u, c⟩
      exact ⟨up n u, fun j hj x => c (f.1.mpr ⟨j, by omega, x⟩)⟩
    · rintro ⟨x, c⟩
      have cs : ¬ S n := fun s => by
        obtain ⟨j, hj, y⟩ := f.1.mp s
        exact c j (by omega) y
      exact ⟨dn n n0 n1 x cs, cs⟩
/-- each move on finds a new number, so there are no more than 7140 -/
noncomputable def cntK (P : Nat → Int → Prop) (k : Nat) : Int := smI (fun n => bI (∃ j, j ≤ k ∧ P j n)) 7140
theorem smI_le {f g : Int → Int} : ∀ n : Nat, (∀ i : Int, 0 ≤ i → i < n → f i ≤ g i) → sm f n ≤ sm g n
  | 0, _ => by simp [sm]
  | n + 1, h => by
    have a := smI_le n (fun i i0 i1 => h i i0 (by omega))
    have b := h n (by omega) (by omega)
    show sm f n + f n ≤ sm g n + g n
    omega
theorem smI_lt {f g : Int → Int} {m : Int} : ∀ n : Nat, (∀ i : Int, 0 ≤ i → i < n → f i ≤ g i) → 0 ≤ m → m < n → f m + 1 ≤ g m → sm f n + 1 ≤ sm g n
  | 0, _, _, h, _ => by omega
  | n + 1, h, m0, m1, hm => by
    show sm f n + f n + 1 ≤ sm g n + g n
    by_cases c : m = n
    · have a := smI_le n (fun i i0 i1 => h i i0 (by omega))
      rw [c] at hm
      omega
    · have a := smI_lt n (fun i i0 i1 => h i i0 (by omega)) m0 (by omega) hm
      have b := h n (by omega) (by omega)
      omega
theorem cntK_s {P : Nat → Int → Prop} {k : Nat} {n : Int} (hn : 0 ≤ n ∧ n < 7140) (h1 : P (k + 1) n) (h2 : ∀ j, j ≤ k → ¬ P j n) : cntK P k + 1 ≤ cntK P (k + 1) := by
  unfold cntK smI
  refine smI_lt (m := n) _ (fun i _ _ => ?_) hn.1 (by omega) ?_
  · by_cases c : ∃ j, j ≤ k ∧ P j i
    · rw [bI_t c, bI_t (by obtain ⟨j, hj, x⟩ := c; exact ⟨j, by omega, x⟩)]; exact Int.le_refl _
    · rw [bI_f c]; exact (bI_b _).1
  · rw [bI_f (fun ⟨j, hj, x⟩ => h2 j hj x), bI_t ⟨k + 1, Nat.le_refl _, h1⟩]; exact Int.le_refl _
theorem cntK_b {P : Nat → Int → Prop} {k : Nat} : cntK P k ≤ 7140 := by
  have := smI_nn (f := fun n => bI (∃ j, j ≤ k ∧ P j n)) (A := 1) (n := 7140) (by decide) (fun i _ _ => bI_b _)
  unfold cntK
  omega
theorem cntK_0 {P : Nat → Int → Prop} {n : Int} (hn : 0 ≤ n ∧ n < 7140) (h : P 0 n) : 1 ≤ cntK P 0 := by
  have a := smI_lt (f := fun _ => 0) (g := fun n => bI (∃ j, j ≤ 0 ∧ P j n)) (m := n) 7140 (fun i _ _ => (bI_b _).1) hn.1 (by omega) (by rw [bI_t ⟨0, Nat.le_refl _, h⟩]; exact Int.le_refl _)
  have z : ∀ n : Nat, sm (fun _ => (0 : Int)) n = 0 := by
    intro n
    induction n with
    | zero => rfl
    | succ n ih => show sm _ n + 0 = 0; rw [ih]; rfl
  rw [z] at a
  unfold cntK smI
  rw [show Int.toNat 7140 = 7140 from rfl]
  omega
