/-- a method's contract out of its walk from pc 0 (of the JDK's classes too) -/
theorem jm_ofF {d : Nat} {y : jMI} {as : List Value} {σ : jS} {Po : Option Value → jS → Prop} {lv : List (Nat × Value)} (hy : plainFor y.1 = true) (hn : (lg_sl as).length ≤ y.2.2.1) (hlv : lv_args 0 as = lv) (h : jR d y Po 0 lv [] σ) : Jm d y as σ Po := by
  intro l ad A D cA
  refine MetFree.of_bodySF (code := y.2.1) (maxLocals := y.2.2.1) (ret := y.2.2.2) hy ?_ ?_
  · intro args s m h hn
    obtain ⟨meth, c, h1, h2, h3, h4, h5, h6, -, -⟩ := Cond.code_spec hn (atoms_spec (ws := jW y) h _ List.mem_cons_self)
    exact ⟨meth, c, h1, h2, h3, h4, h5, h6⟩
  · intro p e s m args below meth c s₁ B hml hv _
    have hh0 : s₁.heap = s.heap := by rw [B.state]; rfl
    obtain ⟨rfl, hP, hK, hD⟩ := hv
    have hts := atoms_spec (ws := jW y) B.pre
    have hl := lv_entry (as.map (jv ad)) (n := y.2.2.1) (by rw [jsl_len]; exact hn)
    rw [jargs_map, hlv] at hl
    have hW := h p l e s m (as.map (jv ad)).toArray below meth c ad A D cA s.heap [] _ ⟨B.exec, B.bytes, B.returns, hml, findClass_of_methodNamed B.named, fun w hw => hts w (List.mem_cons_of_mem _ hw), B.notSynchronized⟩ ⟨hK, hP, hD, va_S.rf⟩ hl
    obtain ⟨t, a1, o, b1, b2, b3⟩ := hW s₁ hh0 (Stand.of_body B)
    rw [lg_entry_eq]
    exact ⟨t, o, a1, b1, b2, ⟨b3.1, b3.2⟩⟩
/-! ===== words of the plane ===== -/
theorem mulb {a b A B : Int} (ha1 : -A ≤ a) (ha2 : a ≤ A) (hb1 : -B ≤ b) (hb2 : b ≤ B) : -(A * B) ≤ a * b ∧ a * b ≤ A * B := by
  have h1 := Int.mul_nonneg (show 0 ≤ A - a by omega) (show 0 ≤ B + b by omega)
  have h2 := Int.mul_nonneg (show 0 ≤ A + a by omega) (show 0 ≤ B - b by omega)
  have h3 := Int.mul_nonneg (show 0 ≤ A - a by omega) (show 0 ≤ B - b by omega)
  have h4 := Int.mul_nonneg (show 0 ≤ A + a by omega) (show 0 ≤ B + b by omega)
  simp only [Int.sub_mul, Int.add_mul, Int.mul_add, Int.mul_sub] at h1 h2 h3 h4
  constructor <;> omega
def crs (ax ay bx by_ cx cy : Int) : Int := (bx - ax) * (cy - ay) - (by_ - ay) * (cx - ax)
def dt (ax ay bx by_ cx cy : Int) : Int := (bx - ax) * (cx - ax) + (by_ - ay) * (cy - ay)
/-- of pegs by their numbers -/
def tn (a b c : Int) : Int := crs (a % 10) (a / 10) (b % 10) (b / 10) (c % 10) (c / 10)
def al (a b c : Int) : Int := dt (a % 10) (a / 10) (b % 10) (b / 10) (c % 10) (c / 10)
def sh (a b : Int) : Int := (a % 10) * (b / 10) - (b % 10) * (a / 10)
theorem crs_b {M ax ay bx by_ cx cy : Int} (h : 0 ≤ ax ∧ ax ≤ M ∧ 0 ≤ ay ∧ ay ≤ M ∧ 0 ≤ bx ∧ bx ≤ M ∧ 0 ≤ by_ ∧ by_ ≤ M ∧ 0 ≤ cx ∧ cx ≤ M ∧ 0 ≤ cy ∧ cy ≤ M) : -(2 * (M * M)) ≤ crs ax ay bx by_ cx cy ∧ crs ax ay bx by_ cx cy ≤ 2 * (M * M) := by
  have h1 := mulb (a := bx - ax) (b := cy - ay) (A := M) (B := M) (by omega) (by omega) (by omega) (by omega)
  have h2 := mulb (a := by_ - ay) (b := cx - ax) (A := M) (B := M) (by omega) (by omega) (by omega) (by omega)
  unfold crs
  constructor <;> omega
theorem dt_b {M ax ay bx by_ cx cy : Int} (h : 0 ≤ ax ∧ ax ≤ M ∧ 0 ≤ ay ∧ ay ≤ M ∧ 0 ≤ bx ∧ bx ≤ M ∧ 0 ≤ by_ ∧ by_ ≤ M ∧ 0 ≤ cx ∧ cx ≤ M ∧ 0 ≤ cy ∧ cy ≤ M) : -(2 * (M * M)) ≤ dt ax ay bx by_ cx cy ∧ dt ax ay bx by_ cx cy ≤ 2 * (M * M) := by
  have h1 := mulb (a := bx - ax) (b := cx - ax) (A := M) (B := M) (by omega) (by omega) (by omega) (by omega)
  have h2 := mulb (a := by_ - ay) (b := cy - ay) (A := M) (B := M) (by omega) (by omega) (by omega) (by omega)
  unfold dt
  constructor <;> omega
abbrev isPg (a : Int) : Prop := 0 ≤ a ∧ a ≤ 99
theorem tn_b {a b c : Int} (ha : isPg a) (hb : isPg b) (hc : isPg c) : -162 ≤ tn a b c ∧ tn a b c ≤ 162 := crs_b (M := 9) ⟨by omega, by omega, by omega, by omega, by omega, by omega, by omega, by omega, by omega, by omega, by omega, by omega⟩
theorem al_b {a b c : Int} (ha : isPg a) (hb : isPg b) (hc : isPg c) : -162 ≤ al a b c ∧ al a b c ≤ 162 := dt_b (M := 9) ⟨by omega, by omega, by omega, by omega, by omega, by omega, by omega, by omega, by omega, by omega, by omega, by omega⟩
theorem sh_b {a b : Int} (ha : isPg a) (hb : isPg b) : -81 ≤ sh a b ∧ sh a b ≤ 81 := by
  have h1 := mulb (a := a % 10) (b := b / 10) (A := 9) (B := 9) (by omega) (by omega) (by omega) (by omega)
  have h2 := mulb (a := b % 10) (b := a / 10) (A := 9) (B := 9) (by omega) (by omega) (by omega) (by omega)
  have h3 : 0 ≤ (a % 10) * (b / 10) := Int.mul_nonneg (by omega) (by omega)
  have h4 : 0 ≤ (b % 10) * (a / 10) := Int.mul_nonneg (by omega) (by omega)
  unfold sh
  constructor <;> omega
/-- in how many parts the places part the way -/
def gd (x y : Int) : Int := (Int.gcd x y : Nat)
def pts (a b : Int) : Int := gd (a % 10 - b % 10) (a / 10 - b / 10)
def onS (p a b : Int) : Prop := tn a b p = 0 ∧ al p a b ≤ 0
/-- 0 apart, 1 a crossing, 2 a touch -/
noncomputable def mt (a b c d : Int) : Int := @ite _ (tn a b c * tn a b d < 0 ∧ tn c d a * tn c d b < 0) (Classical.propDecidable _) 1 (@ite _ (onS c a b ∨ onS d a b ∨ onS a c d ∨ onS b c d) (Classical.propDecidable _) 2 0)
/-! sums -/
def sm (f : Int → Int) : Nat → Int
  | 0 => 0
  | n + 1 => sm f n + f n
def smI (f : Int → Int) (n : Int) : Int := sm f n.toNat
theorem smI_0 (f : Int → Int) : smI f 0 = 0 := rfl
theorem smI_s (f : Int → Int) {i : Int} (h : 0 ≤ i) : smI f (i + 1) = smI f i + f i := by
  unfold smI
  rw [show (i + 1).toNat = i.toNat + 1 by omega, sm, Int.toNat_of_nonneg h]
theorem sm_b {f : Int → Int} {A : Int} (n : Nat) (h : ∀ i : Int, 0 ≤ i → i < n → -A ≤ f i ∧ f i ≤ A) : -(n * A) ≤ sm f n ∧ sm f n ≤ n * A := by
  induction n with
  | zero => simp [sm]
  | succ n ih =>
    have h1 := ih (fun i h0 h1 => h i h0 (by omega))
    have h2 := h n (by omega) (by omega)
    rw [sm, show ((n + 1 : Nat) : Int) = n + 1 by omega, Int.add_mul]
    omega
theorem sm_congr {f g : Int → Int} (n : Nat) (h : ∀ i : Int, 0 ≤ i → i < n → f i = g i) : sm f n = sm g n := by
  induction n with
  | zero => rfl
  | succ n ih => rw [sm, sm, ih (fun i h0 h1 => h i h0 (by omega)), h n (by omega) (by omega)]
theorem smI_congr {f g : Int → Int} {n : Int} (h : ∀ i : Int, 0 ≤ i → i < n → f i = g i) : smI f n = smI g n := sm_congr _ (fun i h0 h1 => h i h0 (by omega))
theorem smI_b {f : Int → Int} {A n : Int} (hn : 0 ≤ n) (h : ∀ i : Int, 0 ≤ i → i < n → -A ≤ f i ∧ f i ≤ A) : -(n * A) ≤ smI f n ∧ smI f n ≤ n * A := by
  have := sm_b (f := f) (A := A) n.toNat (fun i h0 h1 => h i h0 (by omega))
  rw [Int.toNat_of_nonneg hn] at this
  exact this
/-! ===== a band of the class ===== -/
/-- what all bands' rows hold at any time -/
def okB (σ : jS) (k : Nat) : Prop := (0 ≤ σ k 0 ∧ σ k 0 ≤ 8) ∧ (∀ b : Int, 0 ≤ b → b < 8 → 0 ≤ σ (k + 2) b ∧ σ (k + 2) b ≤ 8) ∧ (∀ j : Int, 0 ≤ j → j < 64 → isPg (σ (k + 3) j)) ∧ ∀ j : Int, 0 ≤ j → j < 8 → -1 ≤ σ (k + 1) j ∧ σ (k + 1) j ≤ 7
def bAt (σ : jS) (k : Nat) (b i : Int) : Int := σ (k + 3) (b * 8 + i % σ (k + 2) b)
theorem bAt_p {σ : jS} {k : Nat} (h : okB σ k) {b i : Int} (h0 : 0 ≤ b) (h1 : b < 8) (hs : 0 < σ (k + 2) b) (hi : 0 ≤ i) : isPg (bAt σ k b i) := by
  have h2 := h.2.1 b h0 h1
  have h3 := Int.emod_lt_of_pos i hs
  have h4 := Int.emod_nonneg i (show σ (k + 2) b ≠ 0 by omega)
  exact h.2.2.1 _ (by omega) (by omega)
