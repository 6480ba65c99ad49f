/-! ===== the class and the reference, side by side ===== -/
def nmU (names : Int → Int) (m : Int) : Prop := cB 8 m ∧ (∀ i, 0 ≤ i → i < m → 0 < names i) ∧ ∀ i j, 0 ≤ i → i < j → j < m → ¬ names i = names j
/-- the bands' names: by the place of the name, by the name -/
def nmI (ids names : Int → Int) (m : Int) (D N : Int → Int) : Prop := ∀ b, 0 ≤ b → b < D 4 → (ids b = -1 ∧ N b = 0) ∨ ((0 ≤ ids b ∧ ids b < m) ∧ N b = names (ids b))
def clR (σ : jS) (T : Nat) (D : Int → Int) : Prop := D 242 = σ (T + 7) 0 ∧ okC D ∧ ((σ (T + 7) 0 = 0 ∧ D 241 = 0) ∨ ((3 ≤ σ (T + 7) 0 ∧ D 241 = 1) ∧ σ (T + 7) 1 = D 243 ∧ σ (T + 7) 2 = D 244 ∧ ∀ i, 0 ≤ i → i < σ (T + 7) 0 → σ (T + 8) i = D (245 + 2 * i) ∧ σ (T + 9) i = D (246 + 2 * i)))
def liR (σ : jS) (T : Nat) (D : Int → Int) : Prop := D 261 = σ T 3 ∧ okGm D ∧ ∀ k, 0 ≤ k → k < D 261 → pts (D (262 + 2 * k)) (D (262 + 2 * k + 1)) = 1 ∧ σ (T + 10) k = 100 * min (D (262 + 2 * k)) (D (262 + 2 * k + 1)) + max (D (262 + 2 * k)) (D (262 + 2 * k + 1))
def seR (σ : jS) (T : Nat) (D S : Int → Int) : Prop := (D 270 = 0 ∧ σ (T + 11) 0 = 0) ∨ (D 270 = 1 ∧ (0 < σ (T + 11) 0 ∧ σ (T + 11) 0 ≤ 39) ∧ ∃ (e : Fm) (N M : Int) (idn : Int → Int), rpC (σ (T + 12)) 0 (σ (T + 11) 0) e 20 ∧ (0 ≤ N ∧ N ≤ 40) ∧ (0 ≤ M ∧ M ≤ 20) ∧ okNd N M (fun j => D (272 + j)) ∧ okSy M S ∧ rpM N M (fun j => D (272 + j)) S idn (D 271) e ∧ ∀ w, idn w = fi (fun i => σ (T + 2) i = w) (σ (T + 1) 6))
/-- a table of the class tells what rows of the reference tell -/
def tbR (σ : jS) (T : Nat) (D N S : Int → Int) : Prop := (okV D ∧ RC σ (T + 1) D ∧ okA σ (T + 1)) ∧ (nmU (σ (T + 2)) (σ (T + 1) 6) ∧ nmI (σ (T + 4)) (σ (T + 2)) (σ (T + 1) 6) D N ∧ ∀ j, 0 ≤ j → j < 8 → lR (N j)) ∧ clR σ T D ∧ liR σ T D ∧ seR σ T D S
theorem okA_t {σ τ : jS} {k : Nat} (h : okA σ k) (e0 : τ k = σ k) (e1 : τ (k + 1) = σ (k + 1)) (e2 : τ (k + 2) = σ (k + 2)) (e3 : τ (k + 3) = σ (k + 3)) (e4 : τ (k + 4) = σ (k + 4)) (e5 : τ (k + 5) = σ (k + 5)) : okA τ k := by
  unfold okA
  rw [e0, e1]
  exact ⟨okB_t h.1 e2 e3 e4 e5, h.2⟩
theorem tbR_t {σ τ : jS} {T : Nat} {D N S : Int → Int} (h : tbR σ T D N S) (e : ∀ c, T ≤ c → c ≤ T + 12 → τ c = σ c) : tbR τ T D N S := by
  have c0 := e T (by omega) (by omega)
  have c1 := e (T + 1) (by omega) (by omega)
  have c2 := e (T + 2) (by omega) (by omega)
  have c3 := e (T + 3) (by omega) (by omega)
  have c4 := e (T + 4) (by omega) (by omega)
  have c5 := e (T + 5) (by omega) (by omega)
  have c6 := e (T + 6) (by omega) (by omega)
  have c7 := e (T + 7) (by omega) (by omega)
  have c8 := e (T + 8) (by omega) (by omega)
  have c9 := e (T + 9) (by omega) (by omega)
  have c10 := e (T + 10) (by omega) (by omega)
  have c11 := e (T + 11) (by omega) (by omega)
  have c12 := e (T + 12) (by omega) (by omega)
  obtain ⟨⟨h1, h2, h3⟩, h4, h5, h6, h7⟩ := h
  refine ⟨⟨h1, RC_t h2 c1 c3 c5 c6, okA_t h3 c1 c2 c3 c4 c5 c6⟩, ?_, ?_, ?_, ?_⟩
  · rw [c2, c1, c4]; exact h4
  · unfold clR; rw [c7, c8, c9]; exact h5
  · unfold liR; rw [c0, c10]; exact h6
  · unfold seR; rw [c11, c12, c2, c1]; exact h7
/-- bands that are kept for undo -/
def pbR (σ : jS) (B : Nat) (H E N : Int → Int) : Prop := (okV E ∧ (∀ j, 0 ≤ j → j < 105 → ¬ j = 4 → E j = H j)) ∧ okB σ B ∧ σ B 0 = E 4 ∧ (∀ b, 0 ≤ b → b < E 4 → σ (B + 2) b = E (105 + 17 * b) ∧ ∀ i, 0 ≤ i → i < E (105 + 17 * b) → σ (B + 3) (b * 8 + i) = 10 * E (105 + 17 * b + 2 + 2 * i) + E (105 + 17 * b + 1 + 2 * i)) ∧ nmI (σ (B + 1)) (σ 29) (σ 28 6) E N ∧ ∀ j, 0 ≤ j → j < 8 → lR (N j)
def paR (σ : jS) : Prop := (σ 111 27 = σ 0 6 ∧ cB 8 (σ 0 6) ∧ okP σ) ∧ ∀ i, 0 ≤ i → i < σ 0 6 → pbR σ (σ 8 i).toNat (σ 113) (fun j => σ 117 (241 * i + j)) (fun j => σ 120 (8 * i + j))
def imR (σ : jS) : Prop := (σ 7 0 = 53 ∧ σ 7 1 = 66) ∧ (cB 1 (σ 124 0) ∧ σ 53 0 = σ 124 0 ∧ (cB 1 (σ 54 2) ∧ cB 5 (σ 54 7)) ∧ (σ 124 0 = 1 → tbR σ 53 (fun j => σ 116 (512 * 0 + j)) (fun j => σ 122 (8 * 0 + j)) (fun j => σ 123 (20 * 0 + j)))) ∧ (cB 1 (σ 124 1) ∧ σ 66 0 = σ 124 1 ∧ (cB 1 (σ 67 2) ∧ cB 5 (σ 67 7)) ∧ (σ 124 1 = 1 → tbR σ 66 (fun j => σ 116 (512 * 1 + j)) (fun j => σ 122 (8 * 1 + j)) (fun j => σ 123 (20 * 1 + j))))
def foR (σ : jS) : Prop := cB 16 (σ 9 1) ∧ σ 111 33 = σ 9 1 ∧ ∀ j, 0 ≤ j → j < σ 9 1 → σ 10 j = σ 129 j
def teR (σ : jS) : Prop := ∃ L : List Int, TX (σ 5) (σ 4 1) L ∧ TX (σ 130) (σ 111 36) L ∧ L.length ≤ 79 ∧ ∀ x ∈ L, 0 ≤ x ∧ x < 128
def tpR (σ : jS) : Prop := cB 640 (σ 2 1) ∧ σ 111 2 = σ 2 1 ∧ mTp (tpe σ) (σ 2 1) σ
def fwR (σ : jS) : Prop := σ 111 10 = σ 0 13 ∧ σ 111 12 = σ 0 14
def drR (σ : jS) : Prop := okA σ 41 ∧ ∀ j, 0 ≤ j → j < 8 → lR (σ 119 j)
/-- ALL THAT HOLDS between two calls -/
def Inv (σ : jS) : Prop := tpR σ ∧ fwR σ ∧ tbR σ 27 (σ 113) (σ 118) (σ 121) ∧ imR σ ∧ paR σ ∧ foR σ ∧ teR σ ∧ drR σ
/-- cells in which nothing is kept from call to call -/
abbrev SCR : List Nat := [1, 6, 11, 12, 13, 14, 15, 16, 17, 18, 19, 20, 21, 22, 23, 24, 25, 26, 40, 47, 48, 49, 50, 51, 52, 111, 114, 115, 125, 126, 127, 128, 131, 132, 133, 134, 135, 136, 137, 138, 139]
def agr (σ τ : jS) : Prop := (∀ c, c ∉ SCR → τ c = σ c) ∧ ∀ j, j ∈ ([2, 10, 12, 27, 33, 36] : List Int) → τ 111 j = σ 111 j
theorem agr.refl (σ : jS) : agr σ σ := ⟨fun _ _ => rfl, fun _ _ => rfl⟩
theorem agr.tr {σ τ ρ : jS} (h : agr σ τ) (g : agr τ ρ) : agr σ ρ := ⟨fun c hc => (g.1 c hc).trans (h.1 c hc), fun j hj => (g.2 j hj).trans (h.2 j hj)⟩
theorem isPst_n {z : Int} (h : isPst z) : 79 ≤ z.toNat ∧ z.toNat + 3 ≤ 110 := by unfold isPst at h; omega
theorem scr_n {c : Nat} (h : (2 ≤ c ∧ c ≤ 5) ∨ (7 ≤ c ∧ c ≤ 10) ∨ (27 ≤ c ∧ c ≤ 39) ∨ (41 ≤ c ∧ c ≤ 46) ∨ (53 ≤ c ∧ c ≤ 110) ∨ c = 0 ∨ c = 112 ∨ c = 113 ∨ (116 ≤ c ∧ c ≤ 124) ∨ c = 129 ∨ c = 130) : c ∉ SCR := by simp; omega
theorem pbR_t {σ τ : jS} {B : Nat} {H H' E E' N N' : Int → Int} (h : pbR σ B H E N) (e0 : τ B = σ B) (e1 : τ (B + 1) = σ (B + 1)) (e2 : τ (B + 2) = σ (B + 2)) (e3 : τ (B + 3) = σ (B + 3)) (e4 : τ 29 = σ 29) (e5 : τ 28 = σ 28) (eH : H' = H) (eE : E' = E) (eN : N' = N) : pbR τ B H' E' N' := by
  subst eH eE eN
  obtain ⟨h1, h2, h3, h4, h5, h6⟩ := h
  refine ⟨h1, okB_t h2 e0 e1 e2 e3, by rw [e0]; exact h3, by rw [e2, e3]; exact h4, by rw [e1, e4, e5]; exact h5, h6⟩
theorem Inv_a {σ τ : jS} (h : Inv σ) (e : agr σ τ) : Inv τ := by
  obtain ⟨h1, h2, h3, h4, h5, h6, h7, h8⟩ := h
  have k : ∀ c, ((2 ≤ c ∧ c ≤ 5) ∨ (7 ≤ c ∧ c ≤ 10) ∨ (27 ≤ c ∧ c ≤ 39) ∨ (41 ≤ c ∧ c ≤ 46) ∨ (53 ≤ c ∧ c ≤ 110) ∨ c = 0 ∨ c = 112 ∨ c = 113 ∨ (116 ≤ c ∧ c ≤ 124) ∨ c = 129 ∨ c = 130) → τ c = σ c := fun c hc => e.1 c (scr_n hc)
  have m2 := e.2 2 (by decide)
  have m10 := e.2 10 (by decide)
  have m12 := e.2 12 (by decide)
  have m27 := e.2 27 (by decide)
  have m33 := e.2 33 (by decide)
  have m36 := e.2 36 (by decide)
  have k0 := k 0 (by omega)
  have k113 := k 113 (by omega)
  refine ⟨?_, ?_, ?_, ?_, ?_, ?_, ?_, ?_⟩
  · unfold tpR mTp tpe
    rw [k 2 (by omega), k 3 (by omega), k 112 (by omega), m2]; exact h1
  · unfold fwR
    rw [k0, m10, m12]; exact h2
  · rw [k113, k 118 (by omega), k 121 (by omega)]
    exact tbR_t h3 (fun c c0 c1 => k c (by omega))
  · obtain ⟨a, b, c⟩ := h4
    unfold imR
    rw [k 7 (by omega), k 124 (by omega), k 53 (by omega), k 54 (by omega), k 66 (by omega), k 67 (by omega), k 116 (by omega), k 122 (by omega), k 123 (by omega)]
    exact ⟨a, ⟨b.1, b.2.1, b.2.2.1, fun z => tbR_t (b.2.2.2 z) (fun c c0 c1 => k c (by omega))⟩, ⟨c.1, c.2.1, c.2.2.1, fun z => tbR_t (c.2.2.2 z) (fun c c0 c1 => k c (by omega))⟩⟩
  · obtain ⟨a, b⟩ := h5
    have hP : okP τ := by unfold okP; rw [k 8 (by omega)]; exact a.2.2
    refine ⟨⟨by rw [m27, k0]; exact a.1, by rw [k0]; exact a.2.1, hP⟩, fun i i0 i1 => ?_⟩
    rw [k0] at i1
    have q := isPst_n (a.2.2.1 i i0 (by have := a.2.1; omega))
    rw [k 8 (by omega)]
    exact pbR_t (b i i0 i1) (k _ (by omega)) (k _ (by omega)) (k _ (by omega)) (k _ (by omega)) (k 29 (by omega)) (k 28 (by omega)) k113 (by rw [k 117 (by omega)]) (by rw [k 120 (by omega)])
  · unfold foR
    rw [k 9 (by omega), k 10 (by omega), k 129 (by omega), m33]; exact h6
  · unfold teR
    rw [k 5 (by omega), k 4 (by omega), k 130 (by omega), m36]; exact h7
  · refine ⟨okA_t h8.1 (k _ (by omega)) (k _ (by omega)) (k _ (by omega)) (k _ (by omega)) (k _ (by omega)) (k _ (by omega)), ?_⟩
    rw [k 119 (by omega)]; exact h8.2
/-- what the contracts ask for -/
def Ik (σ : jS) : Prop := okD σ 28 ∧ okB σ 30 ∧ (∀ b, 0 ≤ b → b < σ 30 0 → 3 ≤ σ 32 b) ∧ okN σ ∧ σ 30 0 = σ 113 4 ∧ (∀ b, 0 ≤ b → b < σ 113 4 → σ 32 b = cn σ 113 b ∧ bAt σ 30 b = rP σ 113 b) ∧ pkC σ 28 = pkR σ 113 ∧ (σ 28 0 = σ 113 0 ∧ σ 28 1 = σ 113 1 ∧ σ 28 2 = σ 113 2 ∧ σ 28 3 = σ 113 3)
theorem Inv_k {σ : jS} (h : Inv σ) : Ik σ := by
  obtain ⟨⟨hV, hR, hA⟩, _⟩ := h.2.2.1
  have r4 : σ 30 0 = σ 113 4 := hR.2.2.2.2.1
  have n3 : ∀ b, 0 ≤ b → b < σ 113 4 → 3 ≤ σ 113 (105 + 17 * b) := fun b b0 b1 => (hV.2.2.2.2.2.2 b b0 b1).1.1
  have e : ∀ b, 0 ≤ b → b < σ 113 4 → σ 32 b = cn σ 113 b ∧ bAt σ 30 b = rP σ 113 b := fun b b0 b1 => ⟨(hR.2.2.2.2.2.2 b b0 b1).1, by funext i; exact RC_P hR b0 b1 (by have := n3 b b0 b1; omega) i⟩
  refine ⟨RC_D hR hV hA, hA.1, fun b b0 b1 => ?_, ⟨okV_H hV, fun b b0 b1 => okV_B hV b0 b1⟩, r4, e, ?_, hR.1, hR.2.1, hR.2.2.1, hR.2.2.2.1⟩
  · rw [(e b b0 (by omega)).1]; exact n3 b b0 (by omega)
  · funext p; exact RC_pk hR hV p
theorem agr_ju (σ : jS) (z : Int) : agr σ (ju σ 111 0 z) := ⟨fun c hc => ju_off _ _ _ _ _ (fun q => hc (by rw [q]; decide)), fun j hj => by rw [ju_ne (by intro q; rw [q.2] at hj; exact absurd hj (by decide))]⟩
/-- both sides answer alike, and all holds again -/
def Ag (dc dm : Nat) (yc ym : jMI) (as : List Value) (σ : jS) : Prop := Jm dc yc (.ref 0 :: as) σ (fun r τ => ∃ v, r = some (vI v) ∧ Jm dm ym (.ref 111 :: as) τ (fun r' ρ => r' = some (vI v) ∧ Inv ρ))
/-- both only look -/
theorem Ag_p {dc dm : Nat} {yc ym : jMI} {as : List Value} {σ : jS} {v w : Int} (h : Inv σ) (hc : Jp dc yc (.ref 0 :: as) σ (vI v)) (hm : Jm dm ym (.ref 111 :: as) σ (fun r τ => τ = ju σ 111 0 0 ∧ r = some (vI w))) (e : v = w) : Ag dc dm yc ym as σ :=
  hc.mono (fun r τ q => ⟨v, q.1, by rw [q.2]; exact hm.mono (fun r' ρ z => ⟨by rw [z.2, e], by rw [z.1]; exact Inv_a h (agr_ju σ 0)⟩)⟩)
