/-! ===== lists laid by loops ===== -/
noncomputable def lif (P : Prop) (L : List Int) : List Int := @ite _ P (Classical.propDecidable P) L []
theorem lif_t {P : Prop} {L : List Int} (h : P) : lif P L = L := by unfold lif; exact if_pos h
theorem lif_f {P : Prop} {L : List Int} (h : ¬ P) : lif P L = [] := by unfold lif; exact if_neg h
theorem lif_iff {P Q : Prop} (h : P ↔ Q) (L : List Int) : lif P L = lif Q L := by rw [propext h]
theorem lif_c {P : Prop} {L M : List Int} (h : P → L = M) : lif P L = lif P M := by
  by_cases c : P
  · rw [h c]
  · rw [lif_f c, lif_f c]
def flN (f : Int → List Int) : Nat → List Int
  | 0 => []
  | n + 1 => flN f n ++ f n
def fl (f : Int → List Int) (n : Int) : List Int := flN f n.toNat
theorem fl_0 (f : Int → List Int) : fl f 0 = [] := rfl
theorem fl_s (f : Int → List Int) {n : Int} (h : 0 ≤ n) : fl f (n + 1) = fl f n ++ f n := by
  unfold fl
  rw [show (n + 1).toNat = n.toNat + 1 by omega, flN, Int.toNat_of_nonneg h]
theorem flN_c {f g : Int → List Int} : ∀ n : Nat, (∀ i : Int, 0 ≤ i → i < n → f i = g i) → flN f n = flN g n
  | 0, _ => rfl
  | n + 1, h => by rw [flN, flN, flN_c n (fun i i0 i1 => h i i0 (by omega)), h n (by omega) (by omega)]
theorem fl_c {f g : Int → List Int} {n : Int} (h : ∀ i : Int, 0 ≤ i → i < n → f i = g i) : fl f n = fl g n := flN_c _ (fun i i0 i1 => h i i0 (by omega))
theorem flN_nil {f : Int → List Int} : ∀ n : Nat, (∀ i : Int, 0 ≤ i → i < n → f i = []) → flN f n = []
  | 0, _ => rfl
  | n + 1, h => by rw [flN, flN_nil n (fun i i0 i1 => h i i0 (by omega)), h n (by omega) (by omega)]; rfl
theorem fl_nil {f : Int → List Int} {n : Int} (h : ∀ i : Int, 0 ≤ i → i < n → f i = []) : fl f n = [] := flN_nil _ (fun i i0 i1 => h i i0 (by omega))
theorem flN_pre {f : Int → List Int} (i : Nat) : ∀ n : Nat, i < n → flN f i ++ f i <+: flN f n
  | 0, h => absurd h (by omega)
  | n + 1, h => by
    rw [flN]
    by_cases c : i = n
    · subst c; exact List.prefix_refl _
    · exact (flN_pre i n (by omega)).trans (List.prefix_append _ _)
theorem fl_pre {f : Int → List Int} {i n : Int} (h0 : 0 ≤ i) (h1 : i < n) : fl f i ++ f i <+: fl f n := by
  have := flN_pre (f := f) i.toNat n.toNat (by omega)
  rw [Int.toNat_of_nonneg h0] at this
  exact this
theorem flN_len {f : Int → List Int} {B : Nat} (h : ∀ i, (f i).length ≤ B) : ∀ n : Nat, (flN f n).length ≤ n * B
  | 0 => by simp [flN]
  | n + 1 => by
    rw [flN, List.length_append, Nat.succ_mul]
    have := flN_len h n
    have := h n
    omega
theorem fl_len {f : Int → List Int} {B : Nat} (h : ∀ i, (f i).length ≤ B) {n : Int} (hn : n ≤ 100) : (fl f n).length ≤ 100 * B :=
  Nat.le_trans (flN_len h _) (Nat.mul_le_mul_right B (by omega))
theorem lif_len {P : Prop} {L : List Int} {B : Nat} (h : L.length ≤ B) : (lif P L).length ≤ B := by
  by_cases c : P
  · rw [lif_t c]; exact h
  · rw [lif_f c]; exact Nat.zero_le _
/-- how many there are, or the k-th -/
def nthL (L : List Int) (k : Int) : Int := if k = -1 then L.length else if 0 ≤ k ∧ k < L.length then L.getD k.toNat (-1) else -1
theorem nthL_at {T L : List Int} {c k : Int} (h : L ++ [c] <+: T) (hk : (L.length : Int) = k) : nthL T k = c := by
  obtain ⟨R, rfl⟩ := h
  unfold nthL
  rw [if_neg (by omega), if_pos ⟨by omega, by simp; omega⟩, show k.toNat = L.length by omega]
  simp
theorem nthL_end {T : List Int} {n k : Int} (hn : n = T.length) (hk : ¬ (0 ≤ k ∧ k < n)) : nthL T k = if k = -1 then n else -1 := by
  unfold nthL
  rw [hn] at hk ⊢
  by_cases c : k = -1
  · rw [if_pos c, if_pos c]
  · rw [if_neg c, if_neg hk, if_neg c]
theorem gDe {L : List Int} {i : Nat} {d : Int} (h : i < L.length) : L.getD i d = L[i] := by
  rw [List.getD_eq_getElem?_getD, List.getElem?_eq_getElem h]; rfl
theorem pre_in {A B C : List Int} (h : B <+: C) : A ++ B <+: A ++ C := (List.prefix_append_right_inj A).mpr h
/-- a found one is put behind those found -/
theorem fnd_s {L : List Int} {n k c : Int} (h : n = L.length) (hk : ¬ (0 ≤ k ∧ k < n)) (hn : ¬ n = k) : n + 1 = (L ++ [c]).length ∧ ¬ (0 ≤ k ∧ k < n + 1) := by
  rw [List.length_append]
  simp
  omega
/-- a list in a row -/
def LI (f : Int → Int) (n : Int) (L : List Int) : Prop := n = L.length ∧ ∀ i : Nat, i < L.length → f i = L.getD i 0
theorem LI_0 (f : Int → Int) : LI f 0 [] := ⟨rfl, fun i h => absurd h (by simp)⟩
theorem LI_1 {f g : Int → Int} {n : Int} {L : List Int} {c : Int} (h : LI f n L) (hn : g n = c) (hg : ∀ j, ¬ j = n → g j = f j) : LI g (n + 1) (L ++ [c]) := TX_1 h hn hg
theorem LI_c {f g : Int → Int} {n : Int} {L : List Int} (h : LI f n L) (hg : ∀ j, 0 ≤ j → j < n → g j = f j) : LI g n L := ⟨h.1, fun i hi => by rw [hg i (by omega) (by have := h.1; omega)]; exact h.2 i hi⟩
/-- running through a list's places is running through the list -/
theorem flN_LI {f : Int → Int} {g : Int → List Int} {L : List Int} (h : ∀ i : Nat, i < L.length → f i = L.getD i 0) : ∀ n : Nat, n ≤ L.length → flN (fun i => g (f i)) n = (L.take n).flatMap g
  | 0, _ => by simp [flN]
  | n + 1, hn => by
    rw [flN, flN_LI h n (by omega), List.take_succ_eq_append_getElem (show n < L.length by omega), List.flatMap_append, h n (by omega), gDe (show n < L.length by omega)]
    simp
theorem fl_LI {f : Int → Int} {g : Int → List Int} {L : List Int} {n : Int} (h : LI f n L) : fl (fun i => g (f i)) n = L.flatMap g := by
  unfold fl
  rw [h.1, Int.toNat_natCast, flN_LI h.2 _ (Nat.le_refl _), List.take_length]
theorem flN_fm {F : Int → List Int} {g : Int → List Int} : ∀ n : Nat, (flN F n).flatMap g = flN (fun i => (F i).flatMap g) n
  | 0 => rfl
  | n + 1 => by rw [flN, flN, List.flatMap_append, flN_fm n]
theorem lif_fm {P : Prop} {a : Int} {g : Int → List Int} : (lif P [a]).flatMap g = lif P (g a) := by
  by_cases h : P
  · rw [lif_t h, lif_t h]; simp
  · rw [lif_f h, lif_f h]; rfl
/-- the pegs, rising -/
noncomputable def pgL (pk : Int → Int) : List Int := fl (fun a => lif (pk a = 1) [a]) 100
theorem fl_pg {f : Int → Int} {g : Int → List Int} {n : Int} {pk : Int → Int} (h : LI f n (pgL pk)) : fl (fun i => g (f i)) n = fl (fun a => lif (pk a = 1) (g a)) 100 := by
  rw [fl_LI h]
  unfold pgL fl
  rw [flN_fm]
  exact flN_c _ (fun i _ _ => lif_fm)
/-- pegs in a row, rising -/
def PGs (pk pl : Int → Int) (m : Int) : Prop := LI pl m (pgL pk) ∧ cB 100 m ∧ (∀ i, 0 ≤ i → i < m → isPg (pl i) ∧ pk (pl i) = 1) ∧ ∀ i j, 0 ≤ i → i < j → j < m → pl i < pl j
theorem PGs_lt {pk pl : Int → Int} {m i j : Int} (h : PGs pk pl m) (hi : 0 ≤ i ∧ i < m) (hj : 0 ≤ j ∧ j < m) : i < j ↔ pl i < pl j := by
  constructor
  · intro q; exact h.2.2.2 i j hi.1 q hj.2
  · intro q
    rcases Int.lt_trichotomy i j with c | c | c
    · exact c
    · subst c; omega
    · have := h.2.2.2 j i hj.1 c hi.2; omega
def cd3 (a b c : Int) : Int := 10000 * a + 100 * b + c
/-- all threes of pegs, rising, that fit -/
noncomputable def TL (pk : Int → Int) (Q : Int → Int → Int → Prop) : List Int :=
  fl (fun a => lif (pk a = 1) (fl (fun b => lif (pk b = 1) (lif (a < b) (fl (fun c => lif (pk c = 1) (lif (b < c ∧ Q a b c) [cd3 a b c])) 100))) 100)) 100
theorem TL_c {pk : Int → Int} {Q Q' : Int → Int → Int → Prop} (h : ∀ a b c, cB 99 a → cB 99 b → cB 99 c → pk a = 1 → pk b = 1 → pk c = 1 → a < b → b < c → (Q a b c ↔ Q' a b c)) : TL pk Q = TL pk Q' := by
  unfold TL
  refine fl_c (fun a a0 a1 => lif_c (fun ha => fl_c (fun b b0 b1 => lif_c (fun hb => lif_c (fun hab => fl_c (fun c c0 c1 => lif_c (fun hc => ?_)))))))
  by_cases q : b < c
  · exact lif_iff ⟨fun z => ⟨z.1, (h a b c (by omega) (by omega) (by omega) ha hb hc hab q).mp z.2⟩, fun z => ⟨z.1, (h a b c (by omega) (by omega) (by omega) ha hb hc hab q).mpr z.2⟩⟩ _
  · rw [lif_f (fun z => q z.1), lif_f (fun z => q z.1)]
/-- the same by places in the row -/
noncomputable def HL3 (pl : Int → Int) (Q : Int → Int → Int → Prop) (i j l : Int) : List Int := lif (j < l ∧ Q (pl i) (pl j) (pl l)) [cd3 (pl i) (pl j) (pl l)]
noncomputable def GL3 (pl : Int → Int) (Q : Int → Int → Int → Prop) (m i j : Int) : List Int := lif (i < j) (fl (HL3 pl Q i j) m)
noncomputable def FL3 (pl : Int → Int) (Q : Int → Int → Int → Prop) (m i : Int) : List Int := fl (GL3 pl Q m i) m
noncomputable def TQ3 (Q : Int → Int → Int → Prop) (a b c : Int) : List Int := lif (b < c ∧ Q a b c) [cd3 a b c]
noncomputable def TQ2 (pl : Int → Int) (m : Int) (Q : Int → Int → Int → Prop) (a b : Int) : List Int := lif (a < b) (fl (fun l => TQ3 Q a b (pl l)) m)
noncomputable def TQ1 (pl : Int → Int) (m : Int) (Q : Int → Int → Int → Prop) (a : Int) : List Int := fl (fun j => TQ2 pl m Q a (pl j)) m
theorem FL3_TL {pk pl : Int → Int} {m : Int} {Q : Int → Int → Int → Prop} (h : PGs pk pl m) : fl (FL3 pl Q m) m = TL pk Q := by
  have e1 : fl (FL3 pl Q m) m = fl (fun i => TQ1 pl m Q (pl i)) m := by
    refine fl_c (fun i i0 i1 => ?_)
    unfold FL3 TQ1
    refine fl_c (fun j j0 j1 => ?_)
    unfold GL3 TQ2
    rw [lif_iff (PGs_lt h ⟨i0, i1⟩ ⟨j0, j1⟩)]
    refine lif_c (fun _ => fl_c (fun l l0 l1 => ?_))
    unfold HL3 TQ3
    exact lif_iff ⟨fun z => ⟨(PGs_lt h ⟨j0, j1⟩ ⟨l0, l1⟩).mp z.1, z.2⟩, fun z => ⟨(PGs_lt h ⟨j0, j1⟩ ⟨l0, l1⟩).mpr z.1, z.2⟩⟩ _
  rw [e1, fl_pg (g := TQ1 pl m Q) h.1]
  unfold TL
  refine fl_c (fun a _ _ => lif_c (fun _ => ?_))
  unfold TQ1
  rw [fl_pg (g := TQ2 pl m Q a) h.1]
  refine fl_c (fun b _ _ => lif_c (fun _ => ?_))
  unfold TQ2
  refine lif_c (fun _ => ?_)
  rw [fl_pg (g := TQ3 Q a b) h.1]
  rfl
/-- a third one found -/
theorem FL3_at {pl : Int → Int} {Q : Int → Int → Int → Prop} {m i j l : Int} (hi : 0 ≤ i ∧ i < m) (hj : i < j ∧ j < m) (hl : j < l ∧ l < m) (q : Q (pl i) (pl j) (pl l)) :
    (fl (FL3 pl Q m) i ++ (fl (GL3 pl Q m i) j ++ fl (HL3 pl Q i j) l)) ++ [cd3 (pl i) (pl j) (pl l)] <+: fl (FL3 pl Q m) m := by
  refine List.IsPrefix.trans ?_ (fl_pre hi.1 hi.2)
  rw [List.append_assoc, List.append_assoc]
  refine pre_in ?_
  refine List.IsPrefix.trans ?_ (fl_pre (show 0 ≤ j by omega) hj.2)
  refine pre_in ?_
  unfold GL3
  rw [lif_t hj.1]
  refine List.IsPrefix.trans ?_ (fl_pre (show 0 ≤ l by omega) hl.2)
  refine pre_in ?_
  unfold HL3
  rw [lif_t ⟨hl.1, q⟩]
  exact List.prefix_refl _
theorem HL3_t {pl : Int → Int} {Q : Int → Int → Int → Prop} {i j l : Int} (hl : j < l) (q : Q (pl i) (pl j) (pl l)) : HL3 pl Q i j l = [cd3 (pl i) (pl j) (pl l)] := lif_t ⟨hl, q⟩
theorem HL3_f {pl : Int → Int} {Q : Int → Int → Int → Prop} {i j l : Int} (q : ¬ Q (pl i) (pl j) (pl l)) : HL3 pl Q i j l = [] := lif_f (fun z => q z.2)
theorem HL3_0 {pl : Int → Int} {Q : Int → Int → Int → Prop} {i j : Int} : fl (HL3 pl Q i j) (j + 1) = [] := fl_nil (fun l l0 l1 => lif_f (fun z => by omega))
theorem GL3_0 {pl : Int → Int} {Q : Int → Int → Int → Prop} {m i : Int} : fl (GL3 pl Q m i) (i + 1) = [] := fl_nil (fun l l0 l1 => lif_f (by omega))
theorem L3_len {pl : Int → Int} {Q : Int → Int → Int → Prop} {m i j l : Int} (hm : m ≤ 100) (hi : i ≤ 100) (hj : j ≤ 100) (hl : l ≤ 100) : (fl (FL3 pl Q m) i ++ (fl (GL3 pl Q m i) j ++ fl (HL3 pl Q i j) l)).length ≤ 1100000 := by
  have h1 : ∀ i j l, (HL3 pl Q i j l).length ≤ 1 := fun i j l => lif_len (by simp)
  have h2 : ∀ i j, (GL3 pl Q m i j).length ≤ 100 * 1 := fun i j => lif_len (fl_len (h1 i j) hm)
  have h3 : ∀ i, (FL3 pl Q m i).length ≤ 100 * (100 * 1) := fun i => fl_len (h2 i) hm
  have a := fl_len (h1 i j) hl
  have b := fl_len (h2 i) hj
  have c := fl_len h3 hi
  rw [List.length_append, List.length_append]
  omega
/-- what the class asks of a three -/
def QC (w h on wi a b c : Int) : Prop := (0 < 2 * wi + on - 2 ∧ 2 * wi + on - 2 ≤ (w - 1) * (h - 1)) ∧ (tn a b c = 2 * wi + on - 2 ∨ tn a b c = -(2 * wi + on - 2)) ∧ pts a b + pts b c + pts c a = on
theorem tn_x (a b c : Int) : (b % 10 - a % 10) * (c / 10) - (b / 10 - a / 10) * (c % 10) - ((b % 10 - a % 10) * (a / 10) - (b / 10 - a / 10) * (a % 10)) = tn a b c := by
  unfold tn crs
  rw [Int.mul_sub, Int.mul_sub]
  omega
set_option maxRecDepth 100000 in
set_option maxHeartbeats 4000000 in
theorem c_X6_takePegs {σ : jS} (hD : okD σ 28) : Jm 3 miX6_takePegs [.ref 15, .ref 28] σ (fun r τ => r = none ∧ same [15, 16] σ τ ∧ PGs (pkC σ 28) (τ 16) (τ 15 1)) := by
  refine jm_ofF (Po := (fun r τ => r = none ∧ same [15, 16] σ τ ∧ PGs (pkC σ 28) (τ 16) (τ 15 1))) (plainFor_of_name (by decide)) (Nat.le_of_ble_eq_true rfl) (lv := [(0, _), (1, _)]) rfl ?_
  refine r_aload_n (dc dkX6_takePegs 0 rfl) rfl (np 1 rfl ?_)
  refine r_iconst (dc dkX6_takePegs 1 rfl) (np 2 rfl ?_)
  refine r_pI 1 (dc dkX6_takePegs 2 rfl) fpX6_15 fd_15_1 rfl (np 5 rfl ?_)
  refine r_iconst (dc dkX6_takePegs 3 rfl) (np 6 rfl ?_)
  refine r_istore_n (lv' := [(2, _), (0, _), (1, _)]) (dc dkX6_takePegs 4 rfl) (Nat.le_of_ble_eq_true rfl) rfl (np 7 rfl ?_)
  refine r_pick [1, 2, 0] (lv' := [(0, _), (1, _), (2, _)]) rfl ?_
  refine jlp2 (P := fun (i : Int) (τ : jS) => jR _ _ _ 7 [(0, .ref 15), (1, .ref 28), (2, vI i)] [] τ) (I := fun (i : Int) (τ : jS) => (0 ≤ i ∧ i ≤ 100) ∧ same [15, 16] σ τ ∧ LI (τ 16) (τ 15 1) (fl (fun a => lif (pkC σ 28 a = 1) [a]) i) ∧ (0 ≤ τ 15 1 ∧ τ 15 1 ≤ i) ∧ (∀ j, 0 ≤ j → j < τ 15 1 → (0 ≤ τ 16 j ∧ τ 16 j < i) ∧ pkC σ 28 (τ 16 j) = 1) ∧ ∀ j l, 0 ≤ j → j < l → l < τ 15 1 → τ 16 j < τ 16 l) (fun (i : Int) (τ : jS) => (100 - i).toNat) ?_ _ _ ⟨by omega, (same.refl _ _).put (by decide), by rw [ju_at]; exact LI_0 _, by rw [ju_at]; omega, fun j j0 j1 => by rw [ju_at] at j1; omega, fun j l j0 j1 j2 => by rw [ju_at] at j2; omega⟩
  intro i τ hI7 ih7
  obtain ⟨_, S, T, B, C, D⟩ := hI7
  have e28 : τ 28 = σ 28 := S 28 (by decide)
  have hD2 : okD τ 28 := by unfold okD; rw [e28, S 29 (by decide)]; exact hD
  have eK : pkC τ 28 i = pkC σ 28 i := by unfold pkC outB; rw [e28]
  have pb := pkG_b (σ 28 0) (σ 28 1) (outB σ 28) i
  replace pb : -1 ≤ pkC σ 28 i ∧ pkC σ 28 i ≤ 1 := pb
  refine r_iload_n (dc dkX6_takePegs 5 rfl) rfl (np 8 rfl ?_)
  refine r_bipush (dc dkX6_takePegs 6 rfl) bp_100 (np 10 rfl ?_)
  refine r_icmp_ge (tgt := 57) (dc dkX6_takePegs 7 rfl) rfl (by first | assumption | decide | omega) (by first | assumption | decide | omega) (fun h10 => ?_) (fun h10 => (np 13 rfl ?_))
  · skip
    exact r_vret (dc dkX6_takePegs 31 rfl) rfl ⟨rfl, S, by rw [show i = 100 by omega] at T C; exact ⟨T, by omega, fun j j0 j1 => ⟨⟨(C j j0 j1).1.1, by have := (C j j0 j1).1.2; omega⟩, (C j j0 j1).2⟩, D⟩⟩
  refine r_aload_n (dc dkX6_takePegs 8 rfl) rfl (np 14 rfl ?_)
  refine r_iload_n (dc dkX6_takePegs 9 rfl) rfl (np 15 rfl ?_)
  refine r_pV1 (y' := miX1_pegAt) (dc dkX6_takePegs 10 rfl) mlX6_44 ceX1_pegAt ob_28 (Nat.le_of_ble_eq_true rfl) (Nat.le_of_ble_eq_true rfl) (c_X1_pegAt isBoard_at28 hD2 (by omega)) (np 18 rfl ?_)
  refine r_eqI _ eK ?_
  refine r_iconst (dc dkX6_takePegs 11 rfl) (np 19 rfl ?_)
  refine r_icmp_ne (tgt := 51) (dc dkX6_takePegs 12 rfl) rfl (by first | assumption | decide | omega) (by first | assumption | decide | omega) (fun h19 => ?_) (fun h19 => (np 22 rfl ?_))
  · skip
    refine r_iinc (lv' := [(2, _), (0, _), (1, _)]) (dc dkX6_takePegs 29 rfl) (Nat.le_of_ble_eq_true rfl) rfl rfl (np 54 rfl ?_)
    refine r_goto (tgt := 7) (dc dkX6_takePegs 30 rfl) rfl ?_
    refine r_pick [1, 2, 0] rfl ?_
    exact ih7 _ _ (by
          first
          | (refine ⟨by omega, S, ?_, by omega, fun j j0 j1 => ⟨⟨(C j j0 j1).1.1, by have := (C j j0 j1).1.2; omega⟩, (C j j0 j1).2⟩, D⟩
             rw [fl_s _ (by omega), lif_f (by omega), List.append_nil]; exact T)
          | (have eT : ju (ju τ 16 (τ 15 1) i) 15 1 (ju τ 16 (τ 15 1) i 15 1 + 1) 15 1 = τ 15 1 + 1 := by rw [ju_at, ju_off _ _ _ _ _ (by decide)]
             refine ⟨by omega, (S.put (by decide)).put (by decide), ?_, ?_, fun j j0 j1 => ?_, fun j l j0 j1 j2 => ?_⟩
             · rw [eT, fl_s _ (by omega), lif_t (by omega), ju_off _ _ _ _ _ (by decide)]
               exact LI_1 T (ju_at _ _ _ _) (fun j hj => ju_ne (by omega))
             · rw [eT]; omega
             · rw [eT] at j1
               rw [ju_off _ _ _ _ _ (by decide)]
               by_cases q : j = τ 15 1
               · rw [q, ju_at]; exact ⟨by omega, by omega⟩
               · rw [ju_ne (by omega)]
                 have := C j j0 (by omega)
                 exact ⟨by omega, this.2⟩
             · rw [eT] at j2
               rw [ju_off _ _ _ _ _ (by decide)]
               by_cases q : l = τ 15 1
               · rw [q, ju_at, ju_ne (by omega)]
                 have := C j j0 (by omega); omega
               · rw [ju_ne (by omega), ju_ne (by omega)]
                 exact D j l j0 j1 (by omega))) (by omega)
  refine r_aload_n (dc dkX6_takePegs 13 rfl) rfl (np 23 rfl ?_)
  refine r_gI 1 (dc dkX6_takePegs 14 rfl) flX6_15 fd_15_1 rfl (np 26 rfl ?_)
  refine r_bipush (dc dkX6_takePegs 15 rfl) bp_100 (np 28 rfl ?_)
  refine r_icmp_ge (tgt := 51) (dc dkX6_takePegs 16 rfl) rfl (by first | assumption | decide | omega) (by first | assumption | decide | omega) (fun h28 => ?_) (fun h28 => (np 31 rfl ?_))
  · skip
    refine r_iinc (lv' := [(2, _), (0, _), (1, _)]) (dc dkX6_takePegs 29 rfl) (Nat.le_of_ble_eq_true rfl) rfl rfl (np 54 rfl ?_)
    refine r_goto (tgt := 7) (dc dkX6_takePegs 30 rfl) rfl ?_
    refine r_pick [1, 2, 0] rfl ?_
    exact ih7 _ _ (by
          first
          | (refine ⟨by omega, S, ?_, by omega, fun j j0 j1 => ⟨⟨(C j j0 j1).1.1, by have := (C j j0 j1).1.2; omega⟩, (C j j0 j1).2⟩, D⟩
             rw [fl_s _ (by omega), lif_f (by omega), List.append_nil]; exact T)
          | (have eT : ju (ju τ 16 (τ 15 1) i) 15 1 (ju τ 16 (τ 15 1) i 15 1 + 1) 15 1 = τ 15 1 + 1 := by rw [ju_at, ju_off _ _ _ _ _ (by decide)]
             refine ⟨by omega, (S.put (by decide)).put (by decide), ?_, ?_, fun j j0 j1 => ?_, fun j l j0 j1 j2 => ?_⟩
             · rw [eT, fl_s _ (by omega), lif_t (by omega), ju_off _ _ _ _ _ (by decide)]
               exact LI_1 T (ju_at _ _ _ _) (fun j hj => ju_ne (by omega))
             · rw [eT]; omega
             · rw [eT] at j1
               rw [ju_off _ _ _ _ _ (by decide)]
               by_cases q : j = τ 15 1
               · rw [q, ju_at]; exact ⟨by omega, by omega⟩
               · rw [ju_ne (by omega)]
                 have := C j j0 (by omega)
                 exact ⟨by omega, this.2⟩
             · rw [eT] at j2
               rw [ju_off _ _ _ _ _ (by decide)]
               by_cases q : l = τ 15 1
               · rw [q, ju_at, ju_ne (by omega)]
                 have := C j j0 (by omega); omega
               · rw [ju_ne (by omega), ju_ne (by omega)]
                 exact D j l j0 j1 (by omega))) (by omega)
  refine r_aload_n (dc dkX6_takePegs 17 rfl) rfl (np 32 rfl ?_)
  refine r_getR (dc dkX6_takePegs 18 rfl) flX6_9 fd_15_0 (np 35 rfl ?_)
  refine r_aload_n (dc dkX6_takePegs 19 rfl) rfl (np 36 rfl ?_)
  refine r_gI 1 (dc dkX6_takePegs 20 rfl) flX6_15 fd_15_1 rfl (np 39 rfl ?_)
  refine r_iload_n (dc dkX6_takePegs 21 rfl) rfl (np 40 rfl ?_)
  refine r_iast (dc dkX6_takePegs 22 rfl) ar_16 (by omega) (np 41 rfl ?_)
  refine r_aload_n (dc dkX6_takePegs 23 rfl) rfl (np 42 rfl ?_)
  refine r_dup (dc dkX6_takePegs 24 rfl) rfl (np 43 rfl ?_)
  refine r_gI 1 (dc dkX6_takePegs 25 rfl) flX6_15 fd_15_1 rfl (np 46 rfl ?_)
  refine r_iconst (dc dkX6_takePegs 26 rfl) (np 47 rfl ?_)
  refine r_iadd (dc dkX6_takePegs 27 rfl) (np 48 rfl ?_)
  refine r_pI 1 (dc dkX6_takePegs 28 rfl) fpX6_15 fd_15_1 rfl (np 51 rfl ?_)
  refine r_iinc (lv' := [(2, _), (0, _), (1, _)]) (dc dkX6_takePegs 29 rfl) (Nat.le_of_ble_eq_true rfl) rfl rfl (np 54 rfl ?_)
  refine r_goto (tgt := 7) (dc dkX6_takePegs 30 rfl) rfl ?_
  refine r_pick [1, 2, 0] rfl ?_
  exact ih7 _ _ (by
        first
        | (refine ⟨by omega, S, ?_, by omega, fun j j0 j1 => ⟨⟨(C j j0 j1).1.1, by have := (C j j0 j1).1.2; omega⟩, (C j j0 j1).2⟩, D⟩
           rw [fl_s _ (by omega), lif_f (by omega), List.append_nil]; exact T)
        | (have eT : ju (ju τ 16 (τ 15 1) i) 15 1 (ju τ 16 (τ 15 1) i 15 1 + 1) 15 1 = τ 15 1 + 1 := by rw [ju_at, ju_off _ _ _ _ _ (by decide)]
           refine ⟨by omega, (S.put (by decide)).put (by decide), ?_, ?_, fun j j0 j1 => ?_, fun j l j0 j1 j2 => ?_⟩
           · rw [eT, fl_s _ (by omega), lif_t (by omega), ju_off _ _ _ _ _ (by decide)]
             exact LI_1 T (ju_at _ _ _ _) (fun j hj => ju_ne (by omega))
           · rw [eT]; omega
           · rw [eT] at j1
             rw [ju_off _ _ _ _ _ (by decide)]
             by_cases q : j = τ 15 1
             · rw [q, ju_at]; exact ⟨by omega, by omega⟩
             · rw [ju_ne (by omega)]
               have := C j j0 (by omega)
               exact ⟨by omega, this.2⟩
           · rw [eT] at j2
             rw [ju_off _ _ _ _ _ (by decide)]
             by_cases q : l = τ 15 1
             · rw [q, ju_at, ju_ne (by omega)]
               have := C j j0 (by omega); omega
             · rw [ju_ne (by omega), ju_ne (by omega)]
               exact D j l j0 j1 (by omega))) (by omega)
set_option maxRecDepth 100000 in
set_option maxHeartbeats 4000000 in
theorem c_X6_findTriangle {σ : jS} (hD : okD σ 28) {on wi k : Int} (hon : cB 999 on) (hwi : cB 999 wi) (hk : iR k) : Jm 4 miX6_findTriangle [.ref 15, .ref 28, vI on, vI wi, vI k] σ (fun r τ => r = some (vI (nthL (TL (pkC σ 28) (QC (σ 28 0) (σ 28 1) on wi)) k)) ∧ same [15, 16] σ τ) := by
  refine jm_ofF (Po := (fun r τ => r = some (vI (nthL (TL (pkC σ 28) (QC (σ 28 0) (σ 28 1) on wi)) k)) ∧ same [15, 16] σ τ)) (plainFor_of_name (by decide)) (Nat.le_of_ble_eq_true rfl) (lv := [(0, _), (1, _), (2, _), (3, _), (4, _)]) rfl ?_
  refine r_aload_n (dc dkX6_findTriangle 0 rfl) rfl (np 1 rfl ?_)
  refine r_aload_n (dc dkX6_findTriangle 1 rfl) rfl (np 2 rfl ?_)
  refine r_cV1 (y' := miX6_takePegs) (dc dkX6_findTriangle 2 rfl) mlX6_19 ceX6_takePegs ob_15 (Nat.le_of_ble_eq_true rfl) (Nat.le_of_ble_eq_true rfl) (c_X6_takePegs hD) (fun r τ hp => (np 5 rfl ?_))
  obtain ⟨rfl, S, G⟩ := hp
  have e28 : τ 28 = σ 28 := S 28 (by decide)
  have w0 := hD.1
  have w1 := hD.2.1
  have mb := G.2.1
  have eTL := FL3_TL (Q := QC (σ 28 0) (σ 28 1) on wi) G
  have rm := mulb (a := σ 28 0 - 1) (b := σ 28 1 - 1) (A := 9) (B := 9) (by omega) (by omega) (by omega) (by omega)
  refine r_iload_n (dc dkX6_findTriangle 3 rfl) rfl (np 6 rfl ?_)
  refine r_iload_n (dc dkX6_findTriangle 4 rfl) rfl (np 7 rfl ?_)
  refine r_pS2 (y' := miX6_areaWith) (dc dkX6_findTriangle 5 rfl) mlX6_23 seX6_areaWith (Nat.le_of_ble_eq_true rfl) (Nat.le_of_ble_eq_true rfl) (c_X6_areaWith ) (np 10 rfl ?_)
  refine r_istore (lv' := [(5, _), (0, _), (1, _), (2, _), (3, _), (4, _)]) (dc dkX6_findTriangle 6 rfl) (Nat.le_of_ble_eq_true rfl) rfl (np 12 rfl ?_)
  have jj40 : ∀ g : Int, ((g = 1 ∧ (0 < (2 * wi + on - 2) ∧ (2 * wi + on - 2) ≤ (σ 28 0 - 1) * (σ 28 1 - 1))) ∨ (g = 0 ∧ ¬ (0 < (2 * wi + on - 2) ∧ (2 * wi + on - 2) ≤ (σ 28 0 - 1) * (σ 28 1 - 1)))) → jR 4 miX6_findTriangle (fun r τ => r = some (vI (nthL (TL (pkC σ 28) (QC (σ 28 0) (σ 28 1) on wi)) k)) ∧ same [15, 16] σ τ) 40 [(0, .ref 15), (1, .ref 28), (2, vI on), (3, vI wi), (4, vI k), (5, vI (2 * wi + on - 2))] [vI g] τ := by
    intro g hg
    refine r_istore (lv' := [(6, _), (0, _), (1, _), (2, _), (3, _), (4, _), (5, _)]) (dc dkX6_findTriangle 23 rfl) (Nat.le_of_ble_eq_true rfl) rfl (np 42 rfl ?_)
    refine r_iconst (dc dkX6_findTriangle 24 rfl) (np 43 rfl ?_)
    refine r_istore (lv' := [(7, _), (6, _), (0, _), (1, _), (2, _), (3, _), (4, _), (5, _)]) (dc dkX6_findTriangle 25 rfl) (Nat.le_of_ble_eq_true rfl) rfl (np 45 rfl ?_)
    have jj258 : ∀ n : Int, (n = (fl (FL3 (τ 16) (QC (σ 28 0) (σ 28 1) on wi) (τ 15 1)) (τ 15 1)).length ∧ ¬ (0 ≤ k ∧ k < n)) → jR 4 miX6_findTriangle (fun r τ => r = some (vI (nthL (TL (pkC σ 28) (QC (σ 28 0) (σ 28 1) on wi)) k)) ∧ same [15, 16] σ τ) 258 [(0, .ref 15), (1, .ref 28), (2, vI on), (3, vI wi), (4, vI k), (5, vI (2 * wi + on - 2)), (7, vI n)] [] τ := by
      intro n hn
      refine r_iload (dc dkX6_findTriangle 140 rfl) rfl (np 260 rfl ?_)
      refine r_iconst (dc dkX6_findTriangle 141 rfl) (np 261 rfl ?_)
      refine r_icmp_ne (tgt := 269) (dc dkX6_findTriangle 142 rfl) rfl (by first | assumption | decide | omega) (by first | assumption | decide | omega) (fun h261 => ?_) (fun h261 => (np 264 rfl ?_))
      · skip
        refine r_iconst (dc dkX6_findTriangle 145 rfl) (np 270 rfl ?_)
        exact r_iret (dc dkX6_findTriangle 146 rfl) rfl ⟨congrArg (fun z => some (vI z)) (by rw [← eTL, nthL_end hn.1 hn.2]; first | (rw [if_pos (by omega)]; done) | (rw [if_neg (by omega)]; done)), S⟩
      refine r_iload (dc dkX6_findTriangle 143 rfl) rfl (np 266 rfl ?_)
      refine r_goto (tgt := 270) (dc dkX6_findTriangle 144 rfl) rfl ?_
      exact r_iret (dc dkX6_findTriangle 146 rfl) rfl ⟨congrArg (fun z => some (vI z)) (by rw [← eTL, nthL_end hn.1 hn.2]; first | (rw [if_pos (by omega)]; done) | (rw [if_neg (by omega)]; done)), S⟩
    refine r_iconst (dc dkX6_findTriangle 26 rfl) (np 46 rfl ?_)
    refine r_istore (lv' := [(8, _), (7, _), (6, _), (0, _), (1, _), (2, _), (3, _), (4, _), (5, _)]) (dc dkX6_findTriangle 27 rfl) (Nat.le_of_ble_eq_true rfl) rfl (np 48 rfl ?_)
    refine r_pick [3, 4, 5, 6, 7, 8, 2, 1, 0] (lv' := [(0, _), (1, _), (2, _), (3, _), (4, _), (5, _), (6, _), (7, _), (8, _)]) rfl ?_
    refine jlp2 (P := fun (n : Int) (i : Int) => jR _ _ _ 48 [(0, .ref 15), (1, .ref 28), (2, _), (3, _), (4, _), (5, vI (2 * wi + on - 2)), (6, vI g), (7, vI n), (8, vI i)] [] τ) (I := fun (n : Int) (i : Int) => (0 ≤ i ∧ i ≤ τ 15 1) ∧ n = (fl (FL3 (τ 16) (QC (σ 28 0) (σ 28 1) on wi) (τ 15 1)) i).length ∧ ¬ (0 ≤ k ∧ k < n)) (fun (n : Int) (i : Int) => (τ 15 1 - i).toNat) ?_ _ _ ⟨by omega, rfl, by omega⟩
    intro n i hI48 ih48
    refine r_iload (dc dkX6_findTriangle 28 rfl) rfl (np 50 rfl ?_)
    refine r_aload_n (dc dkX6_findTriangle 29 rfl) rfl (np 51 rfl ?_)
    refine r_gI 1 (dc dkX6_findTriangle 30 rfl) flX6_15 fd_15_1 rfl (np 54 rfl ?_)
    refine r_icmp_ge (tgt := 258) (dc dkX6_findTriangle 31 rfl) rfl (by first | assumption | decide | omega) (by first | assumption | decide | omega) (fun h54 => ?_) (fun h54 => (np 57 rfl ?_))
    · skip
      refine r_pick [0, 1, 2, 3, 4, 5, 7] rfl ?_
      exact jj258 _ (by
            have nil : ¬ (0 < 2 * wi + on - 2 ∧ 2 * wi + on - 2 ≤ (σ 28 0 - 1) * (σ 28 1 - 1)) → ∀ x, fl (FL3 (τ 16) (QC (σ 28 0) (σ 28 1) on wi) (τ 15 1)) x = [] := fun hz x => fl_nil (fun x _ _ => fl_nil (fun y _ _ => by
              unfold GL3
              rw [fl_nil (fun z _ _ => HL3_f (fun q => hz q.1))]
              by_cases c : x < y
              · exact lif_t c
              · exact lif_f c))
            refine ⟨?_, hI48.2.2⟩
            have h2 := hI48.2.1
            rcases (show τ 15 1 = i ∨ g = 0 by omega) with hx | hx
            · rw [← hx] at h2; exact h2
            · rw [nil (by omega)] at h2 ⊢; exact h2)
    refine r_iload (dc dkX6_findTriangle 32 rfl) rfl (np 59 rfl ?_)
    refine r_if_eq (tgt := 258) (dc dkX6_findTriangle 33 rfl) rfl (by first | assumption | decide | omega) (fun h59 => ?_) (fun h59 => (np 62 rfl ?_))
    · skip
      refine r_pick [0, 1, 2, 3, 4, 5, 7] rfl ?_
      exact jj258 _ (by
            have nil : ¬ (0 < 2 * wi + on - 2 ∧ 2 * wi + on - 2 ≤ (σ 28 0 - 1) * (σ 28 1 - 1)) → ∀ x, fl (FL3 (τ 16) (QC (σ 28 0) (σ 28 1) on wi) (τ 15 1)) x = [] := fun hz x => fl_nil (fun x _ _ => fl_nil (fun y _ _ => by
              unfold GL3
              rw [fl_nil (fun z _ _ => HL3_f (fun q => hz q.1))]
              by_cases c : x < y
              · exact lif_t c
              · exact lif_f c))
            refine ⟨?_, hI48.2.2⟩
            have h2 := hI48.2.1
            rcases (show τ 15 1 = i ∨ g = 0 by omega) with hx | hx
            · rw [← hx] at h2; exact h2
            · rw [nil (by omega)] at h2 ⊢; exact h2)
    refine r_iload (dc dkX6_findTriangle 34 rfl) rfl (np 64 rfl ?_)
    refine r_iconst (dc dkX6_findTriangle 35 rfl) (np 65 rfl ?_)
    refine r_iadd (dc dkX6_findTriangle 36 rfl) (np 66 rfl ?_)
    refine r_istore (lv' := [(9, _), (0, _), (1, _), (2, _), (3, _), (4, _), (5, _), (6, _), (7, _), (8, _)]) (dc dkX6_findTriangle 37 rfl) (Nat.le_of_ble_eq_true rfl) rfl (np 68 rfl ?_)
    refine r_pick [1, 2, 3, 4, 5, 6, 7, 8, 9, 0] (lv' := [(0, _), (1, _), (2, _), (3, _), (4, _), (5, _), (6, _), (7, _), (8, _), (9, _)]) rfl ?_
    refine jlp2 (P := fun (n : Int) (j : Int) => jR _ _ _ 68 [(0, .ref 15), (1, .ref 28), (2, _), (3, _), (4, _), (5, vI (2 * wi + on - 2)), (6, vI g), (7, vI n), (8, vI i), (9, vI j)] [] τ) (I := fun (n : Int) (j : Int) => (i + 1 ≤ j ∧ j ≤ τ 15 1) ∧ n = (fl (FL3 (τ 16) (QC (σ 28 0) (σ 28 1) on wi) (τ 15 1)) i ++ fl (GL3 (τ 16) (QC (σ 28 0) (σ 28 1) on wi) (τ 15 1) i) j).length ∧ ¬ (0 ≤ k ∧ k < n)) (fun (n : Int) (j : Int) => (τ 15 1 - j).toNat) ?_ _ _ ⟨by omega, by rw [GL3_0, List.append_nil]; exact hI48.2.1, hI48.2.2⟩
    intro n j hI68 ih68
    refine r_iload (dc dkX6_findTriangle 38 rfl) rfl (np 70 rfl ?_)
    refine r_aload_n (dc dkX6_findTriangle 39 rfl) rfl (np 71 rfl ?_)
    refine r_gI 1 (dc dkX6_findTriangle 40 rfl) flX6_15 fd_15_1 rfl (np 74 rfl ?_)
    refine r_icmp_ge (tgt := 252) (dc dkX6_findTriangle 41 rfl) rfl (by first | assumption | decide | omega) (by first | assumption | decide | omega) (fun h74 => ?_) (fun h74 => (np 77 rfl ?_))
    · skip
      refine r_iinc (lv' := [(8, _), (0, _), (1, _), (2, _), (3, _), (4, _), (5, _), (6, _), (7, _), (9, _)]) (dc dkX6_findTriangle 138 rfl) (Nat.le_of_ble_eq_true rfl) rfl rfl (np 255 rfl ?_)
      refine r_goto (tgt := 48) (dc dkX6_findTriangle 139 rfl) rfl ?_
      refine r_pick [1, 2, 3, 4, 5, 6, 7, 8, 0] rfl ?_
      exact ih48 _ _ ⟨by omega, by rw [fl_s _ (by omega)]; rw [show j = τ 15 1 by omega] at hI68; exact hI68.2.1, hI68.2.2⟩ (by omega)
    have pi := (G.2.2.1 i (by omega) (by omega)).1
    have pj := (G.2.2.1 j (by omega) (by omega)).1
    refine r_aload_n (dc dkX6_findTriangle 42 rfl) rfl (np 78 rfl ?_)
    refine r_getR (dc dkX6_findTriangle 43 rfl) flX6_9 fd_15_0 (np 81 rfl ?_)
    refine r_iload (dc dkX6_findTriangle 44 rfl) rfl (np 83 rfl ?_)
    refine r_iald (dc dkX6_findTriangle 45 rfl) ar_16 (by omega) (np 84 rfl ?_)
    refine r_istore (lv' := [(10, _), (0, _), (1, _), (2, _), (3, _), (4, _), (5, _), (6, _), (7, _), (8, _), (9, _)]) (dc dkX6_findTriangle 46 rfl) (Nat.le_of_ble_eq_true rfl) rfl (np 86 rfl ?_)
    refine r_aload_n (dc dkX6_findTriangle 47 rfl) rfl (np 87 rfl ?_)
    refine r_getR (dc dkX6_findTriangle 48 rfl) flX6_9 fd_15_0 (np 90 rfl ?_)
    refine r_iload (dc dkX6_findTriangle 49 rfl) rfl (np 92 rfl ?_)
    refine r_iald (dc dkX6_findTriangle 50 rfl) ar_16 (by omega) (np 93 rfl ?_)
    refine r_istore (lv' := [(11, _), (10, _), (0, _), (1, _), (2, _), (3, _), (4, _), (5, _), (6, _), (7, _), (8, _), (9, _)]) (dc dkX6_findTriangle 51 rfl) (Nat.le_of_ble_eq_true rfl) rfl (np 95 rfl ?_)
    refine r_iload (dc dkX6_findTriangle 52 rfl) rfl (np 97 rfl ?_)
    refine r_bipush (dc dkX6_findTriangle 53 rfl) bp_10 (np 99 rfl ?_)
    refine r_iremn (dc dkX6_findTriangle 54 rfl) (by first | assumption | decide | omega) (by first | assumption | decide | omega) (np 100 rfl ?_)
    refine r_iload (dc dkX6_findTriangle 55 rfl) rfl (np 102 rfl ?_)
    refine r_bipush (dc dkX6_findTriangle 56 rfl) bp_10 (np 104 rfl ?_)
    refine r_iremn (dc dkX6_findTriangle 57 rfl) (by first | assumption | decide | omega) (by first | assumption | decide | omega) (np 105 rfl ?_)
    refine r_isub (dc dkX6_findTriangle 58 rfl) (np 106 rfl ?_)
    refine r_istore (lv' := [(12, _), (11, _), (10, _), (0, _), (1, _), (2, _), (3, _), (4, _), (5, _), (6, _), (7, _), (8, _), (9, _)]) (dc dkX6_findTriangle 59 rfl) (Nat.le_of_ble_eq_true rfl) rfl (np 108 rfl ?_)
    refine r_iload (dc dkX6_findTriangle 60 rfl) rfl (np 110 rfl ?_)
    refine r_bipush (dc dkX6_findTriangle 61 rfl) bp_10 (np 112 rfl ?_)
    refine r_idivn (dc dkX6_findTriangle 62 rfl) (by first | assumption | decide | omega) (by first | assumption | decide | omega) (np 113 rfl ?_)
    refine r_iload (dc dkX6_findTriangle 63 rfl) rfl (np 115 rfl ?_)
    refine r_bipush (dc dkX6_findTriangle 64 rfl) bp_10 (np 117 rfl ?_)
    refine r_idivn (dc dkX6_findTriangle 65 rfl) (by first | assumption | decide | omega) (by first | assumption | decide | omega) (np 118 rfl ?_)
    refine r_isub (dc dkX6_findTriangle 66 rfl) (np 119 rfl ?_)
    refine r_istore (lv' := [(13, _), (12, _), (11, _), (10, _), (0, _), (1, _), (2, _), (3, _), (4, _), (5, _), (6, _), (7, _), (8, _), (9, _)]) (dc dkX6_findTriangle 67 rfl) (Nat.le_of_ble_eq_true rfl) rfl (np 121 rfl ?_)
    refine r_iload (dc dkX6_findTriangle 68 rfl) rfl (np 123 rfl ?_)
    refine r_iload (dc dkX6_findTriangle 69 rfl) rfl (np 125 rfl ?_)
    refine r_bipush (dc dkX6_findTriangle 70 rfl) bp_10 (np 127 rfl ?_)
    refine r_idivn (dc dkX6_findTriangle 71 rfl) (by first | assumption | decide | omega) (by first | assumption | decide | omega) (np 128 rfl ?_)
    refine r_imul (dc dkX6_findTriangle 72 rfl) (np 129 rfl ?_)
    refine r_iload (dc dkX6_findTriangle 73 rfl) rfl (np 131 rfl ?_)
    refine r_iload (dc dkX6_findTriangle 74 rfl) rfl (np 133 rfl ?_)
    refine r_bipush (dc dkX6_findTriangle 75 rfl) bp_10 (np 135 rfl ?_)
    refine r_iremn (dc dkX6_findTriangle 76 rfl) (by first | assumption | decide | omega) (by first | assumption | decide | omega) (np 136 rfl ?_)
    refine r_imul (dc dkX6_findTriangle 77 rfl) (np 137 rfl ?_)
    refine r_isub (dc dkX6_findTriangle 78 rfl) (np 138 rfl ?_)
    refine r_istore (lv' := [(14, _), (13, _), (12, _), (11, _), (10, _), (0, _), (1, _), (2, _), (3, _), (4, _), (5, _), (6, _), (7, _), (8, _), (9, _)]) (dc dkX6_findTriangle 79 rfl) (Nat.le_of_ble_eq_true rfl) rfl (np 140 rfl ?_)
    refine r_iload (dc dkX6_findTriangle 80 rfl) rfl (np 142 rfl ?_)
    refine r_iconst (dc dkX6_findTriangle 81 rfl) (np 143 rfl ?_)
    refine r_iadd (dc dkX6_findTriangle 82 rfl) (np 144 rfl ?_)
    refine r_istore (lv' := [(15, _), (14, _), (13, _), (12, _), (11, _), (10, _), (0, _), (1, _), (2, _), (3, _), (4, _), (5, _), (6, _), (7, _), (8, _), (9, _)]) (dc dkX6_findTriangle 83 rfl) (Nat.le_of_ble_eq_true rfl) rfl (np 146 rfl ?_)
    refine r_pick [6, 7, 8, 9, 10, 11, 12, 13, 14, 15, 5, 4, 3, 2, 1, 0] (lv' := [(0, _), (1, _), (2, _), (3, _), (4, _), (5, _), (6, _), (7, _), (8, _), (9, _), (10, _), (11, _), (12, _), (13, _), (14, _), (15, _)]) rfl ?_
    refine jlp2 (P := fun (n : Int) (l : Int) => jR _ _ _ 146 [(0, .ref 15), (1, .ref 28), (2, _), (3, _), (4, _), (5, vI (2 * wi + on - 2)), (6, vI g), (7, vI n), (8, vI i), (9, vI j), (10, vI (τ 16 i)), (11, vI (τ 16 j)), (12, vI (τ 16 j % 10 - τ 16 i % 10)), (13, vI (τ 16 j / 10 - τ 16 i / 10)), (14, vI ((τ 16 j % 10 - τ 16 i % 10) * (τ 16 i / 10) - (τ 16 j / 10 - τ 16 i / 10) * (τ 16 i % 10))), (15, vI l)] [] τ) (I := fun (n : Int) (l : Int) => (j + 1 ≤ l ∧ l ≤ τ 15 1) ∧ n = (fl (FL3 (τ 16) (QC (σ 28 0) (σ 28 1) on wi) (τ 15 1)) i ++ (fl (GL3 (τ 16) (QC (σ 28 0) (σ 28 1) on wi) (τ 15 1) i) j ++ fl (HL3 (τ 16) (QC (σ 28 0) (σ 28 1) on wi) i j) l)).length ∧ ¬ (0 ≤ k ∧ k < n)) (fun (n : Int) (l : Int) => (τ 15 1 - l).toNat) ?_ _ _ ⟨by omega, by rw [HL3_0, List.append_nil]; exact hI68.2.1, hI68.2.2⟩
    intro n l hI146 ih146
    refine r_iload (dc dkX6_findTriangle 84 rfl) rfl (np 148 rfl ?_)
    refine r_aload_n (dc dkX6_findTriangle 85 rfl) rfl (np 149 rfl ?_)
    refine r_gI 1 (dc dkX6_findTriangle 86 rfl) flX6_15 fd_15_1 rfl (np 152 rfl ?_)
    refine r_icmp_ge (tgt := 246) (dc dkX6_findTriangle 87 rfl) rfl (by first | assumption | decide | omega) (by first | assumption | decide | omega) (fun h152 => ?_) (fun h152 => (np 155 rfl ?_))
    · skip
      refine r_iinc (lv' := [(9, _), (0, _), (1, _), (2, _), (3, _), (4, _), (5, _), (6, _), (7, _), (8, _), (10, _), (11, _), (12, _), (13, _), (14, _), (15, _)]) (dc dkX6_findTriangle 136 rfl) (Nat.le_of_ble_eq_true rfl) rfl rfl (np 249 rfl ?_)
      refine r_goto (tgt := 68) (dc dkX6_findTriangle 137 rfl) rfl ?_
      refine r_pick [1, 2, 3, 4, 5, 6, 7, 8, 9, 0] rfl ?_
      exact ih68 _ _ ⟨by omega, by rw [fl_s _ (by omega)]; rw [show l = τ 15 1 by omega] at hI146; rw [show GL3 (τ 16) (QC (σ 28 0) (σ 28 1) on wi) (τ 15 1) i j = fl (HL3 (τ 16) (QC (σ 28 0) (σ 28 1) on wi) i j) (τ 15 1) from lif_t (by omega)]; exact hI146.2.1, hI146.2.2⟩ (by omega)
    have pl := (G.2.2.1 l (by omega) (by omega)).1
    have tb := tn_b pi pj pl
    refine r_aload_n (dc dkX6_findTriangle 88 rfl) rfl (np 156 rfl ?_)
    refine r_getR (dc dkX6_findTriangle 89 rfl) flX6_9 fd_15_0 (np 159 rfl ?_)
    refine r_iload (dc dkX6_findTriangle 90 rfl) rfl (np 161 rfl ?_)
    refine r_iald (dc dkX6_findTriangle 91 rfl) ar_16 (by omega) (np 162 rfl ?_)
    refine r_istore (lv' := [(16, _), (0, _), (1, _), (2, _), (3, _), (4, _), (5, _), (6, _), (7, _), (8, _), (9, _), (10, _), (11, _), (12, _), (13, _), (14, _), (15, _)]) (dc dkX6_findTriangle 92 rfl) (Nat.le_of_ble_eq_true rfl) rfl (np 164 rfl ?_)
    refine r_iload (dc dkX6_findTriangle 93 rfl) rfl (np 166 rfl ?_)
    refine r_iload (dc dkX6_findTriangle 94 rfl) rfl (np 168 rfl ?_)
    refine r_bipush (dc dkX6_findTriangle 95 rfl) bp_10 (np 170 rfl ?_)
    refine r_idivn (dc dkX6_findTriangle 96 rfl) (by first | assumption | decide | omega) (by first | assumption | decide | omega) (np 171 rfl ?_)
    refine r_imul (dc dkX6_findTriangle 97 rfl) (np 172 rfl ?_)
    refine r_iload (dc dkX6_findTriangle 98 rfl) rfl (np 174 rfl ?_)
    refine r_iload (dc dkX6_findTriangle 99 rfl) rfl (np 176 rfl ?_)
    refine r_bipush (dc dkX6_findTriangle 100 rfl) bp_10 (np 178 rfl ?_)
    refine r_iremn (dc dkX6_findTriangle 101 rfl) (by first | assumption | decide | omega) (by first | assumption | decide | omega) (np 179 rfl ?_)
    refine r_imul (dc dkX6_findTriangle 102 rfl) (np 180 rfl ?_)
    refine r_isub (dc dkX6_findTriangle 103 rfl) (np 181 rfl ?_)
    refine r_iload (dc dkX6_findTriangle 104 rfl) rfl (np 183 rfl ?_)
    refine r_isub (dc dkX6_findTriangle 105 rfl) (np 184 rfl ?_)
    refine r_eqI (tn (τ 16 i) (τ 16 j) (τ 16 l)) (tn_x _ _ _) ?_
    refine r_istore (lv' := [(17, _), (16, _), (0, _), (1, _), (2, _), (3, _), (4, _), (5, _), (6, _), (7, _), (8, _), (9, _), (10, _), (11, _), (12, _), (13, _), (14, _), (15, _)]) (dc dkX6_findTriangle 106 rfl) (Nat.le_of_ble_eq_true rfl) rfl (np 186 rfl ?_)
    refine r_iload (dc dkX6_findTriangle 107 rfl) rfl (np 188 rfl ?_)
    refine r_iload (dc dkX6_findTriangle 108 rfl) rfl (np 190 rfl ?_)
    refine r_icmp_eq (tgt := 201) (dc dkX6_findTriangle 109 rfl) rfl (by first | assumption | decide | omega) (by first | assumption | decide | omega) (fun h190 => ?_) (fun h190 => (np 193 rfl ?_))
    · skip
      have nb2 := L3_len (pl := τ 16) (Q := QC (σ 28 0) (σ 28 1) on wi) (m := τ 15 1) (i := i) (j := j) (l := l) (by omega) (by omega) (by omega) (by omega)
      rw [← Int.ofNat_le, ← hI146.2.1] at nb2
      have eb := pts_b pi pj
      have eb2 := pts_b pj pl
      have eb3 := pts_b pl pi
      refine r_iload (dc dkX6_findTriangle 114 rfl) rfl (np 203 rfl ?_)
      refine r_iload (dc dkX6_findTriangle 115 rfl) rfl (np 205 rfl ?_)
      refine r_iload (dc dkX6_findTriangle 116 rfl) rfl (np 207 rfl ?_)
      refine r_pS3 (y' := miX6_placesOn) (dc dkX6_findTriangle 117 rfl) mlX6_35 seX6_placesOn (Nat.le_of_ble_eq_true rfl) (Nat.le_of_ble_eq_true rfl) (c_X6_placesOn pi pj pl) (np 210 rfl ?_)
      refine r_iload_n (dc dkX6_findTriangle 118 rfl) rfl (np 211 rfl ?_)
      refine r_icmp_ne (tgt := 240) (dc dkX6_findTriangle 119 rfl) rfl (by first | assumption | decide | omega) (by first | assumption | decide | omega) (fun h211 => ?_) (fun h211 => (np 214 rfl ?_))
      · skip
        refine r_iinc (lv' := [(15, _), (17, _), (16, _), (0, _), (1, _), (2, _), (3, _), (4, _), (5, _), (6, _), (7, _), (8, _), (9, _), (10, _), (11, _), (12, _), (13, _), (14, _)]) (dc dkX6_findTriangle 134 rfl) (Nat.le_of_ble_eq_true rfl) rfl rfl (np 243 rfl ?_)
        refine r_goto (tgt := 146) (dc dkX6_findTriangle 135 rfl) rfl ?_
        refine r_pick [3, 4, 5, 6, 7, 8, 9, 10, 11, 12, 13, 14, 15, 16, 17, 0] rfl ?_
        exact ih146 _ _ (by
              refine ⟨by omega, ?_⟩
              rw [fl_s _ (by omega)]
              first
              | (rw [HL3_t (by omega) (show QC (σ 28 0) (σ 28 1) on wi _ _ _ from ⟨by omega, by omega, by omega⟩)]
                 have q := fnd_s (c := cd3 (τ 16 i) (τ 16 j) (τ 16 l)) hI146.2.1 hI146.2.2 (by omega)
                 rw [List.append_assoc, List.append_assoc] at q
                 exact q)
              | (rw [HL3_f (fun q => by have := q.2.1; omega), List.append_nil]; exact hI146.2)
              | (rw [HL3_f (fun q => by have := q.2.2; omega), List.append_nil]; exact hI146.2)) (by omega)
      refine r_iload (dc dkX6_findTriangle 120 rfl) rfl (np 216 rfl ?_)
      refine r_iload (dc dkX6_findTriangle 121 rfl) rfl (np 218 rfl ?_)
      refine r_icmp_ne (tgt := 237) (dc dkX6_findTriangle 122 rfl) rfl (by first | assumption | decide | omega) (by first | assumption | decide | omega) (fun h218 => ?_) (fun h218 => (np 221 rfl ?_))
      · skip
        refine r_iinc (lv' := [(7, _), (17, _), (16, _), (0, _), (1, _), (2, _), (3, _), (4, _), (5, _), (6, _), (8, _), (9, _), (10, _), (11, _), (12, _), (13, _), (14, _), (15, _)]) (dc dkX6_findTriangle 133 rfl) (Nat.le_of_ble_eq_true rfl) rfl rfl (np 240 rfl ?_)
        refine r_iinc (lv' := [(15, _), (7, _), (17, _), (16, _), (0, _), (1, _), (2, _), (3, _), (4, _), (5, _), (6, _), (8, _), (9, _), (10, _), (11, _), (12, _), (13, _), (14, _)]) (dc dkX6_findTriangle 134 rfl) (Nat.le_of_ble_eq_true rfl) rfl rfl (np 243 rfl ?_)
        refine r_goto (tgt := 146) (dc dkX6_findTriangle 135 rfl) rfl ?_
        refine r_pick [4, 5, 6, 7, 8, 9, 10, 1, 11, 12, 13, 14, 15, 16, 17, 0] rfl ?_
        exact ih146 _ _ (by
              refine ⟨by omega, ?_⟩
              rw [fl_s _ (by omega)]
              first
              | (rw [HL3_t (by omega) (show QC (σ 28 0) (σ 28 1) on wi _ _ _ from ⟨by omega, by omega, by omega⟩)]
                 have q := fnd_s (c := cd3 (τ 16 i) (τ 16 j) (τ 16 l)) hI146.2.1 hI146.2.2 (by omega)
                 rw [List.append_assoc, List.append_assoc] at q
                 exact q)
              | (rw [HL3_f (fun q => by have := q.2.1; omega), List.append_nil]; exact hI146.2)
              | (rw [HL3_f (fun q => by have := q.2.2; omega), List.append_nil]; exact hI146.2)) (by omega)
      refine r_sipush (dc dkX6_findTriangle 123 rfl) sp_10000 (np 224 rfl ?_)
      refine r_iload (dc dkX6_findTriangle 124 rfl) rfl (np 226 rfl ?_)
      refine r_imul (dc dkX6_findTriangle 125 rfl) (np 227 rfl ?_)
      refine r_bipush (dc dkX6_findTriangle 126 rfl) bp_100 (np 229 rfl ?_)
      refine r_iload (dc dkX6_findTriangle 127 rfl) rfl (np 231 rfl ?_)
      refine r_imul (dc dkX6_findTriangle 128 rfl) (np 232 rfl ?_)
      refine r_iadd (dc dkX6_findTriangle 129 rfl) (np 233 rfl ?_)
      refine r_iload (dc dkX6_findTriangle 130 rfl) rfl (np 235 rfl ?_)
      refine r_iadd (dc dkX6_findTriangle 131 rfl) (np 236 rfl ?_)
      exact r_iret (dc dkX6_findTriangle 132 rfl) rfl ⟨congrArg (fun z => some (vI z)) (by rw [← eTL]; exact (nthL_at (FL3_at (by omega) (by omega) (by omega) ⟨by omega, by omega, by omega⟩) (by rw [← hI146.2.1]; omega)).symm), S⟩
    refine r_iload (dc dkX6_findTriangle 110 rfl) rfl (np 195 rfl ?_)
    refine r_iload (dc dkX6_findTriangle 111 rfl) rfl (np 197 rfl ?_)
    refine r_ineg (dc dkX6_findTriangle 112 rfl) (np 198 rfl ?_)
    refine r_icmp_ne (tgt := 240) (dc dkX6_findTriangle 113 rfl) rfl (by first | assumption | decide | omega) (by first | assumption | decide | omega) (fun h198 => ?_) (fun h198 => (np 201 rfl ?_))
    · skip
      refine r_iinc (lv' := [(15, _), (17, _), (16, _), (0, _), (1, _), (2, _), (3, _), (4, _), (5, _), (6, _), (7, _), (8, _), (9, _), (10, _), (11, _), (12, _), (13, _), (14, _)]) (dc dkX6_findTriangle 134 rfl) (Nat.le_of_ble_eq_true rfl) rfl rfl (np 243 rfl ?_)
      refine r_goto (tgt := 146) (dc dkX6_findTriangle 135 rfl) rfl ?_
      refine r_pick [3, 4, 5, 6, 7, 8, 9, 10, 11, 12, 13, 14, 15, 16, 17, 0] rfl ?_
      exact ih146 _ _ (by
            refine ⟨by omega, ?_⟩
            rw [fl_s _ (by omega)]
            first
            | (rw [HL3_t (by omega) (show QC (σ 28 0) (σ 28 1) on wi _ _ _ from ⟨by omega, by omega, by omega⟩)]
               have q := fnd_s (c := cd3 (τ 16 i) (τ 16 j) (τ 16 l)) hI146.2.1 hI146.2.2 (by omega)
               rw [List.append_assoc, List.append_assoc] at q
               exact q)
            | (rw [HL3_f (fun q => by have := q.2.1; omega), List.append_nil]; exact hI146.2)
            | (rw [HL3_f (fun q => by have := q.2.2; omega), List.append_nil]; exact hI146.2)) (by omega)
    have nb2 := L3_len (pl := τ 16) (Q := QC (σ 28 0) (σ 28 1) on wi) (m := τ 15 1) (i := i) (j := j) (l := l) (by omega) (by omega) (by omega) (by omega)
    rw [← Int.ofNat_le, ← hI146.2.1] at nb2
    have eb := pts_b pi pj
    have eb2 := pts_b pj pl
    have eb3 := pts_b pl pi
    refine r_iload (dc dkX6_findTriangle 114 rfl) rfl (np 203 rfl ?_)
    refine r_iload (dc dkX6_findTriangle 115 rfl) rfl (np 205 rfl ?_)
    refine r_iload (dc dkX6_findTriangle 116 rfl) rfl (np 207 rfl ?_)
    refine r_pS3 (y' := miX6_placesOn) (dc dkX6_findTriangle 117 rfl) mlX6_35 seX6_placesOn (Nat.le_of_ble_eq_true rfl) (Nat.le_of_ble_eq_true rfl) (c_X6_placesOn pi pj pl) (np 210 rfl ?_)
    refine r_iload_n (dc dkX6_findTriangle 118 rfl) rfl (np 211 rfl ?_)
    refine r_icmp_ne (tgt := 240) (dc dkX6_findTriangle 119 rfl) rfl (by first | assumption | decide | omega) (by first | assumption | decide | omega) (fun h211 => ?_) (fun h211 => (np 214 rfl ?_))
    · skip
      refine r_iinc (lv' := [(15, _), (17, _), (16, _), (0, _), (1, _), (2, _), (3, _), (4, _), (5, _), (6, _), (7, _), (8, _), (9, _), (10, _), (11, _), (12, _), (13, _), (14, _)]) (dc dkX6_findTriangle 134 rfl) (Nat.le_of_ble_eq_true rfl) rfl rfl (np 243 rfl ?_)
      refine r_goto (tgt := 146) (dc dkX6_findTriangle 135 rfl) rfl ?_
      refine r_pick [3, 4, 5, 6, 7, 8, 9, 10, 11, 12, 13, 14, 15, 16, 17, 0] rfl ?_
      exact ih146 _ _ (by
            refine ⟨by omega, ?_⟩
            rw [fl_s _ (by omega)]
            first
            | (rw [HL3_t (by omega) (show QC (σ 28 0) (σ 28 1) on wi _ _ _ from ⟨by omega, by omega, by omega⟩)]
               have q := fnd_s (c := cd3 (τ 16 i) (τ 16 j) (τ 16 l)) hI146.2.1 hI146.2.2 (by omega)
               rw [List.append_assoc, List.append_assoc] at q
               exact q)
            | (rw [HL3_f (fun q => by have := q.2.1; omega), List.append_nil]; exact hI146.2)
            | (rw [HL3_f (fun q => by have := q.2.2; omega), List.append_nil]; exact hI146.2)) (by omega)
    refine r_iload (dc dkX6_findTriangle 120 rfl) rfl (np 216 rfl ?_)
    refine r_iload (dc dkX6_findTriangle 121 rfl) rfl (np 218 rfl ?_)
    refine r_icmp_ne (tgt := 237) (dc dkX6_findTriangle 122 rfl) rfl (by first | assumption | decide | omega) (by first | assumption | decide | omega) (fun h218 => ?_) (fun h218 => (np 221 rfl ?_))
    · skip
      refine r_iinc (lv' := [(7, _), (17, _), (16, _), (0, _), (1, _), (2, _), (3, _), (4, _), (5, _), (6, _), (8, _), (9, _), (10, _), (11, _), (12, _), (13, _), (14, _), (15, _)]) (dc dkX6_findTriangle 133 rfl) (Nat.le_of_ble_eq_true rfl) rfl rfl (np 240 rfl ?_)
      refine r_iinc (lv' := [(15, _), (7, _), (17, _), (16, _), (0, _), (1, _), (2, _), (3, _), (4, _), (5, _), (6, _), (8, _), (9, _), (10, _), (11, _), (12, _), (13, _), (14, _)]) (dc dkX6_findTriangle 134 rfl) (Nat.le_of_ble_eq_true rfl) rfl rfl (np 243 rfl ?_)
      refine r_goto (tgt := 146) (dc dkX6_findTriangle 135 rfl) rfl ?_
      refine r_pick [4, 5, 6, 7, 8, 9, 10, 1, 11, 12, 13, 14, 15, 16, 17, 0] rfl ?_
      exact ih146 _ _ (by
            refine ⟨by omega, ?_⟩
            rw [fl_s _ (by omega)]
            first
            | (rw [HL3_t (by omega) (show QC (σ 28 0) (σ 28 1) on wi _ _ _ from ⟨by omega, by omega, by omega⟩)]
               have q := fnd_s (c := cd3 (τ 16 i) (τ 16 j) (τ 16 l)) hI146.2.1 hI146.2.2 (by omega)
               rw [List.append_assoc, List.append_assoc] at q
               exact q)
            | (rw [HL3_f (fun q => by have := q.2.1; omega), List.append_nil]; exact hI146.2)
            | (rw [HL3_f (fun q => by have := q.2.2; omega), List.append_nil]; exact hI146.2)) (by omega)
    refine r_sipush (dc dkX6_findTriangle 123 rfl) sp_10000 (np 224 rfl ?_)
    refine r_iload (dc dkX6_findTriangle 124 rfl) rfl (np 226 rfl ?_)
    refine r_imul (dc dkX6_findTriangle 125 rfl) (np 227 rfl ?_)
    refine r_bipush (dc dkX6_findTriangle 126 rfl) bp_100 (np 229 rfl ?_)
    refine r_iload (dc dkX6_findTriangle 127 rfl) rfl (np 231 rfl ?_)
    refine r_imul (dc dkX6_findTriangle 128 rfl) (np 232 rfl ?_)
    refine r_iadd (dc dkX6_findTriangle 129 rfl) (np 233 rfl ?_)
    refine r_iload (dc dkX6_findTriangle 130 rfl) rfl (np 235 rfl ?_)
    refine r_iadd (dc dkX6_findTriangle 131 rfl) (np 236 rfl ?_)
    exact r_iret (dc dkX6_findTriangle 132 rfl) rfl ⟨congrArg (fun z => some (vI z)) (by rw [← eTL]; exact (nthL_at (FL3_at (by omega) (by omega) (by omega) ⟨by omega, by omega, by omega⟩) (by rw [← hI146.2.1]; omega)).symm), S⟩
  refine r_iload (dc dkX6_findTriangle 7 rfl) rfl (np 14 rfl ?_)
  refine r_if_le (tgt := 39) (dc dkX6_findTriangle 8 rfl) rfl (by first | assumption | decide | omega) (fun h14 => ?_) (fun h14 => (np 17 rfl ?_))
  · skip
    refine r_iconst (dc dkX6_findTriangle 22 rfl) (np 40 rfl ?_)
    refine r_pick [1, 2, 3, 4, 5, 0] rfl ?_
    exact jj40 _ (by omega)
  refine r_iload (dc dkX6_findTriangle 9 rfl) rfl (np 19 rfl ?_)
  refine r_aload_n (dc dkX6_findTriangle 10 rfl) rfl (np 20 rfl ?_)
  refine r_gI 0 (dc dkX6_findTriangle 11 rfl) flX6_27 fd_28_0 rfl (np 23 rfl ?_)
  refine r_eqI (σ 28 0) (by rw [e28]) ?_
  refine r_iconst (dc dkX6_findTriangle 12 rfl) (np 24 rfl ?_)
  refine r_isub (dc dkX6_findTriangle 13 rfl) (np 25 rfl ?_)
  refine r_aload_n (dc dkX6_findTriangle 14 rfl) rfl (np 26 rfl ?_)
  refine r_gI 1 (dc dkX6_findTriangle 15 rfl) flX6_32 fd_28_1 rfl (np 29 rfl ?_)
  refine r_eqI (σ 28 1) (by rw [e28]) ?_
  refine r_iconst (dc dkX6_findTriangle 16 rfl) (np 30 rfl ?_)
  refine r_isub (dc dkX6_findTriangle 17 rfl) (np 31 rfl ?_)
  refine r_imul (dc dkX6_findTriangle 18 rfl) (np 32 rfl ?_)
  refine r_icmp_gt (tgt := 39) (dc dkX6_findTriangle 19 rfl) rfl (by first | assumption | decide | omega) (by first | assumption | decide | omega) (fun h32 => ?_) (fun h32 => (np 35 rfl ?_))
  · skip
    refine r_iconst (dc dkX6_findTriangle 22 rfl) (np 40 rfl ?_)
    refine r_pick [1, 2, 3, 4, 5, 0] rfl ?_
    exact jj40 _ (by omega)
  refine r_iconst (dc dkX6_findTriangle 20 rfl) (np 36 rfl ?_)
  refine r_goto (tgt := 40) (dc dkX6_findTriangle 21 rfl) rfl ?_
  refine r_pick [1, 2, 3, 4, 5, 0] rfl ?_
  exact jj40 _ (by omega)
