/-! ===== what is said of a band: the class ===== -/
noncomputable def msC (n : Int) (P : Int → Int) (w : Int) : Int := if w = 12 then ((areaS n P).natAbs : Int) else if w = 13 then onN n P else if w = 14 then (((areaS n P).natAbs : Int) - onN n P + 2).tdiv 2 else if w = 15 then n else rightN n P
def cmpS (s m k : Int) : Prop := (s = 0 ∧ m < k) ∨ (s = 1 ∧ m = k) ∨ (¬ s = 0 ∧ ¬ s = 1 ∧ k < m)
noncomputable def oId (σ : jS) (c : Int) : Int := fi (fun b => σ 31 b = c % 1000 ∧ ¬ c % 1000 = -1) (σ 30 0)
def atS (σ : jS) (b c : Int) : Prop :=
  if c / 3000 = 9 then ¬ oId σ c = -1 ∧ lieB (σ 32 b) (bAt σ 30 b) (σ 32 (oId σ c)) (bAt σ 30 (oId σ c))
  else if c / 3000 = 10 then ¬ oId σ c = -1 ∧ alk (σ 32 b) (bAt σ 30 b) (σ 32 (oId σ c)) (bAt σ 30 (oId σ c)) (lPs 2)
  else if c / 3000 = 11 then 0 < bentN (σ 32 b) (bAt σ 30 b)
  else cmpS (c / 1000 % 3) (msC (σ 32 b) (bAt σ 30 b) (c / 3000)) (c % 1000)
theorem atS_e {σ τ : jS} (h : same [11, 12, 13, 14] σ τ) : atS τ = atS σ := by
  have e0 : τ 30 = σ 30 := h 30 (by decide)
  have e1 : τ 31 = σ 31 := h 31 (by decide)
  have e2 : τ 32 = σ 32 := h 32 (by decide)
  have e3 : bAt τ 30 = bAt σ 30 := by funext x y; exact bAt_t e2 (h 33 (by decide)) x y
  funext b c
  unfold atS oId
  rw [e0, e1, e2, e3]
theorem msC_b {n : Int} {P : Int → Int} (hn : 0 ≤ n ∧ n ≤ 8) (hp : ∀ i, 0 ≤ i → isPg (P i)) (w : Int) : -2000 ≤ msC n P w ∧ msC n P w ≤ 2000 := by
  have a := smI_b (f := fun i => sh (P i) (P (i + 1))) (A := 81) (n := n) hn.1 (fun i i0 i1 => sh_b (hp i i0) (hp (i + 1) (by omega)))
  replace a : -(n * 81) ≤ areaS n P ∧ areaS n P ≤ n * 81 := a
  have b := smI_nn (f := fun i => pts (P i) (P (i + 1))) (A := 9) (n := n) hn.1 (fun i i0 i1 => pts_b (hp i i0) (hp (i + 1) (by omega)))
  replace b : 0 ≤ onN n P ∧ onN n P ≤ n * 9 := b
  have c := smI_nn (f := fun i => bI (al (P (i + 1)) (P i) (P (i + 2)) = 0)) (A := 1) (n := n) hn.1 (fun i _ _ => bI_b _)
  replace c : 0 ≤ rightN n P ∧ rightN n P ≤ n * 1 := c
  have d := td2_b (x := ((areaS n P).natAbs : Int) - onN n P + 2) (M := 2000) (by omega)
  unfold msC
  split
  · omega
  · split
    · omega
    · split
      · omega
      · split <;> omega
/-- truths found, as bits -/
def bt32 (z : Int) (i : Nat) : Prop := (Int32.ofInt z).toBitVec.getLsbD i = true
def BSt (z : Int) (L : List Prop) : Prop := ∀ i : Nat, i < 32 → (bt32 z i ↔ L.getD i False)
theorem hdP_0 (L : List Prop) : hdP L = L.getD 0 False := by cases L <;> rfl
theorem tl_D (L : List Prop) (i : Nat) : L.tail.getD i False = L.getD (i + 1) False := by cases L <;> rfl
theorem cn_D (p : Prop) (L : List Prop) (i : Nat) : (p :: L).getD (i + 1) False = L.getD i False := rfl
theorem ofInt_toInt32 (x : Int32) : Int32.ofInt x.toInt = x := Int32.ofInt_toInt x
theorem BSt_0 : BSt 0 [] := fun i _ => by
  unfold bt32
  rw [show (Int32.ofInt 0).toBitVec = 0#32 by decide]
  simp
theorem BSt_lt {L : List Prop} {i : Nat} (h : L.length ≤ i) : ¬ L.getD i False := by
  rw [List.getD_eq_getElem?_getD, List.getElem?_eq_none h]
  exact id
theorem and1_b (z : Int) : iAnd z 1 = bI (bt32 z 0) := by
  unfold iAnd bt32
  have e : (Int32.ofInt z &&& Int32.ofInt 1).toBitVec = BitVec.setWidth 32 (BitVec.ofBool ((Int32.ofInt z).toBitVec.getLsbD 0)) := by
    rw [Int32.toBitVec_and, show (Int32.ofInt 1).toBitVec = 1#32 by decide, BitVec.and_one_eq_setWidth_ofBool_getLsbD]
  show BitVec.toInt _ = _
  rw [e]
  cases (Int32.ofInt z).toBitVec.getLsbD 0 with
  | false => rw [bI_f (by simp)]; decide
  | true => rw [bI_t rfl]; decide
theorem b32_shr {z : Int} {i : Nat} (h : i < 32) : bt32 (iShr z 1) i ↔ (if i < 31 then bt32 z (i + 1) else bt32 z 31) := by
  unfold bt32 iShr
  rw [ofInt_toInt32, Int32.toBitVec_shiftRight, BitVec.sshiftRight_eq']
  rw [show ((Int32.ofInt 1 &&& 31).toBitVec.smod 32).toNat = 1 by decide]
  rw [BitVec.getLsbD_sshiftRight]
  have h1 : ¬ 32 ≤ i := by omega
  by_cases c : i < 31
  · have h2 : 1 + i < 32 := by omega
    rw [if_pos h2, if_pos c, Nat.add_comm 1 i, decide_eq_false h1, Bool.not_false, Bool.true_and]
  · have h2 : ¬ 1 + i < 32 := by omega
    rw [if_neg h2, if_neg c, decide_eq_false h1, Bool.not_false, Bool.true_and, BitVec.msb_eq_getLsbD_last]
theorem b32_xor1 {z : Int} {i : Nat} (h : i < 32) : bt32 (iXor z 1) i ↔ (if i = 0 then ¬ bt32 z 0 else bt32 z i) := by
  unfold bt32 iXor
  rw [ofInt_toInt32, Int32.toBitVec_xor, BitVec.getLsbD_xor, show (Int32.ofInt 1).toBitVec = 1#32 by decide, BitVec.getLsbD_one]
  by_cases c : i = 0
  · subst c; simp
  · simp [c]
theorem b32_and {x y : Int} {i : Nat} : bt32 (iAnd x y) i ↔ bt32 x i ∧ bt32 y i := by
  unfold bt32 iAnd
  rw [ofInt_toInt32, Int32.toBitVec_and, BitVec.getLsbD_and, Bool.and_eq_true]
theorem b32_or {x y : Int} {i : Nat} : bt32 (iOr x y) i ↔ bt32 x i ∨ bt32 y i := by
  unfold bt32 iOr
  rw [ofInt_toInt32, Int32.toBitVec_or, BitVec.getLsbD_or, Bool.or_eq_true]
theorem b32_m2 : ∀ i : Nat, i < 32 → (bt32 (-2) i ↔ ¬ i = 0) := by
  intro i hi
  have : ∀ i : Nat, i < 32 → ((Int32.ofInt (-2)).toBitVec.getLsbD i = true ↔ ¬ i = 0) := by decide
  exact this i hi
theorem b32_bI {P : Prop} {i : Nat} (h : i < 32) : bt32 (bI P) i ↔ (i = 0 ∧ P) := by
  unfold bt32
  by_cases c : P
  · rw [bI_t c, show (Int32.ofInt 1).toBitVec = 1#32 by decide, BitVec.getLsbD_one]
    simp [c]
  · rw [bI_f c, show (Int32.ofInt 0).toBitVec = 0#32 by decide]
    simp [c]
theorem b32_shl {z : Int} {i : Nat} (h : i < 32) : bt32 (iShl z 1) i ↔ (¬ i = 0 ∧ bt32 z (i - 1)) := by
  unfold bt32 iShl
  rw [ofInt_toInt32, Int32.toBitVec_shiftLeft, BitVec.shiftLeft_eq', show ((Int32.ofInt 1 &&& 31).toBitVec.smod 32).toNat = 1 by decide, BitVec.getLsbD_shiftLeft]
  by_cases c : i = 0
  · subst c; simp
  · have h1 : ¬ i < 1 := by omega
    simp [h, c, h1]
theorem BSt_not {z : Int} {L : List Prop} (h : BSt z L) : BSt (iXor z 1) ((¬ hdP L) :: L.tail) := fun i hi => by
  rw [b32_xor1 hi]
  cases i with
  | zero => rw [if_pos rfl, h 0 (by omega), ← hdP_0]; exact Iff.rfl
  | succ i => rw [if_neg (by omega), h (i + 1) hi, cn_D, tl_D]
theorem BSt_shr {z : Int} {L : List Prop} (h : BSt z L) (hl : L.length ≤ 30) {i : Nat} (hi : i < 32) : bt32 (iShr z 1) i ↔ L.tail.getD i False := by
  rw [b32_shr hi, tl_D]
  by_cases c : i < 31
  · rw [if_pos c]; exact h (i + 1) (by omega)
  · rw [if_neg c, h 31 (by omega)]
    exact ⟨fun z => absurd z (BSt_lt (by omega)), fun z => absurd z (BSt_lt (by omega))⟩
theorem BSt_and {z : Int} {L : List Prop} (h : BSt z L) (hl : L.length ≤ 30) : BSt (iAnd (iShr z 1) (iOr (bI (hdP L)) (-2))) ((hdP L.tail ∧ hdP L) :: L.tail.tail) := fun i hi => by
  rw [b32_and, BSt_shr h hl hi, b32_or, b32_bI hi, b32_m2 i hi]
  cases i with
  | zero =>
    rw [← hdP_0]
    show _ ↔ (hdP L.tail ∧ hdP L)
    exact ⟨fun u => ⟨u.1, u.2.elim (fun v => v.2) (fun v => absurd rfl v)⟩, fun u => ⟨u.1, Or.inl ⟨rfl, u.2⟩⟩⟩
  | succ i =>
    rw [cn_D, tl_D L.tail]
    exact ⟨fun u => u.1, fun u => ⟨u, Or.inr (by omega)⟩⟩
theorem BSt_or {z : Int} {L : List Prop} (h : BSt z L) (hl : L.length ≤ 30) : BSt (iOr (iShr z 1) (bI (hdP L))) ((hdP L.tail ∨ hdP L) :: L.tail.tail) := fun i hi => by
  rw [b32_or, BSt_shr h hl hi, b32_bI hi]
  cases i with
  | zero =>
    rw [← hdP_0]
    show _ ↔ (hdP L.tail ∨ hdP L)
    exact ⟨fun u => u.imp id (fun v => v.2), fun u => u.imp id (fun v => ⟨rfl, v⟩)⟩
  | succ i =>
    rw [cn_D, tl_D L.tail]
    exact ⟨fun u => u.resolve_right (fun v => by omega), Or.inl⟩
theorem BSt_push {z : Int} {L : List Prop} (h : BSt z L) (P : Prop) : BSt (iOr (iShl z 1) (bI P)) (P :: L) := fun i hi => by
  rw [b32_or, b32_shl hi, b32_bI hi]
  cases i with
  | zero =>
    show _ ↔ P
    exact ⟨fun u => u.elim (fun v => absurd rfl v.1) (fun v => v.2), fun u => Or.inr ⟨rfl, u⟩⟩
  | succ i =>
    rw [cn_D, Nat.add_sub_cancel, h i (by omega)]
    exact ⟨fun u => u.elim (fun v => v.2) (fun v => by omega), fun u => Or.inl ⟨by omega, u⟩⟩
theorem rnL_s (v : Int → Prop) (f : Int → Int) {i : Int} (hi : 0 ≤ i) : rnL v f (i + 1).toNat 0 [] = stp v (f i) (rnL v f i.toNat 0 []) := by
  rw [show (i + 1).toNat = i.toNat + 1 by omega, rnL_add, rnL, rnL, show (0 : Int) + (i.toNat : Int) = i by omega]
theorem acn_s (f : Int → Int) {i : Int} (hi : 0 ≤ i) : acn f (i + 1).toNat 0 = acn f i.toNat 0 + bite (isO (f i)) 0 1 := by
  rw [show (i + 1).toNat = i.toNat + 1 by omega, acn_add, acn, acn, show (0 : Int) + (i.toNat : Int) = i by omega]
  omega
theorem acn_nn (f : Int → Int) : ∀ (n : Nat) (i : Int), 0 ≤ acn f n i
  | 0, _ => Int.le_refl _
  | n + 1, i => by
    rw [acn]
    have := acn_nn f n (i + 1)
    by_cases c : isO (f i)
    · rw [bite_t c]; omega
    · rw [bite_f c]; omega
theorem acn_le (f : Int → Int) {i n : Int} (hi : 0 ≤ i) (h : i ≤ n) : acn f i.toNat 0 ≤ acn f n.toNat 0 := by
  rw [show n.toNat = i.toNat + (n - i).toNat by omega, acn_add]
  have := acn_nn f (n - i).toNat (0 + (i.toNat : Int))
  omega
noncomputable def saL (Q : Int → Prop) (n : Int) : List Int := fl (fun b => lif (Q b) [b]) n
theorem sa_at {Q : Int → Prop} {n i : Int} (hi : 0 ≤ i ∧ i < n) (h : Q i) : saL Q i ++ [i] <+: saL Q n := by
  have := fl_pre (f := fun i => lif (Q i) [i]) hi.1 hi.2
  rw [lif_t h] at this
  exact this
theorem sa_len {Q : Int → Prop} {n : Int} (h : n ≤ 100) : (saL Q n).length ≤ 100 := by
  have := fl_len (f := fun b => lif (Q b) [b]) (B := 1) (fun i => lif_len (by simp)) h
  unfold saL
  omega
set_option maxRecDepth 100000 in
set_option maxHeartbeats 4000000 in
theorem c_X9_measureOf {σ : jS} (hB : okB σ 30) (hn : ∀ b, 0 ≤ b → b < σ 30 0 → 3 ≤ σ 32 b) {b : Int} (h0 : 0 ≤ b) (h1 : b < σ 30 0) {w : Int} (hw : 0 ≤ w ∧ w ≤ 100) : Jp 5 miX9_measureOf [vI (100 + w), .ref 30, vI b] σ (vI (msC (σ 32 b) (bAt σ 30 b) w)) := by
  have m8 := hB.1
  refine jm_ofF (Po := (jP (vI (msC (σ 32 b) (bAt σ 30 b) w)) σ)) (plainFor_of_name (by decide)) (Nat.le_of_ble_eq_true rfl) (lv := [(0, _), (1, _), (2, _)]) rfl ?_
  refine r_iload_n (dc dkX9_measureOf 0 rfl) rfl (np 1 rfl ?_)
  by_cases hs112 : (100 + w) = 112
  · skip
    refine r_tableIn (tgt := 32) (off := 31) (dc dkX9_measureOf 1 rfl) (by omega) (by omega) (by omega) (by rw [show (((100 + w)) - (112) : Int).toNat = 0 by omega]; rfl) rfl ?_
    refine r_aload_n (dc dkX9_measureOf 2 rfl) rfl (np 33 rfl ?_)
    refine r_iload_n (dc dkX9_measureOf 3 rfl) rfl (np 34 rfl ?_)
    refine r_pV1 (y' := miX0_areaOf) (dc dkX9_measureOf 4 rfl) mlX9_116 ceX0_areaOf ob_30 (Nat.le_of_ble_eq_true rfl) (Nat.le_of_ble_eq_true rfl) (c_X0_areaOf isBands_at30 hB h0 (by omega)) (np 37 rfl ?_)
    exact r_iret (dc dkX9_measureOf 5 rfl) rfl ⟨congrArg (fun z => some (vI z)) (by unfold msC; first | (rw [if_pos (by omega)]; done) | (rw [if_neg (by omega), if_pos (by omega)]; done) | (rw [if_neg (by omega), if_neg (by omega), if_pos (by omega)]; done) | (rw [if_neg (by omega), if_neg (by omega), if_neg (by omega), if_pos (by omega)]; done) | (rw [if_neg (by omega), if_neg (by omega), if_neg (by omega), if_neg (by omega)]; done)), rfl⟩
  by_cases hs113 : (100 + w) = 113
  · skip
    refine r_tableIn (tgt := 38) (off := 37) (dc dkX9_measureOf 1 rfl) (by omega) (by omega) (by omega) (by rw [show (((100 + w)) - (112) : Int).toNat = 1 by omega]; rfl) rfl ?_
    refine r_aload_n (dc dkX9_measureOf 6 rfl) rfl (np 39 rfl ?_)
    refine r_iload_n (dc dkX9_measureOf 7 rfl) rfl (np 40 rfl ?_)
    refine r_pV1 (y' := miX0_placesOn) (dc dkX9_measureOf 8 rfl) mlX9_119 ceX0_placesOn ob_30 (Nat.le_of_ble_eq_true rfl) (Nat.le_of_ble_eq_true rfl) (c_X0_placesOn isBands_at30 hB h0 (by omega)) (np 43 rfl ?_)
    exact r_iret (dc dkX9_measureOf 9 rfl) rfl ⟨congrArg (fun z => some (vI z)) (by unfold msC; first | (rw [if_pos (by omega)]; done) | (rw [if_neg (by omega), if_pos (by omega)]; done) | (rw [if_neg (by omega), if_neg (by omega), if_pos (by omega)]; done) | (rw [if_neg (by omega), if_neg (by omega), if_neg (by omega), if_pos (by omega)]; done) | (rw [if_neg (by omega), if_neg (by omega), if_neg (by omega), if_neg (by omega)]; done)), rfl⟩
  by_cases hs114 : (100 + w) = 114
  · skip
    refine r_tableIn (tgt := 44) (off := 43) (dc dkX9_measureOf 1 rfl) (by omega) (by omega) (by omega) (by rw [show (((100 + w)) - (112) : Int).toNat = 2 by omega]; rfl) rfl ?_
    refine r_aload_n (dc dkX9_measureOf 10 rfl) rfl (np 45 rfl ?_)
    refine r_iload_n (dc dkX9_measureOf 11 rfl) rfl (np 46 rfl ?_)
    refine r_pV1 (y' := miX0_placesWithin) (dc dkX9_measureOf 12 rfl) mlX9_122 ceX0_placesWithin ob_30 (Nat.le_of_ble_eq_true rfl) (Nat.le_of_ble_eq_true rfl) (c_X0_placesWithin isBands_at30 hB h0 (by omega)) (np 49 rfl ?_)
    exact r_iret (dc dkX9_measureOf 13 rfl) rfl ⟨congrArg (fun z => some (vI z)) (by unfold msC; first | (rw [if_pos (by omega)]; done) | (rw [if_neg (by omega), if_pos (by omega)]; done) | (rw [if_neg (by omega), if_neg (by omega), if_pos (by omega)]; done) | (rw [if_neg (by omega), if_neg (by omega), if_neg (by omega), if_pos (by omega)]; done) | (rw [if_neg (by omega), if_neg (by omega), if_neg (by omega), if_neg (by omega)]; done)), rfl⟩
  by_cases hs115 : (100 + w) = 115
  · skip
    refine r_tableIn (tgt := 50) (off := 49) (dc dkX9_measureOf 1 rfl) (by omega) (by omega) (by omega) (by rw [show (((100 + w)) - (112) : Int).toNat = 3 by omega]; rfl) rfl ?_
    refine r_aload_n (dc dkX9_measureOf 14 rfl) rfl (np 51 rfl ?_)
    refine r_iload_n (dc dkX9_measureOf 15 rfl) rfl (np 52 rfl ?_)
    refine r_pV1 (y' := miX0_sizeOf) (dc dkX9_measureOf 16 rfl) mlX9_125 ceX0_sizeOf ob_30 (Nat.le_of_ble_eq_true rfl) (Nat.le_of_ble_eq_true rfl) (c_X0_sizeOf isBands_at30 h0 (by omega)) (np 55 rfl ?_)
    exact r_iret (dc dkX9_measureOf 17 rfl) rfl ⟨congrArg (fun z => some (vI z)) (by unfold msC; first | (rw [if_pos (by omega)]; done) | (rw [if_neg (by omega), if_pos (by omega)]; done) | (rw [if_neg (by omega), if_neg (by omega), if_pos (by omega)]; done) | (rw [if_neg (by omega), if_neg (by omega), if_neg (by omega), if_pos (by omega)]; done) | (rw [if_neg (by omega), if_neg (by omega), if_neg (by omega), if_neg (by omega)]; done)), rfl⟩
  refine r_tableOut (tgt := 56) (dc dkX9_measureOf 1 rfl) (by first | assumption | omega | decide) (by omega) rfl ?_
  refine r_aload_n (dc dkX9_measureOf 18 rfl) rfl (np 57 rfl ?_)
  refine r_iload_n (dc dkX9_measureOf 19 rfl) rfl (np 58 rfl ?_)
  refine r_pV1 (y' := miX0_rightOnes) (dc dkX9_measureOf 20 rfl) mlX9_128 ceX0_rightOnes ob_30 (Nat.le_of_ble_eq_true rfl) (Nat.le_of_ble_eq_true rfl) (c_X0_rightOnes isBands_at30 hB h0 (by omega)) (np 61 rfl ?_)
  exact r_iret (dc dkX9_measureOf 21 rfl) rfl ⟨congrArg (fun z => some (vI z)) (by unfold msC; first | (rw [if_pos (by omega)]; done) | (rw [if_neg (by omega), if_pos (by omega)]; done) | (rw [if_neg (by omega), if_neg (by omega), if_pos (by omega)]; done) | (rw [if_neg (by omega), if_neg (by omega), if_neg (by omega), if_pos (by omega)]; done) | (rw [if_neg (by omega), if_neg (by omega), if_neg (by omega), if_neg (by omega)]; done)), rfl⟩
