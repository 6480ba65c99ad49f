/-! ===== rows: compares, branches, quotients, bits, the stack ===== -/
abbrev iR (z : Int) : Prop := -2147483648 ≤ z ∧ z ≤ 2147483647
abbrev lR (z : Int) : Prop := -9223372036854775808 ≤ z ∧ z ≤ 9223372036854775807
theorem i_of {a : Int} (h : iR a) : (Int32.ofInt a).toInt = a := Int32.toInt_ofInt_of_le (by have := h.1; omega) (by have := h.2; omega)
theorem l_of {a : Int} (h : lR a) : (Int64.ofInt a).toInt = a := Int64.toInt_ofInt_of_le (by have := h.1; omega) (by have := h.2; omega)
theorem iR_of (x : Int32) : iR x.toInt := ⟨by have := x.le_toInt; omega, by have := x.toInt_lt; omega⟩
theorem i_lt {a b : Int} (ha : iR a) (hb : iR b) : Int32.ofInt a < Int32.ofInt b ↔ a < b := by rw [Int32.lt_iff_toInt_lt, i_of ha, i_of hb]
theorem i_le {a b : Int} (ha : iR a) (hb : iR b) : Int32.ofInt a ≤ Int32.ofInt b ↔ a ≤ b := by rw [Int32.le_iff_toInt_le, i_of ha, i_of hb]
theorem i_eq {a b : Int} (ha : iR a) (hb : iR b) : Int32.ofInt a = Int32.ofInt b ↔ a = b := by rw [← Int32.toInt_inj, i_of ha, i_of hb]
theorem i_z : (0 : Int32) = Int32.ofInt 0 := by decide
theorem iR0 : iR 0 := by decide
theorem l_lt {a b : Int} (ha : lR a) (hb : lR b) : Int64.ofInt a < Int64.ofInt b ↔ a < b := by rw [Int64.lt_iff_toInt_lt, l_of ha, l_of hb]
theorem l_eq {a b : Int} (ha : lR a) (hb : lR b) : Int64.ofInt a = Int64.ofInt b ↔ a = b := by rw [← Int64.toInt_inj, l_of ha, l_of hb]
section JR2
variable {d : Nat} {y : jMI} {Po : Option Value → jS → Prop} {pc pc2 tgt : Nat} {lv lv' : List (Nat × Value)} {st st2 : List Value} {σ : jS} {off : Int}
theorem r_goto (hd : decode y.2.1 pc = .ok (.goto off, 3)) (ht : (pc : Int) + off = (tgt : Int)) (k : jR d y Po tgt lv st σ) : jR d y Po pc lv st σ :=
  jR.go (fun p l e s m args below meth c ad H locs ls Q C h K => lv_goto C.1 C.2.1 hd ht K) k
/-- a row with two ways on -/
theorem jR.br {P : Prop} {t1 t2 : Nat} (h : ∀ (p : Program) (l : Launch) (e : Env) (s : State) (m : MethodId) (args : Array Value) (below : List Frame) (meth : Method) (c : Code) (ad : Nat → Nat) (H : Heap) (locs : List Loc) (ls : Array Slot) (Q : State → Prop),
      jCx y p s m args meth c → (P → W p l e (jRm d) s m args below meth c H locs 0 0 Q (F0 m t1 ls (st2.map (jv ad)))) → (¬ P → W p l e (jRm d) s m args below meth c H locs 0 0 Q (F0 m t2 ls (st2.map (jv ad)))) → W p l e (jRm d) s m args below meth c H locs 0 0 Q (F0 m pc ls (st.map (jv ad))))
    (kt : P → jR d y Po t1 lv st2 σ) (kf : ¬ P → jR d y Po t2 lv st2 σ) : jR d y Po pc lv st σ :=
  fun p l e s m args below meth c ad A D cA H locs ls C Wd hl => h p l e s m args below meth c ad H locs ls _ C (fun q => kt q p l e s m args below meth c ad A D cA H locs ls C Wd hl) (fun q => kf q p l e s m args below meth c ad A D cA H locs ls C Wd hl)
theorem r_icmp_eq {a b : Int} (hd : decode y.2.1 pc = .ok (.if_icmp .eq off, 3)) (ht : (pc : Int) + off = (tgt : Int)) (ha : iR a) (hb : iR b) (kt : a = b → jR d y Po tgt lv st σ) (kf : ¬ a = b → jR d y Po (pc + 3) lv st σ) : jR d y Po pc lv (vI b :: vI a :: st) σ :=
  jR.br (fun p l e s m args below meth c ad H locs ls Q C K1 K2 => lv_icmp_eq C.1 C.2.1 hd ht (fun q => K1 ((i_eq ha hb).mp q)) (fun q => K2 (fun z => q ((i_eq ha hb).mpr z)))) kt kf
theorem r_icmp_ne {a b : Int} (hd : decode y.2.1 pc = .ok (.if_icmp .ne off, 3)) (ht : (pc : Int) + off = (tgt : Int)) (ha : iR a) (hb : iR b) (kt : ¬ a = b → jR d y Po tgt lv st σ) (kf : a = b → jR d y Po (pc + 3) lv st σ) : jR d y Po pc lv (vI b :: vI a :: st) σ :=
  jR.br (P := ¬ a = b) (fun p l e s m args below meth c ad H locs ls Q C K1 K2 => lv_icmp_ne C.1 C.2.1 hd ht (fun q => K1 (fun z => q ((i_eq ha hb).mpr z))) (fun q => K2 (fun z => z ((i_eq ha hb).mp q)))) kt (fun q => kf (Classical.not_not.mp q))
theorem r_icmp_lt {a b : Int} (hd : decode y.2.1 pc = .ok (.if_icmp .lt off, 3)) (ht : (pc : Int) + off = (tgt : Int)) (ha : iR a) (hb : iR b) (kt : a < b → jR d y Po tgt lv st σ) (kf : b ≤ a → jR d y Po (pc + 3) lv st σ) : jR d y Po pc lv (vI b :: vI a :: st) σ :=
  jR.br (fun p l e s m args below meth c ad H locs ls Q C K1 K2 => lv_icmp_lt C.1 C.2.1 hd ht (fun q => K1 ((i_lt ha hb).mp q)) (fun q => K2 (fun z => q ((i_lt ha hb).mpr z)))) kt (fun q => kf (Int.not_lt.mp q))
theorem r_icmp_ge {a b : Int} (hd : decode y.2.1 pc = .ok (.if_icmp .ge off, 3)) (ht : (pc : Int) + off = (tgt : Int)) (ha : iR a) (hb : iR b) (kt : b ≤ a → jR d y Po tgt lv st σ) (kf : a < b → jR d y Po (pc + 3) lv st σ) : jR d y Po pc lv (vI b :: vI a :: st) σ :=
  jR.br (fun p l e s m args below meth c ad H locs ls Q C K1 K2 => lv_icmp_ge C.1 C.2.1 hd ht (fun q => K1 ((i_le hb ha).mp q)) (fun q => K2 (fun z => q ((i_le hb ha).mpr z)))) kt (fun q => kf (Int.not_le.mp q))
theorem r_icmp_gt {a b : Int} (hd : decode y.2.1 pc = .ok (.if_icmp .gt off, 3)) (ht : (pc : Int) + off = (tgt : Int)) (ha : iR a) (hb : iR b) (kt : b < a → jR d y Po tgt lv st σ) (kf : a ≤ b → jR d y Po (pc + 3) lv st σ) : jR d y Po pc lv (vI b :: vI a :: st) σ :=
  jR.br (fun p l e s m args below meth c ad H locs ls Q C K1 K2 => lv_icmp_gt C.1 C.2.1 hd ht (fun q => K1 ((i_lt hb ha).mp q)) (fun q => K2 (fun z => q ((i_lt hb ha).mpr z)))) kt (fun q => kf (Int.not_lt.mp q))
theorem r_icmp_le {a b : Int} (hd : decode y.2.1 pc = .ok (.if_icmp .le off, 3)) (ht : (pc : Int) + off = (tgt : Int)) (ha : iR a) (hb : iR b) (kt : a ≤ b → jR d y Po tgt lv st σ) (kf : b < a → jR d y Po (pc + 3) lv st σ) : jR d y Po pc lv (vI b :: vI a :: st) σ :=
  jR.br (fun p l e s m args below meth c ad H locs ls Q C K1 K2 => lv_icmp_le C.1 C.2.1 hd ht (fun q => K1 ((i_le ha hb).mp q)) (fun q => K2 (fun z => q ((i_le ha hb).mpr z)))) kt (fun q => kf (Int.not_le.mp q))
theorem r_if_eq {a : Int} (hd : decode y.2.1 pc = .ok (.ifCond .eq off, 3)) (ht : (pc : Int) + off = (tgt : Int)) (ha : iR a) (kt : a = 0 → jR d y Po tgt lv st σ) (kf : ¬ a = 0 → jR d y Po (pc + 3) lv st σ) : jR d y Po pc lv (vI a :: st) σ :=
  jR.br (fun p l e s m args below meth c ad H locs ls Q C K1 K2 => lv_if_eq C.1 C.2.1 hd ht (fun q => K1 ((i_eq ha iR0).mp (by rw [← i_z]; exact q))) (fun q => K2 (fun z => q (by rw [i_z]; exact (i_eq ha iR0).mpr z)))) kt kf
theorem r_if_ne {a : Int} (hd : decode y.2.1 pc = .ok (.ifCond .ne off, 3)) (ht : (pc : Int) + off = (tgt : Int)) (ha : iR a) (kt : ¬ a = 0 → jR d y Po tgt lv st σ) (kf : a = 0 → jR d y Po (pc + 3) lv st σ) : jR d y Po pc lv (vI a :: st) σ :=
  jR.br (P := ¬ a = 0) (fun p l e s m args below meth c ad H locs ls Q C K1 K2 => lv_if_ne C.1 C.2.1 hd ht (fun q => K1 (fun z => q (by rw [i_z]; exact (i_eq ha iR0).mpr z))) (fun q => K2 (fun z => z ((i_eq ha iR0).mp (by rw [← i_z]; exact q))))) kt (fun q => kf (Classical.not_not.mp q))
theorem r_if_lt {a : Int} (hd : decode y.2.1 pc = .ok (.ifCond .lt off, 3)) (ht : (pc : Int) + off = (tgt : Int)) (ha : iR a) (kt : a < 0 → jR d y Po tgt lv st σ) (kf : 0 ≤ a → jR d y Po (pc + 3) lv st σ) : jR d y Po pc lv (vI a :: st) σ :=
  jR.br (fun p l e s m args below meth c ad H locs ls Q C K1 K2 => lv_if_lt C.1 C.2.1 hd ht (fun q => K1 ((i_lt ha iR0).mp (by rw [← i_z]; exact q))) (fun q => K2 (fun z => q (by rw [i_z]; exact (i_lt ha iR0).mpr z)))) kt (fun q => kf (Int.not_lt.mp q))
theorem r_if_ge {a : Int} (hd : decode y.2.1 pc = .ok (.ifCond .ge off, 3)) (ht : (pc : Int) + off = (tgt : Int)) (ha : iR a) (kt : 0 ≤ a → jR d y Po tgt lv st σ) (kf : a < 0 → jR d y Po (pc + 3) lv st σ) : jR d y Po pc lv (vI a :: st) σ :=
  jR.br (fun p l e s m args below meth c ad H locs ls Q C K1 K2 => lv_if_ge C.1 C.2.1 hd ht (fun q => K1 ((i_le iR0 ha).mp (by rw [← i_z]; exact q))) (fun q => K2 (fun z => q (by rw [i_z]; exact (i_le iR0 ha).mpr z)))) kt (fun q => kf (Int.not_le.mp q))
theorem r_if_gt {a : Int} (hd : decode y.2.1 pc = .ok (.ifCond .gt off, 3)) (ht : (pc : Int) + off = (tgt : Int)) (ha : iR a) (kt : 0 < a → jR d y Po tgt lv st σ) (kf : a ≤ 0 → jR d y Po (pc + 3) lv st σ) : jR d y Po pc lv (vI a :: st) σ :=
  jR.br (fun p l e s m args below meth c ad H locs ls Q C K1 K2 => lv_if_gt C.1 C.2.1 hd ht (fun q => K1 ((i_lt iR0 ha).mp (by rw [← i_z]; exact q))) (fun q => K2 (fun z => q (by rw [i_z]; exact (i_lt iR0 ha).mpr z)))) kt (fun q => kf (Int.not_lt.mp q))
theorem r_if_le {a : Int} (hd : decode y.2.1 pc = .ok (.ifCond .le off, 3)) (ht : (pc : Int) + off = (tgt : Int)) (ha : iR a) (kt : a ≤ 0 → jR d y Po tgt lv st σ) (kf : 0 < a → jR d y Po (pc + 3) lv st σ) : jR d y Po pc lv (vI a :: st) σ :=
  jR.br (fun p l e s m args below meth c ad H locs ls Q C K1 K2 => lv_if_le C.1 C.2.1 hd ht (fun q => K1 ((i_le ha iR0).mp (by rw [← i_z]; exact q))) (fun q => K2 (fun z => q (by rw [i_z]; exact (i_le ha iR0).mpr z)))) kt (fun q => kf (Int.not_le.mp q))
/-- quotient and rest: of a dividend that isn't negative, and in general -/
theorem i_div {a b : Int} (ha : iR a) (hb : iR b) (hm : ¬ a = -2147483648) : Int32.ofInt a / Int32.ofInt b = Int32.ofInt (a.tdiv b) := by
  rw [← Int32.toInt_inj, Int32.toInt_div_of_ne_left _ _ (fun h => hm ?_), i_of ha, i_of hb]
  · have h1 : (a.tdiv b).natAbs ≤ a.natAbs := Int.natAbs_tdiv_le_natAbs a b
    rw [i_of]
    have := ha.1; have := ha.2
    constructor <;> omega
  · have := congrArg Int32.toInt h
    rw [i_of ha] at this
    exact this
theorem r_idiv {a b : Int} (hd : decode y.2.1 pc = .ok (.idiv, 1)) (ha : iR a ∧ ¬ a = -2147483648) (hb : iR b ∧ ¬ b = 0) (k : jR d y Po (pc + 1) lv (vI (a.tdiv b) :: st) σ) : jR d y Po pc lv (vI b :: vI a :: st) σ :=
  jR.go (fun p l e s m args below meth c ad H locs ls Q C h K => lv_idiv C.1 C.2.1 hd (fun z => hb.2 ((i_eq hb.1 iR0).mp (by rw [← i_z]; exact z))) (by rw [i_div ha.1 hb.1 ha.2]; exact K)) k
theorem r_irem {a b : Int} (hd : decode y.2.1 pc = .ok (.irem, 1)) (ha : iR a ∧ ¬ a = -2147483648) (hb : iR b ∧ ¬ b = 0) (k : jR d y Po (pc + 1) lv (vI (a.tmod b) :: st) σ) : jR d y Po pc lv (vI b :: vI a :: st) σ :=
  jR.go (fun p l e s m args below meth c ad H locs ls Q C h K => lv_irem C.1 C.2.1 hd (fun z => hb.2 ((i_eq hb.1 iR0).mp (by rw [← i_z]; exact z))) (by rw [i_div ha.1 hb.1 ha.2, ← Int32.ofInt_mul, ← Int32.ofInt_sub, show a - a.tdiv b * b = a.tmod b by have := Int.tdiv_mul_add_tmod a b; omega]; exact K)) k
theorem r_idivn {a b : Int} (hd : decode y.2.1 pc = .ok (.idiv, 1)) (ha : 0 ≤ a ∧ a ≤ 2147483647) (hb : 0 < b ∧ b ≤ 2147483647) (k : jR d y Po (pc + 1) lv (vI (a / b) :: st) σ) : jR d y Po pc lv (vI b :: vI a :: st) σ :=
  r_idiv hd ⟨⟨by omega, by omega⟩, by omega⟩ ⟨⟨by omega, by omega⟩, by omega⟩ (by rw [Int.tdiv_eq_ediv_of_nonneg ha.1]; exact k)
theorem r_iremn {a b : Int} (hd : decode y.2.1 pc = .ok (.irem, 1)) (ha : 0 ≤ a ∧ a ≤ 2147483647) (hb : 0 < b ∧ b ≤ 2147483647) (k : jR d y Po (pc + 1) lv (vI (a % b) :: st) σ) : jR d y Po pc lv (vI b :: vI a :: st) σ :=
  r_irem hd ⟨⟨by omega, by omega⟩, by omega⟩ ⟨⟨by omega, by omega⟩, by omega⟩ (by rw [Int.tmod_eq_emod_of_nonneg ha.1]; exact k)
/-- bits: the number of what the machine makes -/
theorem vI_of (x : Int32) : vI x.toInt = .int x := by unfold vI; rw [Int32.ofInt_toInt]
theorem vL_of (x : Int64) : vL x.toInt = .long x := by unfold vL; rw [Int64.ofInt_toInt]
def iAnd (a b : Int) : Int := (Int32.ofInt a &&& Int32.ofInt b).toInt
def iOr (a b : Int) : Int := (Int32.ofInt a ||| Int32.ofInt b).toInt
def iXor (a b : Int) : Int := (Int32.ofInt a ^^^ Int32.ofInt b).toInt
def iShl (a b : Int) : Int := (Int32.ofInt a <<< (Int32.ofInt b &&& 31)).toInt
def iShr (a b : Int) : Int := (Int32.ofInt a >>> (Int32.ofInt b &&& 31)).toInt
def iUshr (a b : Int) : Int := ((Int32.ofInt a).toUInt32 >>> ((Int32.ofInt b).toUInt32 &&& Int32.toUInt32 31)).toInt32.toInt
def lAnd (a b : Int) : Int := (Int64.ofInt a &&& Int64.ofInt b).toInt
def lOr (a b : Int) : Int := (Int64.ofInt a ||| Int64.ofInt b).toInt
def lXor (a b : Int) : Int := (Int64.ofInt a ^^^ Int64.ofInt b).toInt
def lShl (a b : Int) : Int := (Int64.ofInt a <<< ((Int32.ofInt b).toInt64 &&& 63)).toInt
def lShr (a b : Int) : Int := (Int64.ofInt a >>> ((Int32.ofInt b).toInt64 &&& 63)).toInt
theorem r_iand {a b : Int} (hd : decode y.2.1 pc = .ok (.iand, 1)) (k : jR d y Po (pc + 1) lv (vI (iAnd a b) :: st) σ) : jR d y Po pc lv (vI b :: vI a :: st) σ :=
  jR.go (fun p l e s m args below meth c ad H locs ls Q C h K => lv_iand C.1 C.2.1 hd (by rw [iAnd, vI_of] at K; exact K)) k
theorem r_ior {a b : Int} (hd : decode y.2.1 pc = .ok (.ior, 1)) (k : jR d y Po (pc + 1) lv (vI (iOr a b) :: st) σ) : jR d y Po pc lv (vI b :: vI a :: st) σ :=
  jR.go (fun p l e s m args below meth c ad H locs ls Q C h K => lv_ior C.1 C.2.1 hd (by rw [iOr, vI_of] at K; exact K)) k
theorem r_ixor {a b : Int} (hd : decode y.2.1 pc = .ok (.ixor, 1)) (k : jR d y Po (pc + 1) lv (vI (iXor a b) :: st) σ) : jR d y Po pc lv (vI b :: vI a :: st) σ :=
  jR.go (fun p l e s m args below meth c ad H locs ls Q C h K => lv_ixor C.1 C.2.1 hd (by rw [iXor, vI_of] at K; exact K)) k
theorem r_ishl {a b : Int} (hd : decode y.2.1 pc = .ok (.ishl, 1)) (k : jR d y Po (pc + 1) lv (vI (iShl a b) :: st) σ) : jR d y Po pc lv (vI b :: vI a :: st) σ :=
  jR.go (fun p l e s m args below meth c ad H locs ls Q C h K => lv_ishl C.1 C.2.1 hd (by rw [iShl, vI_of] at K; exact K)) k
theorem r_ishr {a b : Int} (hd : decode y.2.1 pc = .ok (.ishr, 1)) (k : jR d y Po (pc + 1) lv (vI (iShr a b) :: st) σ) : jR d y Po pc lv (vI b :: vI a :: st) σ :=
  jR.go (fun p l e s m args below meth c ad H locs ls Q C h K => lv_ishr C.1 C.2.1 hd (by rw [iShr, vI_of] at K; exact K)) k
theorem r_iushr {a b : Int} (hd : decode y.2.1 pc = .ok (.iushr, 1)) (k : jR d y Po (pc + 1) lv (vI (iUshr a b) :: st) σ) : jR d y Po pc lv (vI b :: vI a :: st) σ :=
  jR.go (fun p l e s m args below meth c ad H locs ls Q C h K => lv_iushr C.1 C.2.1 hd rfl (by rw [iUshr, vI_of] at K; exact K)) k
theorem r_land {a b : Int} (hd : decode y.2.1 pc = .ok (.land, 1)) (k : jR d y Po (pc + 1) lv (vL (lAnd a b) :: st) σ) : jR d y Po pc lv (vL b :: vL a :: st) σ :=
  jR.go (fun p l e s m args below meth c ad H locs ls Q C h K => lv_land C.1 C.2.1 hd (by rw [lAnd, vL_of] at K; exact K)) k
theorem r_lor {a b : Int} (hd : decode y.2.1 pc = .ok (.lor, 1)) (k : jR d y Po (pc + 1) lv (vL (lOr a b) :: st) σ) : jR d y Po pc lv (vL b :: vL a :: st) σ :=
  jR.go (fun p l e s m args below meth c ad H locs ls Q C h K => lv_lor C.1 C.2.1 hd (by rw [lOr, vL_of] at K; exact K)) k
theorem r_lxor {a b : Int} (hd : decode y.2.1 pc = .ok (.lxor, 1)) (k : jR d y Po (pc + 1) lv (vL (lXor a b) :: st) σ) : jR d y Po pc lv (vL b :: vL a :: st) σ :=
  jR.go (fun p l e s m args below meth c ad H locs ls Q C h K => lv_lxor C.1 C.2.1 hd (by rw [lXor, vL_of] at K; exact K)) k
theorem r_lshl {a b : Int} (hd : decode y.2.1 pc = .ok (.lshl, 1)) (k : jR d y Po (pc + 1) lv (vL (lShl a b) :: st) σ) : jR d y Po pc lv (vI b :: vL a :: st) σ :=
  jR.go (fun p l e s m args below meth c ad H locs ls Q C h K => lv_lshl C.1 C.2.1 hd rfl (by rw [lShl, vL_of] at K; exact K)) k
theorem r_lshr {a b : Int} (hd : decode y.2.1 pc = .ok (.lshr, 1)) (k : jR d y Po (pc + 1) lv (vL (lShr a b) :: st) σ) : jR d y Po pc lv (vI b :: vL a :: st) σ :=
  jR.go (fun p l e s m args below meth c ad H locs ls Q C h K => lv_lshr C.1 C.2.1 hd rfl (by rw [lShr, vL_of] at K; exact K)) k
theorem r_i2l {a : Int} (hd : decode y.2.1 pc = .ok (.i2l, 1)) (ha : iR a) (k : jR d y Po (pc + 1) lv (vL a :: st) σ) : jR d y Po pc lv (vI a :: st) σ :=
  jR.go (fun p l e s m args below meth c ad H locs ls Q C h K => lv_i2l (v := Int64.ofInt a) C.1 C.2.1 hd (Int32.toInt64_ofInt (by have := ha.1; show (-2147483648 : Int) ≤ a; omega) (by have := ha.2; show a ≤ (2147483647 : Int); omega)) K) k
theorem r_l2i {a : Int} (hd : decode y.2.1 pc = .ok (.l2i, 1)) (k : jR d y Po (pc + 1) lv (vI a :: st) σ) : jR d y Po pc lv (vL a :: st) σ :=
  jR.go (fun p l e s m args below meth c ad H locs ls Q C h K => lv_l2i (v := Int32.ofInt a) C.1 C.2.1 hd Int64.toInt32_ofInt K) k
theorem i2b_eq (a : Int) : (Int32.ofInt a).toInt8.toInt32 = Int32.ofInt (a.bmod 256) := by
  rw [← Int32.toInt_inj, Int8.toInt_toInt32, Int32.toInt8_ofInt, Int8.toInt_ofInt]
  have h1 : (Int8.size : Nat) = 256 := rfl
  rw [h1, i_of]
  have := Int.bmod_lt (x := a) (m := 256) (by decide)
  have := Int.le_bmod (x := a) (m := 256) (by decide)
  constructor <;> omega
theorem r_i2b {a : Int} (hd : decode y.2.1 pc = .ok (.i2b, 1)) (k : jR d y Po (pc + 1) lv (vI (a.bmod 256) :: st) σ) : jR d y Po pc lv (vI a :: st) σ :=
  jR.go (fun p l e s m args below meth c ad H locs ls Q C h K => lv_i2b (v := Int32.ofInt (a.bmod 256)) C.1 C.2.1 hd (i2b_eq a) K) k
/-- a long compare: -1, 0, 1 -/
def jcmp (a b : Int) : Int := if a < b then -1 else if a = b then 0 else 1
theorem r_lcmp {a b : Int} (hd : decode y.2.1 pc = .ok (.lcmp, 1)) (ha : lR a) (hb : lR b) (k : jR d y Po (pc + 1) lv (vI (jcmp a b) :: st) σ) : jR d y Po pc lv (vL b :: vL a :: st) σ :=
  jR.go (fun p l e s m args below meth c ad H locs ls Q C h K => W.lcmp C.1 C.2.1 hd (by
    have e1 : lg_cmp (Int64.ofInt a) (Int64.ofInt b) = Int32.ofInt (jcmp a b) := by
      have m1 : (-1 : Int32) = Int32.ofInt (-1) := by decide
      have m0 : (0 : Int32) = Int32.ofInt 0 := by decide
      have m2 : (1 : Int32) = Int32.ofInt 1 := by decide
      unfold lg_cmp jcmp
      have h2 := l_lt hb ha
      have h3 := l_eq ha hb
      by_cases q1 : b < a
      · rw [if_pos (h2.mpr q1), if_neg (show ¬ a < b by omega), if_neg (show ¬ a = b by omega), m2]
      · rw [if_neg (fun z => q1 (h2.mp z))]
        by_cases q2 : a = b
        · rw [if_pos (h3.mpr q2), if_neg (show ¬ a < b by omega), if_pos q2, m0]
        · rw [if_neg (fun z => q2 (h3.mp z)), if_pos (show a < b by omega), m1]
    rw [e1]; exact K)) k
theorem r_dup {v : Value} (hd : decode y.2.1 pc = .ok (.dup, 1)) (hv : v.category = 1) (k : jR d y Po (pc + 1) lv (v :: v :: st) σ) : jR d y Po pc lv (v :: st) σ :=
  jR.go (fun p l e s m args below meth c ad H locs ls Q C h K => lv_dup C.1 C.2.1 hd (by rw [jv_cat]; exact hv) K) k
theorem r_pop {v : Value} (hd : decode y.2.1 pc = .ok (.pop, 1)) (hv : v.category = 1) (k : jR d y Po (pc + 1) lv st σ) : jR d y Po pc lv (v :: st) σ :=
  jR.go (fun p l e s m args below meth c ad H locs ls Q C h K => lv_pop C.1 C.2.1 hd (by rw [jv_cat]; exact hv) K) k
theorem r_dup2 {v w : Value} (hd : decode y.2.1 pc = .ok (.dup2, 1)) (hv : v.category = 1 ∧ w.category = 1) (k : jR d y Po (pc + 1) lv (v :: w :: v :: w :: st) σ) : jR d y Po pc lv (v :: w :: st) σ :=
  jR.go (fun p l e s m args below meth c ad H locs ls Q C h K => lv_dup2_11 C.1 C.2.1 hd (by rw [jv_cat]; exact hv.1) (by rw [jv_cat]; exact hv.2) K) k
end JR2
