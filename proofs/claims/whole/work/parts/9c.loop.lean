/-! ===== the law's loop ===== -/
section LO
variable {p : Program} {l : Launch} {e : Env} {s : State} {m : MethodId} {below : List Frame} {meth : Method} {c : Code} {b L : Nat} {xs : Nat → Int32} {ad : Nat → Nat} {D : va_G} {cA : Nat → ClassId} {pc : Nat} {lv : List (Nat × Value)} {st : List Value} {σ : jS} {cells slots : Nat}
theorem l_iload4 {i : Int} (C : lC p s m meth c b L xs ad D cA) (hd : decode code pc = .ok (.iload 4, 2)) (k : lwR p l e s m below meth c b ad D cA (pc + 2) (lvL b ad i) (vI i :: st) σ cells slots) : lwR p l e s m below meth c b ad D cA pc (lvL b ad i) st σ cells slots :=
  lwR.go (fun H locs ls _ h K => lv_iload C.1.1 C.1.2.1 hd (lv_at h 4 rfl) K) k
theorem l_slen (C : lC p s m meth c b L xs ad D cA) (hd : decode code pc = .ok (.arraylength, 1)) (k : lwR p l e s m below meth c b ad D cA (pc + 1) lv (vI L :: st) σ cells slots) : lwR p l e s m below meth c b ad D cA pc lv (.ref b :: st) σ cells slots :=
  lwR.go (fun H locs ls hS h K => va_slen (A := fun q : Nat => s.heap.size ≤ q) C.1.1 C.1.2.1 C.1.2.2.2.2.2.2.1 C.1.2.2.2.2.2.2.2.1 (Nat.not_le.mpr C.1.2.2.2.2.2.2.2.1) hS hd (by
    have e : Int32.ofInt (L : Int) = Int32.ofNat L := by first | exact Int32.ofInt_eq_ofNat | exact Int32.toBitVec_inj.mp (BitVec.ofInt_natCast 32 L) | rfl
    unfold vI at K
    rw [e] at K
    exact K)) k
theorem l_bipush {n : Int} (C : lC p s m meth c b L xs ad D cA) (hd : decode code pc = .ok (.bipush n, 2)) (hn : (Int8.ofInt n).toInt32 = Int32.ofInt n) (k : lwR p l e s m below meth c b ad D cA (pc + 2) lv (vI n :: st) σ cells slots) : lwR p l e s m below meth c b ad D cA pc lv st σ cells slots :=
  lwR.go (fun H locs ls _ h K => lv_bipush C.1.1 C.1.2.1 hd hn K) k
theorem l_isub {a z : Int} (C : lC p s m meth c b L xs ad D cA) (hd : decode code pc = .ok (.isub, 1)) (k : lwR p l e s m below meth c b ad D cA (pc + 1) lv (vI (a - z) :: st) σ cells slots) : lwR p l e s m below meth c b ad D cA pc lv (vI z :: vI a :: st) σ cells slots :=
  lwR.go (fun H locs ls _ h K => lv_isub C.1.1 C.1.2.1 hd (by rw [← Int32.ofInt_sub]; exact K)) k
theorem l_iand {a z : Int} (C : lC p s m meth c b L xs ad D cA) (hd : decode code pc = .ok (.iand, 1)) (k : lwR p l e s m below meth c b ad D cA (pc + 1) lv (vI (iAnd a z) :: st) σ cells slots) : lwR p l e s m below meth c b ad D cA pc lv (vI z :: vI a :: st) σ cells slots :=
  lwR.go (fun H locs ls _ h K => lv_iand C.1.1 C.1.2.1 hd (by rw [iAnd, vI_of] at K; exact K)) k
theorem l_gt {a z off : Int} {tgt : Nat} (C : lC p s m meth c b L xs ad D cA) (hd : decode code pc = .ok (.if_icmp .gt off, 3)) (ht : (pc : Int) + off = (tgt : Int)) (ha : iR a) (hz : iR z) (kt : z < a → lwR p l e s m below meth c b ad D cA tgt lv st σ cells slots) (kf : a ≤ z → lwR p l e s m below meth c b ad D cA (pc + 3) lv st σ cells slots) : lwR p l e s m below meth c b ad D cA pc lv (vI z :: vI a :: st) σ cells slots :=
  fun H locs ls Wd h => lv_icmp_gt C.1.1 C.1.2.1 hd ht (fun q => kt ((i_lt hz ha).mp q) H locs ls Wd h) (fun q => kf (Int.not_lt.mp (fun z => q ((i_lt hz ha).mpr z))) H locs ls Wd h)
theorem l_in {dflt lo hi off : Int} {offs : Array Int} {len tgt : Nat} {z : Int} (C : lC p s m meth c b L xs ad D cA) (hd : decode code pc = .ok (.tableswitch dflt lo hi offs, len)) (hz : iR z) (h1 : lo ≤ z) (h2 : z ≤ hi) (ho : offs[(z - lo).toNat]? = some off) (ht : (pc : Int) + off = (tgt : Int)) (k : lwR p l e s m below meth c b ad D cA tgt lv st σ cells slots) : lwR p l e s m below meth c b ad D cA pc lv (vI z :: st) σ cells slots :=
  lwR.go (fun H locs ls _ h K => lv_tableIn C.1.1 C.1.2.1 hd (by rw [i_of hz]; omega) (by rw [i_of hz]; omega) (by rw [i_of hz]; exact ho) ht K) k
theorem l_out {dflt lo hi : Int} {offs : Array Int} {len tgt : Nat} {z : Int} (C : lC p s m meth c b L xs ad D cA) (hd : decode code pc = .ok (.tableswitch dflt lo hi offs, len)) (hz : iR z) (h1 : z < lo ∨ hi < z) (ht : (pc : Int) + dflt = (tgt : Int)) (k : lwR p l e s m below meth c b ad D cA tgt lv st σ cells slots) : lwR p l e s m below meth c b ad D cA pc lv (vI z :: st) σ cells slots :=
  lwR.go (fun H locs ls _ h K => lv_tableOut C.1.1 C.1.2.1 hd (by rw [i_of hz]; exact h1) ht K) k
/-- the case that may throw -/
def lBand (p : Program) (l : Launch) (e : Env) (s : State) (m : MethodId) (below : List Frame) (meth : Method) (c : Code) (b L : Nat) (ad : Nat → Nat) (D : va_G) (cA : Nat → ClassId) : Prop :=
  ∀ (i : Int) (σ : jS) (cells slots : Nat), 0 ≤ i → i + 6 ≤ L → Inv σ → cells ≤ 150 + i.toNat → slots ≤ 102000 + i.toNat → (∀ (τ : jS) (c2 s2 : Nat), c2 ≤ cells + 1 → s2 ≤ slots + 6 → Inv τ → lwR p l e s m below meth c b ad D cA 1485 (lvL b ad i) [] τ c2 s2) → lwR p l e s m below meth c b ad D cA 386 (lvL b ad i) [] σ cells slots
theorem law_loop (C : lC p s m meth c b L xs ad D cA) (hB : lBand p l e s m below meth c b L ad D cA) : ∀ (n : Nat) (i : Int) (σ : jS) (cells slots : Nat), (L - i).toNat < n → 0 ≤ i → i ≤ L + 6 → Inv σ → cells ≤ 150 + i.toNat → slots ≤ 102000 + i.toNat → lwR p l e s m below meth c b ad D cA 23 (lvL b ad i) [] σ cells slots := by
  intro n
  induction n with
  | zero => intro i σ cells slots h; omega
  | succ n ih =>
    intro i σ cells slots hn i0 iL hI hc hs
    have hL := C.2.2
    refine l_iload4 C (dc dkL0 13 rfl) (lp 25 rfl ?_)
    refine l_aload C (dc dkL0 14 rfl) rfl (lp 26 rfl ?_)
    refine l_slen C (dc dkL0 15 rfl) (lp 27 rfl ?_)
    refine l_bipush C (dc dkL0 16 rfl) (by decide) (lp 29 rfl ?_)
    refine l_isub C (dc dkL0 17 rfl) (lp 30 rfl ?_)
    refine l_gt (tgt := 1491) C (dc dkL0 18 rfl) (by decide) (by unfold iR; omega) (by unfold iR; omega) (fun h => ?_) (fun h => ?_)
    · -- the end
      intro H locs ls Wd hl
      refine lv_iconst (v := 1) C.1.1 C.1.2.1 (dc dkL15 9 rfl) (by decide) ?_
      refine va_forget (fun q hq => Wd.2.2.2.2 q hq) ?_
      refine W.widen (k := 601024) (n := 7293034) (by omega) (by omega) ?_
      exact lw_ret C.1.1 C.1.2.1 C.1.2.2.1 C.1.2.2.2.2.2.2.2.2.1 (dc dkL15 10 rfl)
    refine lp 33 rfl ?_
    have hi : 0 ≤ i ∧ i + 6 ≤ L := ⟨i0, by omega⟩
    refine l_aload C (dc dkL0 19 rfl) rfl (lp 34 rfl ?_)
    refine l_iload4 C (dc dkL0 20 rfl) (lp 36 rfl ?_)
    refine l_sld C ⟨i0, by omega⟩ (dc dkL0 21 rfl) (lp 37 rfl ?_)
    refine l_bipush C (dc dkL0 22 rfl) (by decide) (lp 39 rfl ?_)
    refine l_iand C (dc dkL0 23 rfl) (lp 40 rfl ?_)
    have z63 := and63L (sc xs i)
    generalize iAnd (sc xs i) 63 = z at z63 ⊢
    have hz : iR z := by unfold iR; omega
    have back : ∀ (τ : jS) (c2 s2 : Nat), c2 ≤ cells + 1 → s2 ≤ slots + 6 → Inv τ → lwR p l e s m below meth c b ad D cA 1485 (lvL b ad i) [] τ c2 s2 := by
      intro τ c2 s2 h1 h2 hτ H locs ls Wd hl
      refine lv_iinc (k := 4) (x := Int32.ofInt i) (v := Int32.ofInt (i + 6)) (lv' := [(4, vI (i + 6)), (0, .ref b), (1, .ref (ad 0)), (2, .ref (ad 111)), (3, .ref (ad 139))]) C.1.1 C.1.2.1 (dc dkL15 7 rfl) hl rfl (by rw [Int32.ofInt_add]) (by decide) rfl (fun ls hl => ?_)
      refine lv_goto (tgt := 23) C.1.1 C.1.2.1 (dc dkL15 8 rfl) (by decide) ?_
      exact ih (i + 6) τ c2 s2 (by omega) (by omega) (by omega) hτ (by omega) (by omega) H locs ls Wd (lv_sub hl [1, 2, 3, 4, 0] rfl)
    by_cases h0 : z = 0
    · refine l_in (tgt := 224) (off := 184) C (dc dkL0 24 rfl) hz (by omega) (by omega) (by rw [h0]; rfl) (by decide) ?_
      exact lc_feed C (by omega) hI (by show cells ≤ 601024; omega) (by show slots ≤ 7293034; omega) (fun τ hτ => back τ cells slots (by omega) (by omega) hτ)
    by_cases h1 : z = 1
    · refine l_in (tgt := 297) (off := 257) C (dc dkL0 24 rfl) hz (by omega) (by omega) (by rw [h1]; rfl) (by decide) ?_
      exact lc_end C (by omega) hI (by show cells ≤ 601024; omega) (by show slots ≤ 7293034; omega) (fun τ hτ => back τ cells slots (by omega) (by omega) hτ)
    by_cases h2 : z = 2
    · refine l_in (tgt := 322) (off := 282) C (dc dkL0 24 rfl) hz (by omega) (by omega) (by rw [h2]; rfl) (by decide) ?_
      exact lc_board C (by omega) hI (by show cells ≤ 601024; omega) (by show slots ≤ 7293034; omega) (fun τ hτ => back τ cells slots (by omega) (by omega) hτ)
    by_cases h3 : z = 3
    · refine l_in (tgt := 335) (off := 295) C (dc dkL0 24 rfl) hz (by omega) (by omega) (by rw [h3]; rfl) (by decide) ?_
      exact lc_fault C (by omega) hI (by show cells ≤ 601024; omega) (by show slots ≤ 7293034; omega) (fun τ hτ => back τ cells slots (by omega) (by omega) hτ)
    by_cases h4 : z = 4
    · refine l_in (tgt := 348) (off := 308) C (dc dkL0 24 rfl) hz (by omega) (by omega) (by rw [h4]; rfl) (by decide) ?_
      exact lc_why C (by omega) hI (by show cells ≤ 601024; omega) (by show slots ≤ 7293034; omega) (fun τ hτ => back τ cells slots (by omega) (by omega) hτ)
    by_cases h5 : z = 5
    · refine l_in (tgt := 361) (off := 321) C (dc dkL0 24 rfl) hz (by omega) (by omega) (by rw [h5]; rfl) (by decide) ?_
      exact lc_peg C (by omega) hI (by show cells ≤ 601024; omega) (by show slots ≤ 7293034; omega) (fun τ hτ => back τ cells slots (by omega) (by omega) hτ)
    by_cases h6 : z = 6
    · refine l_in (tgt := 386) (off := 346) C (dc dkL0 24 rfl) hz (by omega) (by omega) (by rw [h6]; rfl) (by decide) ?_
      exact hB i σ cells slots hi.1 (by omega) hI hc hs (fun τ c2 s2 h1 h2 hτ => back τ c2 s2 (by omega) (by omega) hτ)
    by_cases h7 : z = 7
    · refine l_in (tgt := 454) (off := 414) C (dc dkL0 24 rfl) hz (by omega) (by omega) (by rw [h7]; rfl) (by decide) ?_
      exact lc_corner C (by omega) hI (by show cells ≤ 601024; omega) (by show slots ≤ 7293034; omega) (fun τ hτ => back τ cells slots (by omega) (by omega) hτ)
    by_cases h8 : z = 8
    · refine l_in (tgt := 491) (off := 451) C (dc dkL0 24 rfl) hz (by omega) (by omega) (by rw [h8]; rfl) (by decide) ?_
      exact lc_side C (by omega) hI (by show cells ≤ 601024; omega) (by show slots ≤ 7293034; omega) (fun τ hτ => back τ cells slots (by omega) (by omega) hτ)
    by_cases h9 : z = 9
    · refine l_in (tgt := 528) (off := 488) C (dc dkL0 24 rfl) hz (by omega) (by omega) (by rw [h9]; rfl) (by decide) ?_
      exact lc_over C (by omega) hI (by show cells ≤ 601024; omega) (by show slots ≤ 7293034; omega) (fun τ hτ => back τ cells slots (by omega) (by omega) hτ)
    by_cases h10 : z = 10
    · refine l_in (tgt := 565) (off := 525) C (dc dkL0 24 rfl) hz (by omega) (by omega) (by rw [h10]; rfl) (by decide) ?_
      exact lc_cross C (by omega) hI (by show cells ≤ 601024; omega) (by show slots ≤ 7293034; omega) (fun τ hτ => back τ cells slots (by omega) (by omega) hτ)
    by_cases h11 : z = 11
    · refine l_in (tgt := 614) (off := 574) C (dc dkL0 24 rfl) hz (by omega) (by omega) (by rw [h11]; rfl) (by decide) ?_
      exact lc_in C (by omega) hI (by show cells ≤ 601024; omega) (by show slots ≤ 7293034; omega) (fun τ hτ => back τ cells slots (by omega) (by omega) hτ)
    by_cases h12 : z = 12
    · refine l_in (tgt := 651) (off := 611) C (dc dkL0 24 rfl) hz (by omega) (by omega) (by rw [h12]; rfl) (by decide) ?_
      exact lc_alike C (by omega) hI (by show cells ≤ 601024; omega) (by show slots ≤ 7293034; omega) (fun τ hτ => back τ cells slots (by omega) (by omega) hτ)
    by_cases h13 : z = 13
    · refine l_in (tgt := 700) (off := 660) C (dc dkL0 24 rfl) hz (by omega) (by omega) (by rw [h13]; rfl) (by decide) ?_
      exact lc_form C (by omega) hI (by show cells ≤ 601024; omega) (by show slots ≤ 7293034; omega) (fun τ hτ => back τ cells slots (by omega) (by omega) hτ)
    by_cases h14 : z = 14
    · refine l_in (tgt := 737) (off := 697) C (dc dkL0 24 rfl) hz (by omega) (by omega) (by rw [h14]; rfl) (by decide) ?_
      exact lc_formAt C (by omega) hI (by show cells ≤ 601024; omega) (by show slots ≤ 7293034; omega) (fun τ hτ => back τ cells slots (by omega) (by omega) hτ)
    by_cases h15 : z = 15
    · refine l_in (tgt := 762) (off := 722) C (dc dkL0 24 rfl) hz (by omega) (by omega) (by rw [h15]; rfl) (by decide) ?_
      exact lc_move C (by omega) hI (by show cells ≤ 601024; omega) (by show slots ≤ 7293034; omega) (fun τ hτ => back τ cells slots (by omega) (by omega) hτ)
    by_cases h16 : z = 16
    · refine l_in (tgt := 811) (off := 771) C (dc dkL0 24 rfl) hz (by omega) (by omega) (by rw [h16]; rfl) (by decide) ?_
      exact lc_slide C (by omega) hI (by show cells ≤ 601024; omega) (by show slots ≤ 7293034; omega) (fun τ hτ => back τ cells slots (by omega) (by omega) hτ)
    by_cases h17 : z = 17
    · refine l_in (tgt := 860) (off := 820) C (dc dkL0 24 rfl) hz (by omega) (by omega) (by rw [h17]; rfl) (by decide) ?_
      exact lc_snap C (by omega) hI (by show cells ≤ 601024; omega) (by show slots ≤ 7293034; omega) (fun τ hτ => back τ cells slots (by omega) (by omega) hτ)
    by_cases h18 : z = 18
    · refine l_in (tgt := 885) (off := 845) C (dc dkL0 24 rfl) hz (by omega) (by omega) (by rw [h18]; rfl) (by decide) ?_
      exact lc_undo C (by omega) hI (by show cells ≤ 601024; omega) (by show slots ≤ 7293034; omega) (fun τ hτ => back τ cells slots (by omega) (by omega) hτ)
    by_cases h19 : z = 19
    · refine l_in (tgt := 898) (off := 858) C (dc dkL0 24 rfl) hz (by omega) (by omega) (by rw [h19]; rfl) (by decide) ?_
      exact lc_free C (by omega) hI (by show cells ≤ 601024; omega) (by show slots ≤ 7293034; omega) (fun τ hτ => back τ cells slots (by omega) (by omega) hτ)
    by_cases h20 : z = 20
    · refine l_in (tgt := 911) (off := 871) C (dc dkL0 24 rfl) hz (by omega) (by omega) (by rw [h20]; rfl) (by decide) ?_
      exact lc_rim C (by omega) hI (by show cells ≤ 601024; omega) (by show slots ≤ 7293034; omega) (fun τ hτ => back τ cells slots (by omega) (by omega) hτ)
    by_cases h21 : z = 21
    · refine l_in (tgt := 948) (off := 908) C (dc dkL0 24 rfl) hz (by omega) (by omega) (by rw [h21]; rfl) (by decide) ?_
      exact lc_even C (by omega) hI (by show cells ≤ 601024; omega) (by show slots ≤ 7293034; omega) (fun τ hτ => back τ cells slots (by omega) (by omega) hτ)
    by_cases h22 : z = 22
    · refine l_in (tgt := 985) (off := 945) C (dc dkL0 24 rfl) hz (by omega) (by omega) (by rw [h22]; rfl) (by decide) ?_
      exact lc_wide C (by omega) hI (by show cells ≤ 601024; omega) (by show slots ≤ 7293034; omega) (fun τ hτ => back τ cells slots (by omega) (by omega) hτ)
    by_cases h23 : z = 23
    · refine l_in (tgt := 1010) (off := 970) C (dc dkL0 24 rfl) hz (by omega) (by omega) (by rw [h23]; rfl) (by decide) ?_
      exact lc_calls C (by omega) hI (by show cells ≤ 601024; omega) (by show slots ≤ 7293034; omega) (fun τ hτ => back τ cells slots (by omega) (by omega) hτ)
    by_cases h24 : z = 24
    · refine l_in (tgt := 1023) (off := 983) C (dc dkL0 24 rfl) hz (by omega) (by omega) (by rw [h24]; rfl) (by decide) ?_
      exact lc_closes C (by omega) hI (by show cells ≤ 601024; omega) (by show slots ≤ 7293034; omega) (fun τ hτ => back τ cells slots (by omega) (by omega) hτ)
    by_cases h25 : z = 25
    · refine l_in (tgt := 1036) (off := 996) C (dc dkL0 24 rfl) hz (by omega) (by omega) (by rw [h25]; rfl) (by decide) ?_
      exact lc_mended C (by omega) hI (by show cells ≤ 601024; omega) (by show slots ≤ 7293034; omega) (fun τ hτ => back τ cells slots (by omega) (by omega) hτ)
    by_cases h26 : z = 26
    · refine l_in (tgt := 1061) (off := 1021) C (dc dkL0 24 rfl) hz (by omega) (by omega) (by rw [h26]; rfl) (by decide) ?_
      exact lc_lay C (by omega) hI (by show cells ≤ 601024; omega) (by show slots ≤ 7293034; omega) (fun τ hτ => back τ cells slots (by omega) (by omega) hτ)
    by_cases h27 : z = 27
    · refine l_in (tgt := 1074) (off := 1034) C (dc dkL0 24 rfl) hz (by omega) (by omega) (by rw [h27]; rfl) (by decide) ?_
      exact lc_write C (by omega) hI (by show cells ≤ 601024; omega) (by show slots ≤ 7293034; omega) (fun τ hτ => back τ cells slots (by omega) (by omega) hτ)
    by_cases h28 : z = 28
    · refine l_in (tgt := 1099) (off := 1059) C (dc dkL0 24 rfl) hz (by omega) (by omega) (by rw [h28]; rfl) (by decide) ?_
      exact lc_byteAt C (by omega) hI (by show cells ≤ 601024; omega) (by show slots ≤ 7293034; omega) (fun τ hτ => back τ cells slots (by omega) (by omega) hτ)
    by_cases h29 : z = 29
    · refine l_in (tgt := 1124) (off := 1084) C (dc dkL0 24 rfl) hz (by omega) (by omega) (by rw [h29]; rfl) (by decide) ?_
      exact lc_triangles C (by omega) hI (by show cells ≤ 601024; omega) (by show slots ≤ 7293034; omega) (fun τ hτ => back τ cells slots (by omega) (by omega) hτ)
    by_cases h30 : z = 30
    · refine l_in (tgt := 1173) (off := 1133) C (dc dkL0 24 rfl) hz (by omega) (by omega) (by rw [h30]; rfl) (by decide) ?_
      exact lc_smallest C (by omega) hI (by show cells ≤ 601024; omega) (by show slots ≤ 7293034; omega) (fun τ hτ => back τ cells slots (by omega) (by omega) hτ)
    by_cases h31 : z = 31
    · refine l_in (tgt := 1210) (off := 1170) C (dc dkL0 24 rfl) hz (by omega) (by omega) (by rw [h31]; rfl) (by decide) ?_
      exact lc_cuts C (by omega) hI (by show cells ≤ 601024; omega) (by show slots ≤ 7293034; omega) (fun τ hτ => back τ cells slots (by omega) (by omega) hτ)
    by_cases h32 : z = 32
    · refine l_in (tgt := 1247) (off := 1207) C (dc dkL0 24 rfl) hz (by omega) (by omega) (by rw [h32]; rfl) (by decide) ?_
      exact lc_moved C (by omega) hI (by show cells ≤ 601024; omega) (by show slots ≤ 7293034; omega) (fun τ hτ => back τ cells slots (by omega) (by omega) hτ)
    by_cases h33 : z = 33
    · refine l_in (tgt := 1284) (off := 1244) C (dc dkL0 24 rfl) hz (by omega) (by omega) (by rw [h33]; rfl) (by decide) ?_
      exact lc_line C (by omega) hI (by show cells ≤ 601024; omega) (by show slots ≤ 7293034; omega) (fun τ hτ => back τ cells slots (by omega) (by omega) hτ)
    by_cases h34 : z = 34
    · refine l_in (tgt := 1321) (off := 1281) C (dc dkL0 24 rfl) hz (by omega) (by omega) (by rw [h34]; rfl) (by decide) ?_
      exact lc_lines C (by omega) hI (by show cells ≤ 601024; omega) (by show slots ≤ 7293034; omega) (fun τ hτ => back τ cells slots (by omega) (by omega) hτ)
    by_cases h35 : z = 35
    · refine l_in (tgt := 1346) (off := 1306) C (dc dkL0 24 rfl) hz (by omega) (by omega) (by rw [h35]; rfl) (by decide) ?_
      exact lc_wins C (by omega) hI (by show cells ≤ 601024; omega) (by show slots ≤ 7293034; omega) (fun τ hτ => back τ cells slots (by omega) (by omega) hτ)
    by_cases h36 : z = 36
    · refine l_in (tgt := 1359) (off := 1319) C (dc dkL0 24 rfl) hz (by omega) (by omega) (by rw [h36]; rfl) (by decide) ?_
      exact lc_again C (by omega) hI (by show cells ≤ 601024; omega) (by show slots ≤ 7293034; omega) (fun τ hτ => back τ cells slots (by omega) (by omega) hτ)
    by_cases h37 : z = 37
    · refine l_in (tgt := 1372) (off := 1332) C (dc dkL0 24 rfl) hz (by omega) (by omega) (by rw [h37]; rfl) (by decide) ?_
      exact lc_sentence C (by omega) hI (by show cells ≤ 601024; omega) (by show slots ≤ 7293034; omega) (fun τ hτ => back τ cells slots (by omega) (by omega) hτ)
    by_cases h38 : z = 38
    · refine l_in (tgt := 1385) (off := 1345) C (dc dkL0 24 rfl) hz (by omega) (by omega) (by rw [h38]; rfl) (by decide) ?_
      exact lc_said C (by omega) hI (by show cells ≤ 601024; omega) (by show slots ≤ 7293034; omega) (fun τ hτ => back τ cells slots (by omega) (by omega) hτ)
    by_cases h39 : z = 39
    · refine l_in (tgt := 1410) (off := 1370) C (dc dkL0 24 rfl) hz (by omega) (by omega) (by rw [h39]; rfl) (by decide) ?_
      exact lc_image C (by omega) hI (by show cells ≤ 601024; omega) (by show slots ≤ 7293034; omega) (fun τ hτ => back τ cells slots (by omega) (by omega) hτ)
    by_cases h40 : z = 40
    · refine l_in (tgt := 1435) (off := 1395) C (dc dkL0 24 rfl) hz (by omega) (by omega) (by rw [h40]; rfl) (by decide) ?_
      exact lc_restore C (by omega) hI (by show cells ≤ 601024; omega) (by show slots ≤ 7293034; omega) (fun τ hτ => back τ cells slots (by omega) (by omega) hτ)
    by_cases h41 : z = 41
    · refine l_in (tgt := 1460) (off := 1420) C (dc dkL0 24 rfl) hz (by omega) (by omega) (by rw [h41]; rfl) (by decide) ?_
      exact lc_count C (by omega) hI (by show cells ≤ 601024; omega) (by show slots ≤ 7293034; omega) (fun τ hτ => back τ cells slots (by omega) (by omega) hτ)
    refine l_out (tgt := 1485) C (dc dkL0 24 rfl) hz (by omega) (by decide) ?_
    exact back σ cells slots (by omega) (by omega) hI
end LO
