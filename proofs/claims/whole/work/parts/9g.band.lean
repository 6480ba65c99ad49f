/-! ===== the law's case of band, over the call that may throw ===== -/
def bG (σ : jS) (x w : Int) : Prop := (0 ≤ x ∧ x < σ 113 4) ∧ 0 ≤ w ∧ w ≤ 6
/-- what the class answers -/
noncomputable def bV (σ : jS) (x w : Int) : Int := if w = 0 then σ 32 x else if w = 1 then ((areaS (σ 32 x) (bAt σ 30 x)).natAbs : Int) else if w = 2 then onN (σ 32 x) (bAt σ 30 x) else if w = 3 then ((areaS (σ 32 x) (bAt σ 30 x)).natAbs - onN (σ 32 x) (bAt σ 30 x) + 2).tdiv 2 else if w = 4 then bentN (σ 32 x) (bAt σ 30 x) else if w = 5 then rightN (σ 32 x) (bAt σ 30 x) else smI (fun z => gte (z = x) 0 (meetN (σ 32 x) (bAt σ 30 x) (σ 32 z) (bAt σ 30 z) 1)) (σ 30 0)
noncomputable def bE (σ : jS) (x w : Int) : Int := (if w = 0 then cn σ 113 x else if w = 1 then ((areaS (cn σ 113 x) (rP σ 113 x)).natAbs : Int) else if w = 2 then onN (cn σ 113 x) (rP σ 113 x) else if w = 3 then ((areaS (cn σ 113 x) (rP σ 113 x)).natAbs - onN (cn σ 113 x) (rP σ 113 x) + 2).tdiv 2 else if w = 4 then bentR (cn σ 113 x) (rP σ 113 x) else if w = 5 then rightR (cn σ 113 x) (rP σ 113 x) else smI (fun z => gte (z = x) 0 (meetN (cn σ 113 x) (rP σ 113 x) (cn σ 113 z) (rP σ 113 z) 1)) (σ 113 4))
theorem bE_c {σ τ : jS} (e : τ 113 = σ 113) (x w : Int) : bE τ x w = bE σ x w := by
  have f1 : cn τ 113 = cn σ 113 := by funext z; exact cn_c e z
  have f2 : rP τ 113 = rP σ 113 := by funext z; exact rP_c2 e z
  unfold bE
  rw [e, f1, f2]
theorem bV_eq {σ : jS} (h : Inv σ) {x w : Int} (hG : bG σ x w) : bV σ x w = bE σ x w := by
  obtain ⟨k1, k2, k3, k4, k5, k6, k7, k8⟩ := Inv_k h
  obtain ⟨n3, wp⟩ := Inv_PW h hG.1.1 hG.1.2
  have ww := wrA0 (Inv_w h hG.1.1 hG.1.2)
  unfold bV bE
  rw [(k6 x hG.1.1 hG.1.2).1, (k6 x hG.1.1 hG.1.2).2, bent_eq (by omega) (fun i => rP_per i) ww.2.2.1 (area_n0 n3 (fun i => rP_per i) wp.2.2.1 ww.2.1 ww.2.2.1 ww.2.2.2), right_eq (by omega) (fun i => rP_per i), k5]
  rw [smI_congr (f := fun z => gte (z = x) 0 (meetN (cn σ 113 x) (rP σ 113 x) (σ 32 z) (bAt σ 30 z) 1)) (g := fun z => gte (z = x) 0 (meetN (cn σ 113 x) (rP σ 113 x) (cn σ 113 z) (rP σ 113 z) 1)) (fun z z0 z1 => by rw [(k6 z z0 z1).1, (k6 z z0 z1).2])]
section LB
variable {p : Program} {l : Launch} {e : Env} {s : State} {m : MethodId} {below : List Frame} {meth : Method} {c : Code} {b L : Nat} {xs : Nat → Int32} {ad : Nat → Nat} {D : va_G} {cA : Nat → ClassId} {pc : Nat} {lv lv' : List (Nat × Value)} {st : List Value} {σ : jS} {cells slots : Nat}
theorem l_argG {i k : Int} (C : lC p s m meth c b L xs ad D cA) (h0 : lv[0]? = some (0, Value.ref b)) (h4 : lv[4]? = some (4, vI i)) (hi : 0 ≤ i ∧ 0 ≤ k ∧ i + k < L) (d1 : decode code pc = .ok (.aload_n 0, 1)) (d2 : decode code (pc + 1) = .ok (.iload 4, 2)) (d3 : decode code (pc + 3) = .ok (.iconst k, 1)) (d4 : decode code (pc + 4) = .ok (.iadd, 1)) (d5 : decode code (pc + 5) = .ok (.iaload, 1))
    (K : lwR p l e s m below meth c b ad D cA (pc + 6) lv (vI (sc xs (i + k)) :: st) σ cells slots) : lwR p l e s m below meth c b ad D cA pc lv st σ cells slots := by
  refine l_aload C d1 h0 ?_
  refine lwR.go (pc2 := pc + 3) (st2 := vI i :: .ref b :: st) (fun H locs ls _ h K => lv_iload C.1.1 C.1.2.1 d2 (lv_at h 4 h4) K) ?_
  refine lwR.go (pc2 := pc + 4) (st2 := vI k :: vI i :: .ref b :: st) (fun H locs ls _ h K => lv_iconst C.1.1 C.1.2.1 d3 rfl K) ?_
  refine lwR.go (pc2 := pc + 5) (st2 := vI (i + k) :: .ref b :: st) (fun H locs ls _ h K => lv_iadd C.1.1 C.1.2.1 d4 (by rw [← Int32.ofInt_add]; exact K)) ?_
  exact l_sld C ⟨by omega, by omega⟩ d5 K
theorem l_iload {i : Nat} {z : Int} (q : Nat) (C : lC p s m meth c b L xs ad D cA) (hd : decode code pc = .ok (.iload i, 2)) (hq : lv[q]? = some (i, vI z)) (k : lwR p l e s m below meth c b ad D cA (pc + 2) lv (vI z :: st) σ cells slots) : lwR p l e s m below meth c b ad D cA pc lv st σ cells slots :=
  lwR.go (fun H locs ls _ h K => lv_iload C.1.1 C.1.2.1 hd (lv_at h q hq) K) k
theorem l_istore {i : Nat} {z : Int} {lv2 : List (Nat × Value)} (C : lC p s m meth c b L xs ad D cA) (hd : decode code pc = .ok (.istore i, 2)) (hn : i < 7) (hl : (i, vI z) :: lv.filter (fun q => !(q.1 == i) && !(q.1 + 1 == i && q.2.category == 2)) = lv') (ks : List Nat) (hk : lv_pick lv' ks = lv2) (k : lwR p l e s m below meth c b ad D cA (pc + 2) lv2 st σ cells slots) : lwR p l e s m below meth c b ad D cA pc lv (vI z :: st) σ cells slots :=
  fun H locs ls Wd h => lv_istore C.1.1 C.1.2.1 hd h hn hl (fun ls' h' => k H locs ls' Wd (lv_sub h' ks hk))
theorem l_sub {lv2 : List (Nat × Value)} (ks : List Nat) (hk : lv_pick lv ks = lv2) (k : lwR p l e s m below meth c b ad D cA pc lv2 st σ cells slots) : lwR p l e s m below meth c b ad D cA pc lv st σ cells slots :=
  fun H locs ls Wd h => k H locs ls Wd (lv_sub h ks hk)
/-- the call of the law's own method: 0 and the answer laid down, or 1 and nothing changed but a cell that nobody keeps -/
def lCallB (p : Program) (l : Launch) (e : Env) (s : State) (m : MethodId) (below : List Frame) (meth : Method) (c : Code) (b : Nat) (ad : Nat → Nat) (D : va_G) (cA : Nat → ClassId) : Prop :=
  ∀ (σ : jS) (x w : Int) (lv : List (Nat × Value)) (cells slots : Nat), Inv σ → iR x → iR w → cells ≤ 5000 → slots ≤ 110000 → (bG σ x w → lwR p l e s m below meth c b ad D cA 403 lv [vI 0] (ju σ 139 0 (bV σ x w)) cells slots) → (¬ bG σ x w → lwR p l e s m below meth c b ad D cA 403 lv [vI 1] σ (cells + 1) (slots + 6)) → lwR p l e s m below meth c b ad D cA 400 lv [.ref (ad 139), vI w, vI x, .ref (ad 0)] σ cells slots
theorem bV_R {σ : jS} (h : Inv σ) {x w : Int} (hG : bG σ x w) : iR (bV σ x w) := by
  obtain ⟨k1, k2, k3, k4, k5, k6, k7, k8⟩ := Inv_k h
  have vb := k4.2 x hG.1.1 hG.1.2
  have v8 := vb.1
  have pg : ∀ i, isPg (rP σ 113 x i) := fun i => rP_p vb i
  have m8 := k4.1.2.2.2.2.1
  have a12 := msC_b (n := cn σ 113 x) (P := rP σ 113 x) (by omega) (fun i _ => pg i) 12
  have a13 := msC_b (n := cn σ 113 x) (P := rP σ 113 x) (by omega) (fun i _ => pg i) 13
  have a14 := msC_b (n := cn σ 113 x) (P := rP σ 113 x) (by omega) (fun i _ => pg i) 14
  have a16 := msC_b (n := cn σ 113 x) (P := rP σ 113 x) (by omega) (fun i _ => pg i) 16
  have a4 := smI_bI (f := fun i => ¬ (0 < tn (rP σ 113 x i) (rP σ 113 x (i + 1)) (rP σ 113 x (i + 2)) ↔ 0 < areaS (cn σ 113 x) (rP σ 113 x))) (n := cn σ 113 x) (by omega)
  have a6 := smI_b (f := fun z => gte (z = x) 0 (meetN (cn σ 113 x) (rP σ 113 x) (σ 32 z) (bAt σ 30 z) 1)) (A := 64) (n := σ 113 4) (by omega) (fun z z0 z1 => by
    by_cases g : z = x
    · rw [gte_t g]; decide
    · rw [gte_f g, (k6 z z0 z1).1, (k6 z z0 z1).2]
      have vz := (k4.2 z z0 z1).1
      have inn : ∀ i, 0 ≤ smI (fun j => bI (mt (rP σ 113 x i) (rP σ 113 x (i + 1)) (rP σ 113 z j) (rP σ 113 z (j + 1)) = 1)) (cn σ 113 z) ∧ smI (fun j => bI (mt (rP σ 113 x i) (rP σ 113 x (i + 1)) (rP σ 113 z j) (rP σ 113 z (j + 1)) = 1)) (cn σ 113 z) ≤ 8 := fun i => by
        have := smI_bI (f := fun j => mt (rP σ 113 x i) (rP σ 113 x (i + 1)) (rP σ 113 z j) (rP σ 113 z (j + 1)) = 1) (n := cn σ 113 z) (by omega)
        omega
      have := smI_nn (f := fun i => smI (fun j => bI (mt (rP σ 113 x i) (rP σ 113 x (i + 1)) (rP σ 113 z j) (rP σ 113 z (j + 1)) = 1)) (cn σ 113 z)) (A := 8) (n := cn σ 113 x) (by omega) (fun i _ _ => inn i)
      unfold meetN
      omega)
  unfold bV
  rw [(k6 x hG.1.1 hG.1.2).1, (k6 x hG.1.1 hG.1.2).2, k5]
  unfold msC at a12 a13 a14 a16
  rw [if_pos rfl] at a12
  rw [if_neg (by decide), if_pos rfl] at a13
  rw [if_neg (by decide), if_neg (by decide), if_pos rfl] at a14
  rw [if_neg (by decide), if_neg (by decide), if_neg (by decide), if_neg (by decide)] at a16
  replace a4 : 0 ≤ bentN (cn σ 113 x) (rP σ 113 x) ∧ bentN (cn σ 113 x) (rP σ 113 x) ≤ cn σ 113 x := a4
  unfold iR
  split
  · omega
  · split
    · omega
    · split
      · omega
      · split
        · omega
        · split
          · omega
          · split <;> omega
set_option maxRecDepth 100000 in
set_option maxHeartbeats 4000000 in
theorem lBand_of (C : lC p s m meth c b L xs ad D cA) (hC : lCallB p l e s m below meth c b ad D cA) : lBand p l e s m below meth c b L ad D cA := by
  intro i σ cells slots i0 iL hI hc hs K
  have hL := C.2.2
  refine l_aload C (dc dkL2 17 rfl) rfl (lp 387 rfl ?_)
  refine l_arg (k := 1) C ⟨by omega, by omega, by omega⟩ (dc dkL2 18 rfl) (dc dkL2 19 rfl) (dc dkL2 20 rfl) (dc dkL2 21 rfl) (dc dkL2 22 rfl) (lp 393 rfl ?_)
  refine l_arg (k := 2) C ⟨by omega, by omega, by omega⟩ (dc dkL2 23 rfl) (dc dkL2 24 rfl) (dc dkL2 25 rfl) (dc dkL2 26 rfl) (dc dkL2 27 rfl) (lp 399 rfl ?_)
  refine l_aload C (dc dkL2 28 rfl) rfl (lp 400 rfl ?_)
  -- behind the call
  have tail : ∀ (k : Int) (τ : jS) (c2 s2 : Nat), c2 ≤ cells + 1 → s2 ≤ slots + 6 → Inv τ → τ 113 = σ 113 → (bG σ (sc xs (i + 1)) (sc xs (i + 2)) → k = 0 ∧ τ 139 0 = bV σ (sc xs (i + 1)) (sc xs (i + 2))) → (¬ bG σ (sc xs (i + 1)) (sc xs (i + 2)) → k = 1) → lwR p l e s m below meth c b ad D cA 403 (lvL b ad i) [vI k] τ c2 s2 := by
    intro k τ c2 s2 h1 h2 hτ e113 kg kb
    obtain ⟨k1, k2, k3, k4, k5, k6, k7, k8⟩ := Inv_k hτ
    have hk01 : k = 0 ∨ k = 1 := by
      by_cases g : bG σ (sc xs (i + 1)) (sc xs (i + 2))
      · exact Or.inl (kg g).1
      · exact Or.inr (kb g)
    refine l_istore (lv' := [(5, vI k), (0, .ref b), (1, .ref (ad 0)), (2, .ref (ad 111)), (3, .ref (ad 139)), (4, vI i)]) C (dc dkL2 30 rfl) (by decide) rfl [1, 2, 3, 4, 5, 0] (lv2 := [(0, .ref b), (1, .ref (ad 0)), (2, .ref (ad 111)), (3, .ref (ad 139)), (4, vI i), (5, vI k)]) rfl (lp 405 rfl ?_)
    refine l_aload C (dc dkL2 31 rfl) rfl (lp 406 rfl ?_)
    refine l_argG (k := 1) (i := i) C rfl rfl ⟨by omega, by omega, by omega⟩ (dc dkL2 32 rfl) (dc dkL2 33 rfl) (dc dkL2 34 rfl) (dc dkL2 35 rfl) (dc dkL2 36 rfl) (lp 412 rfl ?_)
    refine l_argG (k := 2) (i := i) C rfl rfl ⟨by omega, by omega, by omega⟩ (dc dkL2 37 rfl) (dc dkL2 38 rfl) (dc dkL2 39 rfl) (dc dkL2 40 rfl) (dc dkL2 41 rfl) (lp 418 rfl ?_)
    refine l_call (as := [vI (sc xs (i + 1)), vI (sc xs (i + 2))]) (st := []) C (by show c2 ≤ 601024; omega) (by show s2 ≤ 7293034; omega) (dc dkL2 42 rfl) mlL_52 ceX13_band rfl (by decide) rfl rfl rfl (by decide) (c_X13_band k4 (sc_R _ _) (sc_R _ _)) (fun r ρ hr => ?_)
    have eG : bG σ (sc xs (i + 1)) (sc xs (i + 2)) ↔ ((0 ≤ sc xs (i + 1) ∧ sc xs (i + 1) < τ 113 4) ∧ 0 ≤ sc xs (i + 2) ∧ sc xs (i + 2) ≤ 6) := by unfold bG; rw [e113]
    have fin : ∀ (v : Int), r = some (vI v) → iR v → ρ 111 0 = k → Inv ρ → (k = 0 → ρ 139 0 = v) → lwR p l e s m below meth c b ad D cA (418 + 3) [(0, .ref b), (1, .ref (ad 0)), (2, .ref (ad 111)), (3, .ref (ad 139)), (4, vI i), (5, vI k)] ((r.map (jv ad)).toList ++ []) ρ c2 s2 := by
      intro v hr hv hk hρ ho
      subst hr
      refine lp 421 rfl ?_
      show lwR p l e s m below meth c b ad D cA 421 _ [vI v] ρ c2 s2
      refine l_istore (lv' := [(6, vI v), (0, .ref b), (1, .ref (ad 0)), (2, .ref (ad 111)), (3, .ref (ad 139)), (4, vI i), (5, vI k)]) C (dc dkL2 43 rfl) (by decide) rfl [1, 2, 3, 4, 5, 6, 0] (lv2 := [(0, .ref b), (1, .ref (ad 0)), (2, .ref (ad 111)), (3, .ref (ad 139)), (4, vI i), (5, vI k), (6, vI v)]) rfl (lp 423 rfl ?_)
      refine l_aload C (dc dkL2 44 rfl) rfl (lp 424 rfl ?_)
      refine l_call (as := []) (st := []) C (by show c2 ≤ 601024; omega) (by show s2 ≤ 7293034; omega) (dc dkL2 45 rfl) mlL_53 ceX13_thrown rfl (by decide) rfl rfl rfl (by decide) c_X13_thrown (fun r2 ρ2 hr2 => ?_)
      obtain ⟨rfl, rfl⟩ := hr2
      refine lp 427 rfl ?_
      show lwR p l e s m below meth c b ad D cA 427 _ [vI (ρ2 111 0)] ρ2 c2 s2
      rw [hk]
      refine l_iload 5 C (dc dkL2 46 rfl) rfl (lp 429 rfl ?_)
      refine l_eqt (tgt := 434) C (dc dkL2 47 rfl) (by decide) ?_
      refine l_iload 5 C (dc dkL2 50 rfl) rfl (lp 436 rfl ?_)
      have out : lwR p l e s m below meth c b ad D cA 451 [(0, .ref b), (1, .ref (ad 0)), (2, .ref (ad 111)), (3, .ref (ad 139)), (4, vI i), (5, vI k), (6, vI v)] [] ρ2 c2 s2 := by
        refine l_goto (tgt := 1485) C (dc dkL3 1 rfl) (by decide) ?_
        exact l_sub [0, 1, 2, 3, 4] rfl (K ρ2 c2 s2 h1 h2 hρ)
      intro H locs ls Wd h
      refine lv_if_ne (tgt := 451) C.1.1 C.1.2.1 (dc dkL2 51 rfl) (by decide) (fun _ => out H locs ls Wd h) (fun q => ?_)
      have k0 : k = 0 := by
        rcases hk01 with z | z
        · exact z
        · rw [z] at q; exact absurd q (by decide)
      refine lv_aload_n C.1.1 C.1.2.1 (dc dkL2 52 rfl) rfl (lv_at h 3 rfl) ?_
      refine lv_iconst (v := 0) C.1.1 C.1.2.1 (dc dkL2 53 rfl) (by decide) ?_
      refine va_lald (D := D) (cl := vwCl) (tys := jTys cA) (ws := jWs ad cA ρ2) C.1.1 C.1.2.1 C.2.1.1 Wd.1 139 1 (jWs_get (jAr_spec (n := 1) (t := 1) rfl)) rfl (by unfold vp_in; decide) (dc dkL2 54 rfl) ?_
      refine lv_iload C.1.1 C.1.2.1 (dc dkL2 55 rfl) (lv_at h 6 rfl) ?_
      refine lv_i2l (v := Int64.ofInt v) C.1.1 C.1.2.1 (dc dkL2 56 rfl) (Int32.toInt64_ofInt (by have := hv.1; show (-2147483648 : Int) ≤ v; omega) (by have := hv.2; show v ≤ (2147483647 : Int); omega)) ?_
      have eo : ρ2 139 ((((0 : Int32).toNatClampNeg : Nat)) : Int) = v := ho k0
      rw [eo]
      refine W.lcmp C.1.1 C.1.2.1 (dc dkL2 57 rfl) ?_
      have ec : lg_cmp (Int64.ofInt v) (Int64.ofInt v) = 0 := by unfold lg_cmp; simp
      rw [ec]
      exact lv_if_eq (tgt := 451) C.1.1 C.1.2.1 (dc dkL2 58 rfl) (by decide) (fun _ => out H locs ls Wd h) (fun z => absurd rfl z)
    by_cases g : bG σ (sc xs (i + 1)) (sc xs (i + 2))
    · obtain ⟨q1, q2⟩ := hr.1 (eG.mp g)
      refine fin (bE τ (sc xs (i + 1)) (sc xs (i + 2))) q2 ?_ ?_ ?_ ?_
      · rw [bE_c e113, ← bV_eq hI g]; exact bV_R hI g
      · rw [q1, ju_at]; exact ((kg g).1).symm
      · rw [q1]; exact Inv_a hτ (agr_ju τ 0)
      · intro _
        rw [q1, ju_off _ _ _ _ _ (by decide), bE_c e113, ← bV_eq hI g]
        exact (kg g).2
    · obtain ⟨q1, q2⟩ := hr.2 (fun z => g (eG.mpr z))
      refine fin 0 q2 (by decide) ?_ ?_ ?_
      · rw [q1, ju_at]; exact (kb g).symm
      · rw [q1]; exact Inv_a hτ (agr_ju τ 1)
      · intro z; exact absurd (z.symm.trans (kb g)) (by decide)
  refine hC σ (sc xs (i + 1)) (sc xs (i + 2)) (lvL b ad i) cells slots hI (sc_R _ _) (sc_R _ _) (by omega) (by omega) (fun g => ?_) (fun g => ?_)
  · refine tail 0 _ cells slots (by omega) (by omega) (Inv_a hI ⟨fun z hz => ju_off _ _ _ _ _ (fun q => hz (by rw [q]; decide)), fun j _ => by rw [ju_off _ _ _ _ _ (by decide)]⟩) (ju_off _ _ _ _ _ (by decide)) (fun _ => ⟨rfl, ju_at ..⟩) (fun z => absurd g z)
  · exact tail 1 σ (cells + 1) (slots + 6) (by omega) (by omega) hI rfl (fun z => absurd z g) (fun _ => rfl)
end LB
