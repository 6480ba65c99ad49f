/-! THE CLAIM OUT OF ONE WALK OF THE LAW'S BODY. Your part is whole_start (and what it stands on); all else here is the same for every law, but numbers. -/
def R_law : String := "PegBandsLaw"
def lw_P (b : Addr) (xs : List Int32) (args : Array Value) (s : State) : Prop := args = #[.ref b] ∧ s.IntsAt b xs ∧ xs.length ≤ 3072 ∧ (Jvm.Cond.and given_1 narrow_1).before args s = true
def lw_Q (_ : Array Value) (s : State) (o : Outcome) (t : State) : Prop := o = .returned (some (.int 1)) ∧ Framed s o t [] 601024 7293034
def lw_Z (below : List Frame) (a : Array Value) (s : State) : State → Prop := fun t => ∃ o, t.status = .running ∧ Ended t below o ∧ lw_Q a s o t
/-- the law's own end, with 1 on the stack, nothing written that was there before, its room as the claim has it -/
theorem lw_ret {p : Program} {l : Launch} {e : Env} {s : State} {m : MethodId} {below : List Frame} {meth : Method} {c : Code} {b : Nat} (hx : p.tables.exec = Jvm.exec) (hb : c.code = code) (hr : meth.sig.returnType = ret) (hlocks : meth.locks = false) {pc : Nat} {H : Heap} {ls : Array Slot} (hdg : decode code pc = .ok (.ireturn, 1)) : W p l e room_1 s m #[Value.ref b] below meth c H [] 601024 7293034 (lw_Z below #[Value.ref b] s) (F0 m pc ls [.int 1]) := by
  intro T hT X
  obtain ⟨fs, hret, hrun, hended, hW, hframe⟩ := X.leave (v := some (.int 1)) (hlocks := hlocks) (fun h => by rw [hr] at h; cases h)
  have hmeth' : T.vm.method? m = some meth := X.method'
  refine ⟨T.setFrames fs, ?_, .returned (some (.int 1)), hrun, hended, rfl, ⟨_, rfl⟩, hW, hframe⟩
  jvm_step X.here [X.here.top, hx, hb, hdg, hmeth', hr, ret, narrow_b1]
  (try refine ⟨rfl, ?_⟩); (try refine ⟨rfl, ?_⟩)
  first | (intro acts; rw [hret _ acts rfl rfl rfl]) | rw [hret _ _ rfl rfl rfl]
  exact Steps.refl _
/-- what holds at the law's entry: the machine, the code, the tables' words (any of lw_tbl by 'hts w (by decide +kernel)'), the script of L ints xs at the cell b, what the Statement gives of the start (any of its parts by flat_of_before) -/
def lw_At (p : Program) (s : State) (m : MethodId) (meth : Method) (c : Code) (b L : Nat) (xs : Nat → Int32) : Prop :=
  p.tables.exec = Jvm.exec ∧ c.code = code ∧ meth.sig.returnType = ret ∧ c.maxLocals = 7 ∧ s.vm.findClass R_law = some m.cls ∧ (∀ w ∈ lw_tbl, w.before #[Value.ref b] s = true) ∧ va_X b L xs s s.heap ∧ b < s.heap.size ∧ meth.locks = false ∧ (Jvm.Cond.and given_1 narrow_1).before #[Value.ref b] s = true

/-! ===== the walk of the law ===== -/
def sc (xs : Nat → Int32) (j : Int) : Int := (xs j.toNat).toInt
theorem sc_v (xs : Nat → Int32) (j : Int) : vI (sc xs j) = .int (xs j.toNat) := by unfold vI sc; rw [Int32.ofInt_toInt]
theorem sc_R (xs : Nat → Int32) (j : Int) : iR (sc xs j) := by
  have a := Int32.minValue_le_toInt (xs j.toNat)
  have b := Int32.toInt_le (xs j.toNat)
  have c : Int32.minValue.toInt = -2147483648 := by decide
  have d : Int32.maxValue.toInt = 2147483647 := by decide
  unfold iR sc
  omega
/-- all that stands fixed while the law runs -/
def lC (p : Program) (s : State) (m : MethodId) (meth : Method) (c : Code) (b L : Nat) (xs : Nat → Int32) (ad : Nat → Nat) (D : va_G) (cA : Nat → ClassId) : Prop := lw_At p s m meth c b L xs ∧ jK ad (fun q : Nat => s.heap.size ≤ q) D cA s ∧ L ≤ 3072
def lvL (b : Nat) (ad : Nat → Nat) (i : Int) : List (Nat × Value) := [(0, .ref b), (1, .ref (ad 0)), (2, .ref (ad 111)), (3, .ref (ad 139)), (4, vI i)]
def lwR (p : Program) (l : Launch) (e : Env) (s : State) (m : MethodId) (below : List Frame) (meth : Method) (c : Code) (b : Nat) (ad : Nat → Nat) (D : va_G) (cA : Nat → ClassId) (pc : Nat) (lv : List (Nat × Value)) (st : List Value) (σ : jS) (cells slots : Nat) : Prop :=
  ∀ (H : Heap) (locs : List Loc) (ls : Array Slot), (va_P D vwCl (jWs ad cA σ) H ∧ va_D (fun q : Nat => s.heap.size ≤ q) (jWs ad cA σ) ∧ va_S (fun q : Nat => s.heap.size ≤ q) s.heap H locs) → lv_has ls 7 lv →
    W p l e room_1 s m #[Value.ref b] below meth c H locs cells slots (lw_Z below #[Value.ref b] s) (F0 m pc ls st)
section LR
variable {p : Program} {l : Launch} {e : Env} {s : State} {m : MethodId} {below : List Frame} {meth : Method} {c : Code} {b L : Nat} {xs : Nat → Int32} {ad : Nat → Nat} {D : va_G} {cA : Nat → ClassId} {pc : Nat} {lv : List (Nat × Value)} {st : List Value} {σ : jS} {cells slots : Nat}
theorem lp (n : Nat) (h : pc = n) (k : lwR p l e s m below meth c b ad D cA n lv st σ cells slots) : lwR p l e s m below meth c b ad D cA pc lv st σ cells slots := h ▸ k
theorem lwR.go {pc2 : Nat} {st2 : List Value} (h : ∀ (H : Heap) (locs : List Loc) (ls : Array Slot), va_S (fun q : Nat => s.heap.size ≤ q) s.heap H locs → lv_has ls 7 lv → W p l e room_1 s m #[Value.ref b] below meth c H locs cells slots (lw_Z below #[Value.ref b] s) (F0 m pc2 ls st2) → W p l e room_1 s m #[Value.ref b] below meth c H locs cells slots (lw_Z below #[Value.ref b] s) (F0 m pc ls st))
    (k : lwR p l e s m below meth c b ad D cA pc2 lv st2 σ cells slots) : lwR p l e s m below meth c b ad D cA pc lv st σ cells slots :=
  fun H locs ls Wd hl => h H locs ls Wd.2.2 hl (k H locs ls Wd hl)
theorem l_aload {i : Fin 4} {a : Nat} (C : lC p s m meth c b L xs ad D cA) (hd : decode code pc = .ok (.aload_n i, 1)) (hl : lv[(i : Nat)]? = some ((i : Nat), Value.ref a)) (k : lwR p l e s m below meth c b ad D cA (pc + 1) lv (.ref a :: st) σ cells slots) : lwR p l e s m below meth c b ad D cA pc lv st σ cells slots :=
  lwR.go (fun H locs ls _ h K => lv_aload_n C.1.1 C.1.2.1 hd rfl (lv_at h (i : Nat) hl) K) k
theorem l_sld {i : Int} (C : lC p s m meth c b L xs ad D cA) (hi : 0 ≤ i ∧ i < L) (hd : decode code pc = .ok (.iaload, 1)) (k : lwR p l e s m below meth c b ad D cA (pc + 1) lv (vI (sc xs i) :: st) σ cells slots) : lwR p l e s m below meth c b ad D cA pc lv (vI i :: .ref b :: st) σ cells slots :=
  lwR.go (fun H locs ls hS h K => by
    have hL := C.2.2
    obtain ⟨j1, j2⟩ := jcl hi.1 (by omega)
    refine va_sld (A := fun q : Nat => s.heap.size ≤ q) C.1.1 C.1.2.1 C.1.2.2.2.2.2.2.1 C.1.2.2.2.2.2.2.2.1 (Nat.not_le.mpr C.1.2.2.2.2.2.2.2.1) hS (show vp_in (Int32.ofInt i) L from fun z => by
      rcases z with z | z
      · exact j1 z
      · rw [j2] at z; omega) hd ?_
    rw [j2, ← sc_v]
    exact K) k
theorem l_arg {i k : Int} (C : lC p s m meth c b L xs ad D cA) (hi : 0 ≤ i ∧ 0 ≤ k ∧ i + k < L) (d1 : decode code pc = .ok (.aload_n 0, 1)) (d2 : decode code (pc + 1) = .ok (.iload 4, 2)) (d3 : decode code (pc + 3) = .ok (.iconst k, 1)) (d4 : decode code (pc + 4) = .ok (.iadd, 1)) (d5 : decode code (pc + 5) = .ok (.iaload, 1))
    (K : lwR p l e s m below meth c b ad D cA (pc + 6) (lvL b ad i) (vI (sc xs (i + k)) :: st) σ cells slots) : lwR p l e s m below meth c b ad D cA pc (lvL b ad i) st σ cells slots := by
  refine l_aload C d1 rfl ?_
  refine lwR.go (pc2 := pc + 3) (st2 := vI i :: .ref b :: st) (fun H locs ls _ h K => lv_iload C.1.1 C.1.2.1 d2 (lv_at h 4 rfl) K) ?_
  refine lwR.go (pc2 := pc + 4) (st2 := vI k :: vI i :: .ref b :: st) (fun H locs ls _ h K => lv_iconst C.1.1 C.1.2.1 d3 rfl K) ?_
  refine lwR.go (pc2 := pc + 5) (st2 := vI (i + k) :: .ref b :: st) (fun H locs ls _ h K => lv_iadd C.1.1 C.1.2.1 d4 (by rw [← Int32.ofInt_add]; exact K)) ?_
  exact l_sld C ⟨by omega, by omega⟩ d5 K
theorem l_goto {off : Int} {tgt : Nat} (C : lC p s m meth c b L xs ad D cA) (hd : decode code pc = .ok (.goto off, 3)) (ht : (pc : Int) + off = (tgt : Int)) (k : lwR p l e s m below meth c b ad D cA tgt lv st σ cells slots) : lwR p l e s m below meth c b ad D cA pc lv st σ cells slots :=
  lwR.go (fun H locs ls _ h K => lv_goto C.1.1 C.1.2.1 hd ht K) k
theorem l_eqt {v off : Int} {tgt : Nat} (C : lC p s m meth c b L xs ad D cA) (hd : decode code pc = .ok (.if_icmp .eq off, 3)) (ht : (pc : Int) + off = (tgt : Int)) (k : lwR p l e s m below meth c b ad D cA tgt lv st σ cells slots) : lwR p l e s m below meth c b ad D cA pc lv (vI v :: vI v :: st) σ cells slots :=
  lwR.go (fun H locs ls _ h K => lv_icmp_eq C.1.1 C.1.2.1 hd ht (fun _ => K) (fun z => absurd rfl z)) k
/-- a method of the class or of the reference is called -/
theorem l_call {k ci idx n dcl : Nat} {y' : jMI} {as st0 : List Value} {Po : Option Value → jS → Prop} (C : lC p s m meth c b L xs ad D cA) (hc0 : cells ≤ room_1.cells) (hs0 : slots ≤ room_1.slots) (hd : decode code pc = .ok (.invokevirtual idx, 3)) (hw : Cond.methodLink R_law idx y'.1 ∈ lw_good) (hc : jCE y' ci n) (hk : jOb k = some ci) (hdc : dcl ≤ 1000) (hst : st0 = as.reverse ++ .ref (ad k) :: st) (has : as.map (jv ad) = as) (hn : as.length = n) (hcat : (st.map fun v => v.category).sum ≤ 8) (hM : Jm dcl y' (.ref k :: as) σ Po)
    (K : ∀ r τ, Po r τ → lwR p l e s m below meth c b ad D cA (pc + 3) lv ((r.map (jv ad)).toList ++ st) τ cells slots) : lwR p l e s m below meth c b ad D cA pc lv st0 σ cells slots := by
  intro H locs ls Wd hl
  obtain ⟨hP, hD, hS⟩ := Wd
  obtain ⟨⟨hx, hb, hr, hml, hown, hts, hX, hbl, hlocks, hgv⟩, hK, hL⟩ := C
  obtain ⟨c1, c2, c3, c4, ⟨q, hq, hqc⟩, c6, c7⟩ := hc
  obtain ⟨fs, hs⟩ := jOb_spec hk
  subst hst
  have htg : ∀ w ∈ lw_good, w.before #[Value.ref b] s = true := fun w h => hts w (lw_good_in h)
  have hG : GoodIn lw_good (wsV R_law idx y'.1.cls y'.1 (jW y')) := lw_good_good (fun w h => by
    simp only [wsV, jW, List.mem_append, List.mem_cons, List.not_mem_nil, or_false] at h
    rcases h with (rfl | rfl | rfl | rfl) | rfl | h
    · exact hw
    · exact c1
    · exact c2
    · exact c3
    · exact c4
    · exact h)
  have run : va_Run p l e room_1 s m #[Value.ref b] below meth c H locs cells slots 0 0 (F0 m pc ls (as.reverse ++ .ref (ad k) :: st)) st (jQ ad (fun q : Nat => s.heap.size ≤ q) D cA Po (Value.ref (ad k) :: as).toArray) (fun q : Nat => s.heap.size ≤ q) := by
    have hM' := hM l ad (fun q : Nat => s.heap.size ≤ q) D cA
    rw [show (Value.ref k :: as).map (jv ad) = .ref (ad k) :: as from by rw [List.map_cons, has]; rfl] at hM'
    refine va_runV (C := y'.1.cls) (b := ad k) (As := as) (n := n) ⟨hx, hb, hml, hown, htg⟩ hM'
      (cwV n htg hG rfl rfl rfl ⟨rfl, c6⟩ ⟨by show dcl + 1 ≤ 2048; omega, by show 8 + (y'.2.2.1 + 11) + 64 * dcl ≤ 84000; omega⟩)
      ⟨jblind _ _ _ _ _ _, ?_, fun U hU hW => ⟨rfl, by rw [hU]; exact hP, jK.go hK hW (by rw [hU]; exact hS.2.1), hD⟩⟩ rfl hn hl.1 rfl (lv_room hcat) hd ⟨hc0, hs0⟩
    rw [← hqc]
    exact va_recv hK.1 hP hq (jWs_get hs)
  intro T hT X
  obtain ⟨v, st₀, t, T', Ls, h0, X', hLs, e1, e2, ⟨⟨r, σ', hv, hp, hP1, hK1, hD1⟩, hz, hk2⟩, stp⟩ := run T hT X
  obtain rfl : v = r.map (jv ad) := by cases hv; rfl
  rw [h0] at hz hk2
  have hS1 : va_S (fun q : Nat => s.heap.size ≤ q) s.heap T'.heap (locs ++ Ls) := ⟨Nat.le_trans hS.1 (by rw [e1]; exact hz), fun q h1 h2 => by rw [e1, hk2 q (Nat.lt_of_lt_of_le h1 hS.1) h2]; exact hS.2.1 q h1 h2, fun q hq => by
    rcases List.mem_append.mp hq with h | h
    · exact hS.2.2 q h
    · exact hLs q h⟩
  obtain ⟨t2, a1, b1⟩ := K r σ' hp T'.heap (locs ++ Ls) ls ⟨by rw [e1]; exact hP1, hD1, hS1⟩ hl T' rfl X'
  exact ⟨t2, stp t2 a1, b1⟩
/-- both are called, and answer alike -/
theorem l_ag {dcl dml idx idx2 n n2 : Nat} {yc ym : jMI} {as st0 : List Value} (C : lC p s m meth c b L xs ad D cA) (hc0 : cells ≤ room_1.cells) (hs0 : slots ≤ room_1.slots) (hA : Ag dcl dml yc ym as σ) (hd : decode code pc = .ok (.invokevirtual idx, 3)) (hw : Cond.methodLink R_law idx yc.1 ∈ lw_good) (hc : jCE yc 11 n) (hdc : dcl ≤ 1000) (hst : st0 = as.reverse ++ [.ref (ad 0)]) (has : as.map (jv ad) = as) (hn : as.length = n)
    {pc2 pc3 : Nat} {off : Int} {tgt : Nat} (hd2 : decode code pc2 = .ok (.invokevirtual idx2, 3)) (hw2 : Cond.methodLink R_law idx2 ym.1 ∈ lw_good) (hc2 : jCE ym 12 n2) (hdm : dml ≤ 1000) (hn2 : as.length = n2) (he : decode code pc3 = .ok (.if_icmp .eq off, 3)) (hp3 : pc2 + 3 = pc3) (ht : (pc3 : Int) + off = (tgt : Int))
    (mid : ∀ v τ, lwR p l e s m below meth c b ad D cA pc2 lv (as.reverse ++ .ref (ad 111) :: [vI v]) τ cells slots → lwR p l e s m below meth c b ad D cA (pc + 3) lv [vI v] τ cells slots)
    (K : ∀ τ, Inv τ → lwR p l e s m below meth c b ad D cA tgt lv [] τ cells slots) : lwR p l e s m below meth c b ad D cA pc lv st0 σ cells slots := by
  refine l_call (st := []) C hc0 hs0 hd hw hc rfl hdc hst has hn (by decide) hA (fun r τ hr => ?_)
  obtain ⟨v, rfl, hM⟩ := hr
  refine mid v τ ?_
  refine l_call (st := [vI v]) C hc0 hs0 hd2 hw2 hc2 rfl hdm rfl has hn2 (Nat.le_of_ble_eq_true rfl) hM (fun r2 ρ hr2 => ?_)
  obtain ⟨rfl, hI⟩ := hr2
  subst hp3
  exact l_eqt C he ht (K ρ hI)
end LR
