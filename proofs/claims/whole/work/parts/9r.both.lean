/-! ===== the call of the law's own method, thrown and caught; both roads ===== -/
theorem lb_no {p : Program} {l : Launch} {e : Env} {s : State} {m : MethodId} {below : List Frame} {meth : Method} {c : Code} {b L : Nat} {xs : Nat → Int32} {ad : Nat → Nat} {D : va_G} {cA : Nat → ClassId} {lv : List (Nat × Value)} {σ : jS} {cells slots : Nat} {x w : Int} (hfl : l.stackTraces = false) (C : lC p s m meth c b L xs ad D cA) (hI : Inv σ) (hix : iR x) (hiw : iR w) (hG : ¬ bG σ x w) (hc0 : cells ≤ 5000) (hs0 : slots ≤ 110000)
    (K : lwR p l e s m below meth c b ad D cA 403 lv [vI 1] σ (cells + 1) (slots + 6)) : lwR p l e s m below meth c b ad D cA 400 lv [.ref (ad 139), vI w, vI x, .ref (ad 0)] σ cells slots := by
  intro H locs ls Wd hl T hT X
  obtain ⟨hP, hD, hS⟩ := Wd
  obtain ⟨⟨-, -, -, -, -, hts, -, -, -, hgv⟩, hK0, -⟩ := id C
  obtain ⟨k1, k2, k3, k4, k5, k6, k7, k8⟩ := Inv_k hI
  have m8 := k4.1.2.2.2.2.1
  have hth : thr (fun q : Nat => s.heap.size ≤ q) s := st_T hts hgv
  have htg : ∀ w ∈ lw_good, w.before #[Value.ref b] s = true := fun w h => hts w (lw_good_in h)
  have hM := lb_bad (x := x) (w := w) l hfl ad (fun q : Nat => s.heap.size ≤ q) D cA (σ := σ) (by rw [k5]; omega) hix hiw (by rw [k5]; exact hG)
  have hGd : GoodIn lw_good jWw := lw_good_good (fun w h => by
    rcases List.mem_cons.mp h with rfl | h
    · exact wL_in
    · exact h)
  have hpay := pay_in htg hGd
  have hB : Back l room_1 p e below s #[Value.ref b] yL_band 3 8 (PreOf room_1 1 6 _) (PostOf _ 1 6 _) := va_backW (hh := [(0, 10, 13, 13)]) (bytes := cL_band) (maxL := 5) (ret := some .int) hM (tblind _ _ _ _ _ _) rfl rfl (Nat.le_of_ble_eq_true rfl) (Nat.le_of_ble_eq_true rfl) hpay List.mem_cons_self (fun a' U hW => hpay _ (List.mem_cons_of_mem _ iL_in) a' U hW)
  obtain ⟨vm₁, v, ⟨U', l2, c2, s2⟩, ⟨g', mk, t, Ls, e1, e2, hq, h1, hLs, h2, h3⟩, X', stp⟩ := lb_go C hl.1 X (u0 := .ref (ad 0)) (u1 := vI x) (u2 := vI w) (u3 := .ref (ad 139)) hB
    (fun vm₁ hW₁ => ⟨by show cells + 1 ≤ 601024; omega, by show slots + 6 ≤ 7293034; omega, rfl, by show va_P D vwCl (jWs ad cA σ) T.heap; rw [hT]; exact hP, va_K.moved hW₁.alike hK0.1, thr.go hth hW₁ (by intro q h1 h2; show T.heap[q]? = _; rw [hT]; exact hS.2.1 q h1 h2)⟩)
  dsimp only [Pt.U, Pt.locs, Pt.cells, Pt.slots] at X' e1 e2 h1 h2 h3 stp
  subst h1; subst h2; subst h3
  obtain ⟨hv, hz, hk2⟩ := hq
  obtain rfl : v = some (vI 1) := by cases hv; rfl
  have hz' : H.size ≤ t.heap.size := by rw [← hT]; exact hz
  have hk' : ∀ q : Nat, q < H.size → t.heap[q]? = H[q]? := fun q h1 => by rw [← hT] at h1 ⊢; exact hk2 q h1
  have hS1 : va_S (fun q : Nat => s.heap.size ≤ q) s.heap U'.heap (locs ++ Ls) := ⟨Nat.le_trans hS.1 (by rw [e1]; exact hz'), fun q h1 h2 => by rw [e1, hk' q (Nat.lt_of_lt_of_le h1 hS.1)]; exact hS.2.1 q h1 h2, fun q hq => by
    rcases List.mem_append.mp hq with h | h
    · exact hS.2.2 q h
    · exact hLs q h⟩
  obtain ⟨t2, a1, b1⟩ := K U'.heap (locs ++ Ls) ls ⟨hP.kept (fun k q hk => by rw [e1]; exact hk' q.1 (hP k q hk).lt), hD, hS1⟩ hl U' rfl X'
  exact ⟨t2, stp t2 a1, b1⟩
theorem lCallB_all {p : Program} {l : Launch} {e : Env} {s : State} {m : MethodId} {below : List Frame} {meth : Method} {c : Code} {b L : Nat} {xs : Nat → Int32} {ad : Nat → Nat} {D : va_G} {cA : Nat → ClassId} (hfl : l.stackTraces = false) (C : lC p s m meth c b L xs ad D cA) : lCallB p l e s m below meth c b ad D cA := by
  intro σ x w lv cells slots hI hix hiw hc hs k1 k2
  by_cases g : bG σ x w
  · exact lb_ok C hI g hc hs (k1 g)
  · exact lb_no hfl C hI hix hiw g hc hs (k2 g)
