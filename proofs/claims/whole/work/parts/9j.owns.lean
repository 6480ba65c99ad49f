/-! ===== the call of the law's own method, nothing thrown ===== -/
theorem lb_ok {p : Program} {l : Launch} {e : Env} {s : State} {m : MethodId} {below : List Frame} {meth : Method} {c : Code} {b L : Nat} {xs : Nat → Int32} {ad : Nat → Nat} {D : va_G} {cA : Nat → ClassId} {lv : List (Nat × Value)} {σ : jS} {cells slots : Nat} {x w : Int} (C : lC p s m meth c b L xs ad D cA) (hI : Inv σ) (hG : bG σ x w) (hc0 : cells ≤ 5000) (hs0 : slots ≤ 110000)
    (K : lwR p l e s m below meth c b ad D cA 403 lv [vI 0] (ju σ 139 0 (bV σ x w)) cells slots) : lwR p l e s m below meth c b ad D cA 400 lv [.ref (ad 139), vI w, vI x, .ref (ad 0)] σ cells slots := by
  intro H locs ls Wd hl T hT X
  obtain ⟨hP, hD, hS⟩ := Wd
  obtain ⟨⟨-, -, -, -, -, hts, -, -, -, hgv⟩, hK0, -⟩ := id C
  have htg : ∀ w ∈ lw_good, w.before #[Value.ref b] s = true := fun w h => hts w (lw_good_in h)
  have hM := jw_of (as := [.ref 0, vI x, vI w, .ref 139]) (d := 8) (Nat.le_of_ble_eq_true rfl) rfl (lb_good hI hG) l ad (fun q : Nat => s.heap.size ≤ q) D cA
  have hGd : GoodIn lw_good jWw := lw_good_good (fun w h => by
    rcases List.mem_cons.mp h with rfl | h
    · exact wL_in
    · exact h)
  have hpay := pay_in htg hGd
  have hB : Back l room_1 p e below s #[Value.ref b] yL_band 3 8 (PreOf room_1 0 0 _) (PostOf _ 0 0 _) := va_backW (hh := [(0, 10, 13, 13)]) (bytes := cL_band) (maxL := 5) (ret := some .int) hM (jblind _ _ _ _ _ _) rfl rfl (Nat.le_of_ble_eq_true rfl) (Nat.le_of_ble_eq_true rfl) hpay List.mem_cons_self (fun a' U hW => hpay _ (List.mem_cons_of_mem _ iL_in) a' U hW)
  obtain ⟨vm₁, v, ⟨U', l2, c2, s2⟩, ⟨g', mk, t, Ls, e1, e2, hq, h1, hLs, h2, h3⟩, X', stp⟩ := lb_go C hl.1 X (u0 := .ref (ad 0)) (u1 := vI x) (u2 := vI w) (u3 := .ref (ad 139)) hB
    (fun vm₁ hW₁ => ⟨by show cells + 0 ≤ 601024; omega, by show slots + 0 ≤ 7293034; omega, rfl, by show va_P D vwCl (jWs ad cA σ) T.heap; rw [hT]; exact hP, jK.go hK0 hW₁ (by intro q h1 h2; show T.heap[q]? = _; rw [hT]; exact hS.2.1 q h1 h2), hD⟩)
  dsimp only [Pt.U, Pt.locs, Pt.cells, Pt.slots] at X' e1 e2 h1 h2 h3 stp
  subst h1; subst h2; subst h3
  obtain ⟨⟨r, σ', hv, ⟨rfl, rfl⟩, hP1, hK1, hD1⟩, hz, hk2⟩ := hq
  obtain rfl : v = some (vI 0) := by cases hv; rfl
  have hz' : H.size ≤ t.heap.size := by rw [← hT]; exact hz
  have hk' : ∀ q : Nat, q < H.size → ¬ s.heap.size ≤ q → t.heap[q]? = H[q]? := fun q h1 h2 => by rw [← hT] at h1 ⊢; exact hk2 q h1 h2
  have hS1 : va_S (fun q : Nat => s.heap.size ≤ q) s.heap U'.heap (locs ++ Ls) := ⟨Nat.le_trans hS.1 (by rw [e1]; exact hz'), fun q h1 h2 => by rw [e1, hk' q (Nat.lt_of_lt_of_le h1 hS.1) h2]; exact hS.2.1 q h1 h2, fun q hq => by
    rcases List.mem_append.mp hq with h | h
    · exact hS.2.2 q h
    · exact hLs q h⟩
  obtain ⟨t2, a1, b1⟩ := K U'.heap (locs ++ Ls) ls ⟨by rw [e1]; exact hP1, hD1, hS1⟩ hl U' rfl X'
  exact ⟨t2, stp t2 a1, b1⟩
