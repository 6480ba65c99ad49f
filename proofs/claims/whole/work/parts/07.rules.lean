/-! ===== rows: fields and arrays ===== -/
theorem jN_all : jShp.all (fun h => match h with | .inl a => decide (a.2 ≤ 46656) | _ => true) = true := by decide +kernel
theorem jN {k t n : Nat} (h : jAr k = some (t, n)) : n ≤ 46656 := by
  have h1 := List.all_eq_true.mp jN_all _ (List.mem_of_getElem? (jAr_spec h))
  exact of_decide_eq_true h1
def jFL (own : String) (idx ci j : Nat) : Prop := ∃ q : vw_C, vwCl[ci]? = some q ∧ j < q.2.2 ∧ Cond.fieldLink own idx q.1 (q.2.1 j).2.1 (q.2.1 j).2.2.1 ∈ lw_good ∧ (q.2.1 j).1 = q.1
def jFP (own : String) (idx ci j : Nat) (ty : FieldType) : Prop := ∃ q : vw_C, vwCl[ci]? = some q ∧ j < q.2.2 ∧ Cond.fieldLink own idx q.1 (q.2.1 j).2.1 (q.2.1 j).2.2.1 ∈ lw_good ∧ (q.2.1 j).1 = q.1 ∧ (q.2.1 j).2.2.2 = false ∧ parseFieldDescriptor (q.2.1 j).2.2.1 = some ty
theorem jix {i : Int} {n : Nat} (h0 : 0 ≤ i) (h1 : i < n) (hn : n ≤ 46656) : vp_in (Int32.ofInt i) n ∧ (Int32.ofInt i).toNatClampNeg = i.toNat := by
  have e : (Int32.ofInt i).toInt = i := i_of ⟨by omega, by omega⟩
  refine ⟨vp_in_iff.mpr ⟨by rw [e]; exact h0, by rw [e]; exact h1⟩, ?_⟩
  show (Int32.ofInt i).toInt.toNat = _
  rw [e]
theorem jup_i (f : Int → Int) {i z : Int} (h0 : 0 ≤ i) : upd (fun j : Nat => Int32.ofInt (f j)) i.toNat (Int32.ofInt z) = fun j : Nat => Int32.ofInt (if (j : Int) = i then z else f j) := by
  funext j
  by_cases h : j = i.toNat
  · have h' : (j : Int) = i := by omega
    rw [upd, if_pos h, if_pos h']
  · have h' : ¬ (j : Int) = i := by omega
    simp [upd, h, h']
theorem jup_l (f : Int → Int) {i z : Int} (h0 : 0 ≤ i) : vp_updL (fun j : Nat => Int64.ofInt (f j)) i.toNat (Int64.ofInt z) = fun j : Nat => Int64.ofInt (if (j : Int) = i then z else f j) := by
  funext j
  by_cases h : j = i.toNat
  · have h' : (j : Int) = i := by omega
    rw [vp_updL, if_pos h, if_pos h']
  · have h' : ¬ (j : Int) = i := by omega
    simp [vp_updL, h, h']
theorem jup_a (ad : Nat → Nat) (f : Int → Int) {i : Int} (v : Nat) (h0 : 0 ≤ i) : va_up (fun j : Nat => some (ad (f j).toNat)) i.toNat (some (ad v)) = fun j : Nat => some (ad (if (j : Int) = i then (v : Int) else f j).toNat) := by
  funext j
  by_cases h : j = i.toNat
  · have h' : (j : Int) = i := by omega
    rw [va_up, if_pos h, if_pos h', Int.toNat_natCast]
  · have h' : ¬ (j : Int) = i := by omega
    simp [va_up, h, h']
theorem ju_row (σ : jS) (k : Nat) (i z : Int) : ju σ k i z k = fun j => if j = i then z else σ k j := by
  funext j
  simp [ju]
theorem ju_off (σ : jS) (k : Nat) (i z : Int) (k' : Nat) (h : k' ≠ k) : ju σ k i z k' = σ k' := by
  funext j
  simp [ju, h]
section JR3
variable {d : Nat} {y : jMI} {Po : Option Value → jS → Prop} {pc : Nat} {lv lv' : List (Nat × Value)} {st : List Value} {σ : jS}
theorem r_getI {k idx ci j r : Nat} (hd : decode y.2.1 pc = .ok (.getfield idx, 3)) (hf : jFL y.1.cls idx ci j) (hk : jFd k j = some (ci, 0, r)) (K : jR d y Po (pc + 3) lv (vI (σ k j) :: st) σ) : jR d y Po pc lv (.ref k :: st) σ := by
  intro p l e s m args below meth c ad A D cA H locs ls C Wd hl
  obtain ⟨q, hc, hj, hw, hq⟩ := hf
  obtain ⟨fs, hs, hfj⟩ := jFd_spec hk
  exact va_get (D := D) (cl := vwCl) (tys := jTys cA) (ws := jWs ad cA σ) (C := q.1) (T := q.2.1) (N := q.2.2) (ci := ci) C.1 C.2.1 C.2.2.2.2.2.1 (jClw ci q hc) C.2.2.2.2.1 Wd.1.1 Wd.2.1 k (jWs_get hs) hc j hj (C.2.2.2.2.2.1 _ hw) (fun x h => by rw [hq] at h; exact h)
    (v := vI (σ k j)) (by rw [List.getElem?_mapIdx, hfj]; rfl) hd (K p l e s m args below meth c ad A D cA H locs ls C Wd hl)
theorem r_getL {k idx ci j r : Nat} (hd : decode y.2.1 pc = .ok (.getfield idx, 3)) (hf : jFL y.1.cls idx ci j) (hk : jFd k j = some (ci, 1, r)) (K : jR d y Po (pc + 3) lv (vL (σ k j) :: st) σ) : jR d y Po pc lv (.ref k :: st) σ := by
  intro p l e s m args below meth c ad A D cA H locs ls C Wd hl
  obtain ⟨q, hc, hj, hw, hq⟩ := hf
  obtain ⟨fs, hs, hfj⟩ := jFd_spec hk
  exact va_get (D := D) (cl := vwCl) (tys := jTys cA) (ws := jWs ad cA σ) (C := q.1) (T := q.2.1) (N := q.2.2) (ci := ci) C.1 C.2.1 C.2.2.2.2.2.1 (jClw ci q hc) C.2.2.2.2.1 Wd.1.1 Wd.2.1 k (jWs_get hs) hc j hj (C.2.2.2.2.2.1 _ hw) (fun x h => by rw [hq] at h; exact h)
    (v := vL (σ k j)) (by rw [List.getElem?_mapIdx, hfj]; rfl) hd (K p l e s m args below meth c ad A D cA H locs ls C Wd hl)
theorem r_getR {k idx ci j r : Nat} (hd : decode y.2.1 pc = .ok (.getfield idx, 3)) (hf : jFL y.1.cls idx ci j) (hk : jFd k j = some (ci, 2, r)) (K : jR d y Po (pc + 3) lv (.ref r :: st) σ) : jR d y Po pc lv (.ref k :: st) σ := by
  intro p l e s m args below meth c ad A D cA H locs ls C Wd hl
  obtain ⟨q, hc, hj, hw, hq⟩ := hf
  obtain ⟨fs, hs, hfj⟩ := jFd_spec hk
  exact va_get (D := D) (cl := vwCl) (tys := jTys cA) (ws := jWs ad cA σ) (C := q.1) (T := q.2.1) (N := q.2.2) (ci := ci) C.1 C.2.1 C.2.2.2.2.2.1 (jClw ci q hc) C.2.2.2.2.1 Wd.1.1 Wd.2.1 k (jWs_get hs) hc j hj (C.2.2.2.2.2.1 _ hw) (fun x h => by rw [hq] at h; exact h)
    (v := .ref (ad r)) (by rw [List.getElem?_mapIdx, hfj]; rfl) hd (K p l e s m args below meth c ad A D cA H locs ls C Wd hl)
theorem jset_fs {ad : Nat → Nat} {f : Int → Int} {fs : List (Nat × Nat)} {j kd r : Nat} {v : Value} {z : Int} (hfj : fs[j]? = some (kd, r)) (hv : jFld ad (fun i => if i = (j : Int) then z else f i) j (kd, r) = v) : (fs.mapIdx (jFld ad f)).set j v = fs.mapIdx (jFld ad (fun i => if i = (j : Int) then z else f i)) := by
  apply List.ext_getElem?
  intro i
  by_cases hi : i = j
  · subst hi
    have hl : i < (fs.mapIdx (jFld ad f)).length := by rw [List.length_mapIdx]; exact (List.getElem?_eq_some_iff.mp hfj).1
    rw [List.getElem?_set_self hl, List.getElem?_mapIdx, hfj, ← hv]
    rfl
  · rw [List.getElem?_set_ne (fun h => hi h.symm), List.getElem?_mapIdx, List.getElem?_mapIdx]
    have e : jFld ad f i = jFld ad (fun i => if i = (j : Int) then z else f i) i := by
      funext q
      have hij : ¬ (i : Int) = (j : Int) := by omega
      simp [jFld, hij]
    rw [e]
theorem r_put {k idx ci j kd r : Nat} {ty : FieldType} {v : Value} {z : Int} (hkd : ∀ ad f, jFld ad f j (kd, r) = (if kd = 0 then vI (f j) else vL (f j))) (hv : v = if kd = 0 then vI z else vL z) (hn : narrow ty v = v) (hft : fits ty v = true) (hd : decode y.2.1 pc = .ok (.putfield idx, 3)) (hf : jFP y.1.cls idx ci j ty) (hk : jFd k j = some (ci, kd, r)) (K : jR d y Po (pc + 3) lv st (ju σ k j z)) : jR d y Po pc lv (v :: .ref k :: st) σ := by
  intro p l e s m args below meth c ad A D cA H locs ls C Wd hl
  obtain ⟨q, hc, hj, hw, hq, hfin, hty⟩ := hf
  obtain ⟨fs, hs, hfj⟩ := jFd_spec hk
  obtain ⟨ty0, ht0, hnm⟩ := jClt ci q hc
  have hjv : jv ad v = v := by rw [hv]; split <;> rfl
  show W _ _ _ _ _ _ _ _ _ _ _ _ _ _ _ (F0 m pc ls (jv ad v :: .ref (ad k) :: st.map (jv ad)))
  rw [hjv]
  refine va_put (D := D) (cl := vwCl) (tys := jTys cA) (ws := jWs ad cA σ) (C := q.1) (T := q.2.1) (N := q.2.2) (ci := ci) (ty := ty) (v := v) C.1 C.2.1 C.2.2.2.2.2.1 (jClw ci q hc) ty0 ht0 hnm C.2.2.2.2.1 Wd.1.1 Wd.2.1 Wd.2.2.1 Wd.2.2.2 k (jWs_get hs) hc j hj (C.2.2.2.2.2.1 _ hw) (fun x h => by rw [hq] at h; exact h) hfin hty hn hft
    (by rw [List.length_mapIdx]; exact (List.getElem?_eq_some_iff.mp hfj).1) hd (fun H1 locs1 hP hD hS => ?_)
  have e1 : (jWs ad cA σ).set k (ad k, .inr (ci, (fs.mapIdx (jFld ad (σ k))).set j v)) = jWs ad cA (ju σ k j z) := by
    rw [← jWs_set (σ := σ) (σ' := ju σ k j z) hs (fun k' h => ju_off σ k j z k' h)]
    congr 2
    show Sum.inr (ci, _) = Sum.inr (ci, fs.mapIdx (jFld ad (ju σ k j z k)))
    rw [ju_row, jset_fs hfj]
    rw [hkd, hv]
    simp
  rw [e1] at hP hD
  exact K p l e s m args below meth c ad A D cA H1 locs1 ls C ⟨Wd.1, hP, hD, hS⟩ hl
theorem r_putI {k idx ci j r : Nat} {z : Int} (hd : decode y.2.1 pc = .ok (.putfield idx, 3)) (hf : jFP y.1.cls idx ci j .int) (hk : jFd k j = some (ci, 0, r)) (K : jR d y Po (pc + 3) lv st (ju σ k j z)) : jR d y Po pc lv (vI z :: .ref k :: st) σ :=
  r_put (fun _ _ => rfl) rfl rfl rfl hd hf hk K
theorem r_putL {k idx ci j r : Nat} {z : Int} (hd : decode y.2.1 pc = .ok (.putfield idx, 3)) (hf : jFP y.1.cls idx ci j .long) (hk : jFd k j = some (ci, 1, r)) (K : jR d y Po (pc + 3) lv st (ju σ k j z)) : jR d y Po pc lv (vL z :: .ref k :: st) σ :=
  r_put (fun _ _ => rfl) rfl rfl rfl hd hf hk K
theorem r_putZ {k idx ci j r : Nat} {z : Int} (hz : z = 0 ∨ z = 1) (hd : decode y.2.1 pc = .ok (.putfield idx, 3)) (hf : jFP y.1.cls idx ci j .boolean) (hk : jFd k j = some (ci, 0, r)) (K : jR d y Po (pc + 3) lv st (ju σ k j z)) : jR d y Po pc lv (vI z :: .ref k :: st) σ := by
  refine r_put (fun _ _ => rfl) rfl ?_ ?_ hd hf hk K
  · rcases hz with rfl | rfl <;> decide +kernel
  · rcases hz with rfl | rfl <;> decide +kernel
theorem r_iald {a : Nat} {n : Nat} {i : Int} (hd : decode y.2.1 pc = .ok (.iaload, 1)) (ha : jAr a = some (0, n)) (hi : 0 ≤ i ∧ i < n) (K : jR d y Po (pc + 1) lv (vI (σ a i) :: st) σ) : jR d y Po pc lv (vI i :: .ref a :: st) σ := by
  intro p l e s m args below meth c ad A D cA H locs ls C Wd hl
  obtain ⟨h1, h2⟩ := jix hi.1 hi.2 (jN ha)
  refine va_iald (D := D) (cl := vwCl) (tys := jTys cA) (ws := jWs ad cA σ) C.1 C.2.1 Wd.1.1 Wd.2.1 a 0 (jWs_get (jAr_spec ha)) rfl h1 hd ?_
  rw [h2, Int.toNat_of_nonneg hi.1]
  exact K p l e s m args below meth c ad A D cA H locs ls C Wd hl
theorem r_bald {a : Nat} {n : Nat} {i : Int} (hd : decode y.2.1 pc = .ok (.baload, 1)) (ha : jAr a = some (2, n)) (hi : 0 ≤ i ∧ i < n) (K : jR d y Po (pc + 1) lv (vI (σ a i) :: st) σ) : jR d y Po pc lv (vI i :: .ref a :: st) σ := by
  intro p l e s m args below meth c ad A D cA H locs ls C Wd hl
  obtain ⟨h1, h2⟩ := jix hi.1 hi.2 (jN ha)
  refine va_bald (D := D) (cl := vwCl) (tys := jTys cA) (ws := jWs ad cA σ) C.1 C.2.1 Wd.1.1 Wd.2.1 a 2 (jWs_get (jAr_spec ha)) rfl h1 hd ?_
  rw [h2, Int.toNat_of_nonneg hi.1]
  exact K p l e s m args below meth c ad A D cA H locs ls C Wd hl
theorem r_zald {a : Nat} {n : Nat} {i : Int} (hd : decode y.2.1 pc = .ok (.baload, 1)) (ha : jAr a = some (3, n)) (hi : 0 ≤ i ∧ i < n) (K : jR d y Po (pc + 1) lv (vI (σ a i) :: st) σ) : jR d y Po pc lv (vI i :: .ref a :: st) σ := by
  intro p l e s m args below meth c ad A D cA H locs ls C Wd hl
  obtain ⟨h1, h2⟩ := jix hi.1 hi.2 (jN ha)
  refine va_zald (D := D) (cl := vwCl) (tys := jTys cA) (ws := jWs ad cA σ) C.1 C.2.1 Wd.1.1 Wd.2.1 a 3 (jWs_get (jAr_spec ha)) rfl h1 hd ?_
  rw [h2, Int.toNat_of_nonneg hi.1]
  exact K p l e s m args below meth c ad A D cA H locs ls C Wd hl
theorem r_lald {a : Nat} {n : Nat} {i : Int} (hd : decode y.2.1 pc = .ok (.laload, 1)) (ha : jAr a = some (1, n)) (hi : 0 ≤ i ∧ i < n) (K : jR d y Po (pc + 1) lv (vL (σ a i) :: st) σ) : jR d y Po pc lv (vI i :: .ref a :: st) σ := by
  intro p l e s m args below meth c ad A D cA H locs ls C Wd hl
  obtain ⟨h1, h2⟩ := jix hi.1 hi.2 (jN ha)
  refine va_lald (D := D) (cl := vwCl) (tys := jTys cA) (ws := jWs ad cA σ) C.1 C.2.1 Wd.1.1 Wd.2.1 a 1 (jWs_get (jAr_spec ha)) rfl h1 hd ?_
  rw [h2, Int.toNat_of_nonneg hi.1]
  exact K p l e s m args below meth c ad A D cA H locs ls C Wd hl
theorem r_aald {a : Nat} {t n : Nat} {i : Int} (hd : decode y.2.1 pc = .ok (.aaload, 1)) (ha : jAr a = some (t, n)) (ht : t = 4 ∨ t = 5) (hi : 0 ≤ i ∧ i < n) (K : jR d y Po (pc + 1) lv (.ref (σ a i).toNat :: st) σ) : jR d y Po pc lv (vI i :: .ref a :: st) σ := by
  intro p l e s m args below meth c ad A D cA H locs ls C Wd hl
  obtain ⟨h1, h2⟩ := jix hi.1 hi.2 (jN ha)
  rcases ht with rfl | rfl
  · refine va_aldq (D := D) (cl := vwCl) (tys := jTys cA) (ws := jWs ad cA σ) C.1 C.2.1 Wd.1.1 Wd.2.1 a 4 (jWs_get (jAr_spec ha)) rfl h1 hd ?_
    rw [h2, Int.toNat_of_nonneg hi.1]
    exact K p l e s m args below meth c ad A D cA H locs ls C Wd hl
  · refine va_aldq (D := D) (cl := vwCl) (tys := jTys cA) (ws := jWs ad cA σ) C.1 C.2.1 Wd.1.1 Wd.2.1 a 5 (jWs_get (jAr_spec ha)) rfl h1 hd ?_
    rw [h2, Int.toNat_of_nonneg hi.1]
    exact K p l e s m args below meth c ad A D cA H locs ls C Wd hl
theorem r_alen {a : Nat} {t n : Nat} (hd : decode y.2.1 pc = .ok (.arraylength, 1)) (ha : jAr a = some (t, n)) (ht : t < 6) (K : jR d y Po (pc + 1) lv (vI n :: st) σ) : jR d y Po pc lv (.ref a :: st) σ := by
  intro p l e s m args below meth c ad A D cA H locs ls C Wd hl
  have ht' : ∃ ty, (jTys cA)[t]? = some (cA t, ty) := by
    match t, ht with
    | 0, _ => exact ⟨_, rfl⟩
    | 1, _ => exact ⟨_, rfl⟩
    | 2, _ => exact ⟨_, rfl⟩
    | 3, _ => exact ⟨_, rfl⟩
    | 4, _ => exact ⟨_, rfl⟩
    | 5, _ => exact ⟨_, rfl⟩
  obtain ⟨ty, hty⟩ := ht'
  exact va_alen (D := D) (cl := vwCl) (tys := jTys cA) (ws := jWs ad cA σ) C.1 C.2.1 Wd.1.1 Wd.2.1 a t (jWs_get (jAr_spec ha)) hty (v := Int32.ofInt n) (Int32.ofInt_eq_ofNat).symm hd (K p l e s m args below meth c ad A D cA H locs ls C Wd hl)
theorem r_iast {a : Nat} {n : Nat} {i z : Int} (hd : decode y.2.1 pc = .ok (.iastore, 1)) (ha : jAr a = some (0, n)) (hi : 0 ≤ i ∧ i < n) (K : jR d y Po (pc + 1) lv st (ju σ a i z)) : jR d y Po pc lv (vI z :: vI i :: .ref a :: st) σ := by
  intro p l e s m args below meth c ad A D cA H locs ls C Wd hl
  obtain ⟨h1, h2⟩ := jix hi.1 hi.2 (jN ha)
  refine va_iast (D := D) (cl := vwCl) (tys := jTys cA) (ws := jWs ad cA σ) C.1 C.2.1 Wd.1.1 Wd.2.1 Wd.2.2.1 Wd.2.2.2 a 0 (jWs_get (jAr_spec ha)) rfl h1 hd (fun H1 locs1 hP hD hS => ?_)
  rw [h2, jup_i _ hi.1] at hP hD
  have e1 := jWs_set (ad := ad) (cA := cA) (σ := σ) (σ' := ju σ a i z) (jAr_spec ha) (fun k' h => ju_off σ a i z k' h)
  rw [ju_row] at e1
  have hP := e1 ▸ hP
  have hD := e1 ▸ hD
  exact K p l e s m args below meth c ad A D cA H1 locs1 ls C ⟨Wd.1, hP, hD, hS⟩ hl
theorem r_last {a : Nat} {n : Nat} {i z : Int} (hd : decode y.2.1 pc = .ok (.lastore, 1)) (ha : jAr a = some (1, n)) (hi : 0 ≤ i ∧ i < n) (K : jR d y Po (pc + 1) lv st (ju σ a i z)) : jR d y Po pc lv (vL z :: vI i :: .ref a :: st) σ := by
  intro p l e s m args below meth c ad A D cA H locs ls C Wd hl
  obtain ⟨h1, h2⟩ := jix hi.1 hi.2 (jN ha)
  refine va_last (D := D) (cl := vwCl) (tys := jTys cA) (ws := jWs ad cA σ) C.1 C.2.1 Wd.1.1 Wd.2.1 Wd.2.2.1 Wd.2.2.2 a 1 (jWs_get (jAr_spec ha)) rfl h1 hd (fun H1 locs1 hP hD hS => ?_)
  rw [h2, jup_l _ hi.1] at hP hD
  have e1 := jWs_set (ad := ad) (cA := cA) (σ := σ) (σ' := ju σ a i z) (jAr_spec ha) (fun k' h => ju_off σ a i z k' h)
  rw [ju_row] at e1
  have hP := e1 ▸ hP
  have hD := e1 ▸ hD
  exact K p l e s m args below meth c ad A D cA H1 locs1 ls C ⟨Wd.1, hP, hD, hS⟩ hl
theorem nar_b (z : Int) : vp_nar .byte (Int32.ofInt z) = Int32.ofInt (z.bmod 256) := by rw [vp_nar_byte, i2b_eq]
theorem nar_z {z : Int} (h : z = 0 ∨ z = 1) : vp_nar .boolean (Int32.ofInt z) = Int32.ofInt z := by rcases h with rfl | rfl <;> decide +kernel
theorem r_bast {a : Nat} {n : Nat} {i z : Int} (hd : decode y.2.1 pc = .ok (.bastore, 1)) (ha : jAr a = some (2, n)) (hi : 0 ≤ i ∧ i < n) (K : jR d y Po (pc + 1) lv st (ju σ a i (z.bmod 256))) : jR d y Po pc lv (vI z :: vI i :: .ref a :: st) σ := by
  intro p l e s m args below meth c ad A D cA H locs ls C Wd hl
  obtain ⟨h1, h2⟩ := jix hi.1 hi.2 (jN ha)
  refine va_bast (D := D) (cl := vwCl) (tys := jTys cA) (ws := jWs ad cA σ) C.1 C.2.1 Wd.1.1 Wd.2.1 Wd.2.2.1 Wd.2.2.2 a 2 (jWs_get (jAr_spec ha)) rfl h1 hd (fun H1 locs1 hP hD hS => ?_)
  rw [h2, nar_b, jup_i _ hi.1] at hP hD
  have e1 := jWs_set (ad := ad) (cA := cA) (σ := σ) (σ' := ju σ a i (z.bmod 256)) (jAr_spec ha) (fun k' h => ju_off σ a i _ k' h)
  rw [ju_row] at e1
  have hP := e1 ▸ hP
  have hD := e1 ▸ hD
  exact K p l e s m args below meth c ad A D cA H1 locs1 ls C ⟨Wd.1, hP, hD, hS⟩ hl
theorem r_zast {a : Nat} {n : Nat} {i z : Int} (hd : decode y.2.1 pc = .ok (.bastore, 1)) (ha : jAr a = some (3, n)) (hz : z = 0 ∨ z = 1) (hi : 0 ≤ i ∧ i < n) (K : jR d y Po (pc + 1) lv st (ju σ a i z)) : jR d y Po pc lv (vI z :: vI i :: .ref a :: st) σ := by
  intro p l e s m args below meth c ad A D cA H locs ls C Wd hl
  obtain ⟨h1, h2⟩ := jix hi.1 hi.2 (jN ha)
  refine va_zast (D := D) (cl := vwCl) (tys := jTys cA) (ws := jWs ad cA σ) C.1 C.2.1 Wd.1.1 Wd.2.1 Wd.2.2.1 Wd.2.2.2 a 3 (jWs_get (jAr_spec ha)) rfl h1 hd (fun H1 locs1 hP hD hS => ?_)
  rw [h2, nar_z hz, jup_i _ hi.1] at hP hD
  have e1 := jWs_set (ad := ad) (cA := cA) (σ := σ) (σ' := ju σ a i z) (jAr_spec ha) (fun k' h => ju_off σ a i z k' h)
  rw [ju_row] at e1
  have hP := e1 ▸ hP
  have hD := e1 ▸ hD
  exact K p l e s m args below meth c ad A D cA H1 locs1 ls C ⟨Wd.1, hP, hD, hS⟩ hl
/-- past: an array of Bands -/
theorem r_aast {a v : Nat} {n : Nat} {i : Int} (hd : decode y.2.1 pc = .ok (.aastore, 1)) (ha : jAr a = some (4, n)) (hv : jOb v = some 0) (hi : 0 ≤ i ∧ i < n) (K : jR d y Po (pc + 1) lv st (ju σ a i v)) : jR d y Po pc lv (.ref v :: vI i :: .ref a :: st) σ := by
  intro p l e s m args below meth c ad A D cA H locs ls C Wd hl
  obtain ⟨h1, h2⟩ := jix hi.1 hi.2 (jN ha)
  obtain ⟨fs, hs⟩ := jOb_spec hv
  refine va_astq (D := D) (cl := vwCl) (tys := jTys cA) (ws := jWs ad cA σ) (r := (RX0, TX0, 4)) C.1 C.2.1 Wd.1.1 Wd.2.1 Wd.2.2.1 Wd.2.2.2 a 4 v 0 (jWs_get (jAr_spec ha)) rfl (jWs_get hs) rfl h1 hd (fun H1 locs1 hP hD hS => ?_)
  rw [h2, jup_a ad _ v hi.1] at hP hD
  have e1 := jWs_set (ad := ad) (cA := cA) (σ := σ) (σ' := ju σ a i v) (jAr_spec ha) (fun k' h => ju_off σ a i _ k' h)
  rw [ju_row] at e1
  have hP := e1 ▸ hP
  have hD := e1 ▸ hD
  exact K p l e s m args below meth c ad A D cA H1 locs1 ls C ⟨Wd.1, hP, hD, hS⟩ hl
end JR3
