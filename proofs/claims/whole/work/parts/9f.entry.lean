/-! ===== the law from its entry ===== -/
theorem nwL_8 : kNW R_law 8 11 [.null, .null, .null, .null, .null, .null, .int 0, .null, .null, .null, .null, .null, .null, .int 0, .int 0] := ⟨(RX12, TX12, 15), rfl, gm1 26 (by decide +kernel), gm1 27 (by decide +kernel), gm1 1 (by decide +kernel), fun j hj => by
  revert hj
  revert j
  decide +kernel⟩
theorem nwL_16 : kNW R_law 16 12 [.int 0, .null, .int 0, .int 0, .int 0, .int 0, .int 0, .int 0, .int 0, .int 0, .int 0, .int 0, .int 0, .long 0, .int 0, .null, .null, .null, .null, .null, .null, .null, .null, .null, .null, .null, .null, .int 0, .null, .null, .null, .null, .null, .int 0, .int 0, .null, .int 0, .int 0, .null, .null, .null, .null, .null, .null, .null, .null, .int 0, .int 0, .int 0, .int 0, .int 0] := ⟨(RX13, TX13, 51), rfl, gm6 95 (by decide +kernel), gm6 96 (by decide +kernel), gm1 14 (by decide +kernel), fun j hj => by
  revert hj
  revert j
  decide +kernel⟩
theorem iiL_15 : kII R_law 15 miX12_init 0 := ⟨gm1 28 (by decide +kernel), gm1 29 (by decide +kernel), gm1 1 (by decide +kernel), gm1 30 ⟨rfl, rfl⟩, rfl, rfl, by decide +kernel, by decide +kernel, by decide +kernel⟩
theorem iiL_18 : kII R_law 18 miX13_init 0 := ⟨gm6 97 (by decide +kernel), gm6 98 (by decide +kernel), gm1 14 (by decide +kernel), gm6 99 ⟨rfl, rfl⟩, rfl, rfl, by decide +kernel, by decide +kernel, by decide +kernel⟩
section LS
variable {p : Program} {l : Launch} {e : Env} {s : State} {m : MethodId} {below : List Frame} {meth : Method} {c : Code} {b L : Nat} {xs : Nat → Int32} {D : va_G} {cA : Nat → ClassId} {pc : Nat} {lv : List (Nat × Value)} {st : List Value} {ws : va_W} {cells slots : Nat} {H : Heap} {locs : List Loc} {ls : Array Slot}
abbrev lA (s : State) : Nat → Prop := fun q : Nat => s.heap.size ≤ q
/-- a new object in the law -/
theorem lS_new {idx ci N : Nat} {fs : List Value} (C0 : lw_At p s m meth c b L xs) (hK : va_K D vwCl (jTys cA) s) (hd : decode code pc = .ok (.new idx, 3)) (hw : kNW R_law idx ci fs) (hN : (vwCl[ci]?.map (fun q => q.2.2)) = some N) (hc : cells + 1 ≤ room_1.cells) (hs : slots + N ≤ room_1.slots) (hP : va_P D vwCl ws H) (hD : va_D (lA s) ws) (hS : va_S (lA s) s.heap H locs)
    (k : ∀ q H1, va_P D vwCl (ws ++ [(q, .inr (ci, fs))]) H1 → va_D (lA s) (ws ++ [(q, .inr (ci, fs))]) → va_S (lA s) s.heap H1 locs → W p l e room_1 s m #[Value.ref b] below meth c H1 locs (cells + 1) (slots + N) (lw_Z below #[Value.ref b] s) (F0 m (pc + 3) ls (.ref q :: st))) : W p l e room_1 s m #[Value.ref b] below meth c H locs cells slots (lw_Z below #[Value.ref b] s) (F0 m pc ls st) := by
  obtain ⟨hx, hb, hr, hml, hown, hts, hX, hbl, hlocks, hgv⟩ := C0
  have htg : ∀ w ∈ lw_good, w.before #[Value.ref b] s = true := fun w h => hts w (lw_good_in h)
  obtain ⟨q, hq, w1, w2, w3, hfs⟩ := hw
  rw [hq] at hN
  cases hN
  obtain ⟨ty0, ht0, hnm⟩ := jClt ci q hq
  exact va_new (D := D) (cl := vwCl) (tys := jTys cA) (ws := ws) (C := q.1) (T := q.2.1) (N := q.2.2) (ci := ci) (fs := fs) hx hb htg (jClw ci q hq) ty0 ht0 hown (htg _ w1) (htg _ w2) (htg _ w3) hK hP hD hS (fun _ h => h) hq
    (fun j hj => by have a := hfs j hj; rw [ht0 j hj] at a; exact Option.some.inj a) hc hs hd (fun x H1 hP hD hS => k x H1 hP hD hS)
/-- its constructor is called -/
theorem lS_init {idx ci q mc2 ms2 : Nat} {y' : jMI} {fs : List Value} {rm : Room} {w0 : va_W} {Post : Nat → (Nat → ClassId) → va_W → Prop} (C0 : lw_At p s m meth c b L xs) (hK : va_K D vwCl (jTys cA) s) (hNs : kNs s) (hd : decode code pc = .ok (.invokespecial idx, 3)) (hw : kII R_law idx y' 0) (hM : Cn rm mc2 ms2 y' [] ci fs Post) (hcat : (st.map fun v => v.category).sum ≤ 8) (hrc : rm.cells = mc2) (hrs : rm.slots = ms2) (hR : rm.frames + 1 ≤ room_1.frames ∧ 8 + (y'.2.2.1 + 11) + rm.locals ≤ room_1.locals) (hc : cells + mc2 ≤ room_1.cells ∧ slots + ms2 ≤ room_1.slots)
    (hP : va_P D vwCl (w0 ++ [(q, .inr (ci, fs))]) H) (hD : va_D (lA s) (w0 ++ [(q, .inr (ci, fs))])) (hS : va_S (lA s) s.heap H locs) (hl : lv_has ls 7 lv)
    (k : ∀ wc H1 locs1, Post q cA wc → va_P D vwCl (w0 ++ wc) H1 → va_D (lA s) (w0 ++ wc) → va_S (lA s) s.heap H1 locs1 → W p l e room_1 s m #[Value.ref b] below meth c H1 locs1 (cells + mc2) (slots + ms2) (lw_Z below #[Value.ref b] s) (F0 m (pc + 3) ls st)) : W p l e room_1 s m #[Value.ref b] below meth c H locs cells slots (lw_Z below #[Value.ref b] s) (F0 m pc ls (.ref q :: st)) := by
  obtain ⟨hx, hb, hr, hml, hown, hts, hX, hbl, hlocks, hgv⟩ := C0
  have htg : ∀ w ∈ lw_good, w.before #[Value.ref b] s = true := fun w h => hts w (lw_good_in h)
  obtain ⟨c1, c2, c3, c4, c5, c6, c7⟩ := hw
  have hG : GoodIn lw_good (jW y') := lw_good_good (fun w h => by
    rcases List.mem_cons.mp h with rfl | h
    · rw [c5]; exact c4
    · exact h)
  have hFc := va_free (wc := [(q, .inr (ci, fs))]) hD hS (fun _ h => h) [w0.length] w_C
  have hPc : va_P D vwCl [(q, .inr (ci, fs))] H := hP.sub [w0.length] (by simp)
  have hDc : va_D (lA s) [(q, .inr (ci, fs))] := hD.sub [w0.length] (by simp [va_nd]) w_C
  have hw2 : jW y' = Cond.code y'.1 y'.2.1 y'.2.2.1 none :: lw_good := by unfold jW; rw [c5]
  refine va_callv (va_runI (As := []) (b := q) (rest := st) ⟨hx, hb, hml, hown, htg⟩ (hM l D cA q H.size) (cwI 0 htg hG hw2 hrc hrs (htg _ c3) (htg _ c1) (htg _ c2) c6 c7 hR)
    ⟨fun a U g mk z => ⟨z.1, z.2.1, z.2.2.1.same rfl, z.2.2.2.1, va_K.moved (u := U) (U := U.calling g mk a) (Vm.Alike.refl U.vm) z.2.2.2.2.1, z.2.2.2.2.2⟩, fun U hU hW => ⟨rfl, by rw [hU], hNs.warm hW, by rw [hU]; exact hPc, va_K.moved hW.alike hK, hDc.weaken (fun _ _ _ _ => trivial)⟩⟩ rfl rfl hl.1 rfl (lv_room hcat) hd hc) hS (fun x _ h => hFc x h) hFc (fun wc t H1 locs1 ht hvm hw hB hz1 hk1 hS => ?_)
  obtain ⟨hP1, hK1, hD1⟩ := hB
  rw [ht] at hP1
  obtain ⟨hP, hD⟩ := va_join (wr := w0) (w1 := wc) hP hD [w0.length] (List.range w0.length) w_C w_R (nd_of _ List.nodup_range) (fun i hi hj => by
    have a := List.mem_range.mp hi
    have b := List.mem_singleton.mp hj
    omega) hk1 hFc hP1 hD1
  exact k wc H1 locs1 hw hP hD hS
end LS

set_option maxHeartbeats 4000000 in
set_option maxRecDepth 100000 in
/-- from the entry, if the case that may throw holds -/
theorem law_start {p : Program} {e : Env} {s : State} {m : MethodId} {below : List Frame} {meth : Method} {c : Code} (l : Launch) {b L : Nat} {xs : Nat → Int32} (hL : L ≤ 3072) (C0 : lw_At p s m meth c b L xs) (hB : ∀ (ad : Nat → Nat) (D : va_G) (cA : Nat → ClassId), lC p s m meth c b L xs ad D cA → lBand p l e s m below meth c b L ad D cA) : W p l e room_1 s m #[Value.ref b] below meth c s.heap [] 0 0 (lw_Z below #[Value.ref b] s) (entryFrame m ([Value.ref b] : List Value).toArray 7) := by
  obtain ⟨hx, hb, hr, hml, hown, hts, hX, hbl, hlocks, hgv⟩ := id C0
  obtain ⟨D, cA, hK⟩ := st_K hts
  obtain ⟨x0, x1, x2, hStr⟩ := st_S hts hgv
  have hNs := st_N hts
  have hS : va_S (lA s) s.heap s.heap [] := va_S.rf
  have hP : va_P D vwCl [] s.heap := fun k q h => by simp at h
  have hD : va_D (lA s) [] := ⟨fun i j p q h => by simp at h, fun k q h => by simp at h⟩
  have hl := lv_entry ([.ref b]) (n := 7) (Nat.le_of_ble_eq_true rfl)
  rw [lg_entry_eq]
  generalize (lg_sl ([.ref b]) ++ List.replicate (7 - (lg_sl ([.ref b])).length) Slot.unset).toArray = ls at hl ⊢
  have hl : lv_has ls 7 [(0, .ref b)] := hl
  refine lS_new (N := 15) C0 hK (dc dkL0 0 rfl) nwL_8 rfl (Nat.le_of_ble_eq_true rfl) (Nat.le_of_ble_eq_true rfl) hP hD hS (fun q1 H hP hD hS => ?_)
  refine lv_dup hx hb (dc dkL0 1 rfl) rfl ?_
  refine lS_init C0 hK hNs (dc dkL0 2 rfl) iiL_15 nX12_init (Nat.le_of_ble_eq_true rfl) rfl rfl ⟨(Nat.le_of_ble_eq_true rfl), (Nat.le_of_ble_eq_true rfl)⟩ ⟨(Nat.le_of_ble_eq_true rfl), (Nat.le_of_ble_eq_true rfl)⟩ hP hD hS hl (fun wc H locs hwc hP hD hS => ?_)
  obtain ⟨ad1, e1, rfl⟩ := hwc
  refine lv_astore_n (lv' := [(1, .ref q1), (0, .ref b)]) hx hb (dc dkL0 3 rfl) rfl hl (by decide) rfl (fun ls hl => ?_)
  refine lS_new (N := 51) C0 hK (dc dkL0 4 rfl) nwL_16 rfl (Nat.le_of_ble_eq_true rfl) (Nat.le_of_ble_eq_true rfl) hP hD hS (fun q2 H hP hD hS => ?_)
  refine lv_dup hx hb (dc dkL0 5 rfl) rfl ?_
  refine lS_init C0 hK hNs (dc dkL0 6 rfl) iiL_18 nX13_init (Nat.le_of_ble_eq_true rfl) rfl rfl ⟨(Nat.le_of_ble_eq_true rfl), (Nat.le_of_ble_eq_true rfl)⟩ ⟨(Nat.le_of_ble_eq_true rfl), (Nat.le_of_ble_eq_true rfl)⟩ hP hD hS hl (fun wc H locs hwc hP hD hS => ?_)
  obtain ⟨m1, m2, m3, m4, m5, m6, m7, m8, m9, m10, m11, m12, m13, m14, m15, m16, m17, m18, m19, m20, m21, m22, m23, m24, m25, m26, m27, rfl⟩ := hwc
  refine lv_astore_n (lv' := [(2, .ref q2), (1, .ref q1), (0, .ref b)]) hx hb (dc dkL0 7 rfl) rfl hl (by decide) rfl (fun ls hl => ?_)
  refine lv_iconst (v := 1) hx hb (dc dkL0 8 rfl) (by decide) ?_
  refine va_newa (D := D) (cl := vwCl) (tys := jTys cA) (ty := .long) (N' := 1) (a0 := (1, .inr (.inl (fun _ => 0)))) hx hb (hts _ (lw_good_in aw_long)) rfl hK hP hD hS (fun _ h => h) (fun _ => rfl) (by decide) (by decide) (by decide) (Nat.le_of_ble_eq_true rfl) (Nat.le_of_ble_eq_true rfl) (dc dkL0 9 rfl) (fun r cA' H hK' hP hD hS => ?_)
  have eA : cA' = cA 1 := Option.some.inj (((hK'.2 6 (cA', .long) rfl).2 : s.vm.findClass _ = some cA').symm.trans ((hK.2 1 _ rfl).2 : s.vm.findClass _ = some (cA 1)))
  subst eA
  refine lv_astore_n (lv' := [(3, .ref r), (2, .ref q2), (1, .ref q1), (0, .ref b)]) hx hb (dc dkL0 10 rfl) rfl hl (by decide) rfl (fun ls hl => ?_)
  refine lv_iconst (v := 0) hx hb (dc dkL0 11 rfl) (by decide) ?_
  refine lv_istore (lv' := [(4, .int 0), (3, .ref r), (2, .ref q2), (1, .ref q1), (0, .ref b)]) hx hb (dc dkL0 12 rfl) hl (by decide) rfl (fun ls hl => ?_)
  -- one numbering of all cells
  obtain ⟨ad, had⟩ : ∃ ad : Nat → Nat, ad = fun k => if k < 111 then ad1 k else if k < 139 then ([q2, m1, m2, m3, m4, m5, m6, m7, m8, m9, m10, m11, m12, m13, m14, m15, m16, m17, m18, m19, m20, m21, m22, m23, m24, m25, m26, m27] : List Nat).getD (k - 111) 0 else if k = 139 then r else if k = 1000 then x0 else if k = 1001 then x1 else x2 := ⟨_, rfl⟩
  have a0 : ad 0 = q1 := by rw [had, ← e1]; rfl
  have a111 : ad 111 = q2 := by rw [had]; rfl
  have a139 : ad 139 = r := by rw [had]; rfl
  have w1 : w12 cA ad1 = w12 cA ad := by rw [had]; rfl
  have w2 : wX13 cA q2 m1 m2 m3 m4 m5 m6 m7 m8 m9 m10 m11 m12 m13 m14 m15 m16 m17 m18 m19 m20 m21 m22 m23 m24 m25 m26 m27 = wX13 cA (ad 111) (ad 112) (ad 113) (ad 114) (ad 115) (ad 116) (ad 117) (ad 118) (ad 119) (ad 120) (ad 121) (ad 122) (ad 123) (ad 124) (ad 125) (ad 126) (ad 127) (ad 128) (ad 129) (ad 130) (ad 131) (ad 132) (ad 133) (ad 134) (ad 135) (ad 136) (ad 137) (ad 138) := by rw [had]; rfl
  have hP : va_P D vwCl (wAll cA ad) H := by
    have z := hP
    rw [w1, w2, ← a139] at z
    exact z
  have hD : va_D (lA s) (wAll cA ad) := by
    have z := hD
    rw [w1, w2, ← a139] at z
    exact z
  have Cx : lC p s m meth c b L xs ad D cA := ⟨C0, ⟨hK, hStr ad (by rw [had]; rfl) (by rw [had]; rfl) (by rw [had]; rfl)⟩, hL⟩
  have hl2 : lv_has ls 7 (lvL b ad 0) := by
    unfold lvL
    rw [a0, a111, a139]
    exact lv_sub hl [4, 3, 2, 1, 0] rfl
  exact law_loop Cx (hB ad D cA Cx) (L + 1) 0 σ0 _ _ (by omega) (by omega) (by omega) Inv_0 (Nat.le_of_ble_eq_true rfl) (Nat.le_of_ble_eq_true rfl) H _ ls ⟨wAll_P hP, wAll_D hD, hS⟩ hl2
