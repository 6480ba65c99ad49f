/-! ===== the first state ===== -/
def σ0 : jS := fun k i => if k = 7 then (if i = 0 then 53 else 66) else if k = 8 then 79 + 4 * i else 0
theorem z_row {k : Nat} (h : ¬ k = 7 ∧ ¬ k = 8) : σ0 k = fun _ => 0 := by
  funext i
  unfold σ0
  rw [if_neg h.1, if_neg h.2]
theorem bt_z0 (i : Int) : ¬ bt 0 i := by
  unfold bt
  rw [show (Int64.ofInt 0).toBitVec = 0#64 by decide]
  simp
theorem Inv_0 : Inv σ0 := by
  have z : ∀ k : Nat, ¬ k = 7 ∧ ¬ k = 8 → ∀ i, σ0 k i = 0 := fun k h i => by rw [z_row h]
  have okA0 : ∀ k : Nat, 20 ≤ k → okA σ0 k := by
    intro k hk
    refine ⟨⟨by rw [z _ (by omega)]; decide, fun b _ _ => by rw [z _ (by omega)]; decide, fun j _ _ => by rw [z _ (by omega)]; decide, fun j _ _ => by rw [z _ (by omega)]; decide⟩, fun j _ _ => by rw [z _ (by omega)]; decide, by rw [z _ (by omega)]; decide, by rw [z _ (by omega)]; decide⟩
  refine ⟨⟨?_, ?_, ?_⟩, ⟨?_, ?_⟩, ⟨⟨?_, ?_, okA0 28 (by decide)⟩, ⟨⟨?_, ?_, ?_⟩, ?_, ?_⟩, ⟨?_, ?_, ?_⟩, ⟨?_, ?_, ?_⟩, ?_⟩, ⟨⟨rfl, rfl⟩, ⟨?_, ?_, ⟨?_, ?_⟩, ?_⟩, ⟨?_, ?_, ⟨?_, ?_⟩, ?_⟩⟩, ⟨⟨?_, ?_, ⟨?_, ?_⟩⟩, ?_⟩, ⟨?_, ?_, ?_⟩, ?_, ⟨okA0 41 (by decide), ?_⟩⟩
  · rw [z _ (by decide)]; decide
  · rw [z _ (by decide), z _ (by decide)]
  · intro i i0 i1; rw [z _ (by decide)] at i1; omega
  · rw [z _ (by decide), z _ (by decide)]
  · rw [z _ (by decide), z _ (by decide)]
  · refine ⟨Or.inl ⟨z _ (by decide) _, z _ (by decide) _⟩, by rw [z _ (by decide)]; decide, by rw [z _ (by decide)]; decide, by rw [z _ (by decide)]; decide, fun p _ _ => ⟨by rw [z _ (by decide)]; decide, fun h => absurd (z _ (by decide) _) h⟩, ?_, fun b b0 b1 => by rw [z _ (by decide)] at b1; omega⟩
    rw [z _ (by decide), sm_z 100 (fun i _ _ => z _ (by decide) _)]
  · refine ⟨by rw [z _ (by decide), z _ (by decide)], by rw [z _ (by decide), z _ (by decide)], by rw [z _ (by decide), z _ (by decide)], by rw [z _ (by decide), z _ (by decide)], by rw [z _ (by decide), z _ (by decide)], fun p _ _ => ?_, fun b b0 b1 => by rw [z _ (by decide)] at b1; omega⟩
    refine ⟨fun h => ?_, fun h => absurd (z _ (by decide) _) h⟩
    unfold outB at h
    rw [z _ (by decide), z _ (by decide)] at h
    split at h <;> exact absurd h (bt_z0 _)
  · rw [z _ (by decide)]; decide
  · intro i i0 i1; rw [z _ (by decide)] at i1; omega
  · intro i j i0 ij j1; rw [z _ (by decide)] at j1; omega
  · intro b b0 b1; rw [z _ (by decide)] at b1; omega
  · intro j _ _; rw [z _ (by decide)]; decide
  · rw [z _ (by decide), z _ (by decide)]
  · exact okC_0 (fun j _ _ => z _ (by decide) _)
  · exact Or.inl ⟨z _ (by decide) _, z _ (by decide) _⟩
  · rw [z _ (by decide), z _ (by decide)]
  · exact okGm_0 (z _ (by decide) _)
  · intro k k0 k1; rw [z _ (by decide)] at k1; omega
  · exact Or.inl ⟨z _ (by decide) _, z _ (by decide) _⟩
  · rw [z _ (by decide)]; decide
  · rw [z _ (by decide), z _ (by decide)]
  · rw [z _ (by decide)]; decide
  · rw [z _ (by decide)]; decide
  · intro h; rw [z _ (by decide)] at h; exact absurd h (by decide)
  · rw [z _ (by decide)]; decide
  · rw [z _ (by decide), z _ (by decide)]
  · rw [z _ (by decide)]; decide
  · rw [z _ (by decide)]; decide
  · intro h; rw [z _ (by decide)] at h; exact absurd h (by decide)
  · rw [z _ (by decide), z _ (by decide)]
  · rw [z _ (by decide)]; decide
  · intro i i0 i1
    have e : σ0 8 i = 79 + 4 * i := rfl
    rw [e]; unfold isPst; omega
  · intro i j i0 ij j1
    have e : ∀ i, σ0 8 i = 79 + 4 * i := fun _ => rfl
    rw [e, e]; omega
  · intro i i0 i1; rw [z _ (by decide)] at i1; omega
  · rw [z _ (by decide)]; decide
  · rw [z _ (by decide), z _ (by decide)]
  · intro j j0 j1; rw [z _ (by decide)] at j1; omega
  · exact ⟨[], by rw [z 4 (by decide)]; exact TX_0 _, by rw [z 111 (by decide)]; exact TX_0 _, by decide, fun x h => by cases h⟩
  · intro j _ _; rw [z _ (by decide)]; decide
/-! ===== the worlds, by their numbers ===== -/
theorem jWs_fst (ad : Nat → Nat) (cA : Nat → ClassId) (σ : jS) : (jWs ad cA σ).map (fun q => q.1) = (List.range 140).map ad := by
  have hl : jShp.length = 140 := by decide +kernel
  apply List.ext_getElem?
  intro i
  unfold jWs
  rw [List.getElem?_map, List.getElem?_mapIdx, List.getElem?_map]
  by_cases h : i < 140
  · rw [List.getElem?_range h, List.getElem?_eq_getElem (by rw [hl]; exact h)]; rfl
  · rw [List.getElem?_eq_none (by rw [hl]; omega), List.getElem?_eq_none (by rw [List.length_range]; omega)]; rfl
theorem jf0 (ad : Nat → Nat) (l : List (Nat × Nat)) : l.mapIdx (jFld ad (fun _ => 0)) = l.map (fun q => jFld ad (fun _ => 0) 0 q) := by
  apply List.ext_getElem?
  intro i
  rw [List.getElem?_mapIdx, List.getElem?_map]
  cases l[i]? <;> rfl
theorem arrV_c {c : ClassId} {n : Nat} {f g : Nat → Value} (h : ∀ j, j < n → f j = g j) : arrV c n f = arrV c n g := by
  unfold arrV
  congr 1
  congr 1
  funext j
  exact h j.val j.isLt

def wAll (cA : Nat → ClassId) (ad : Nat → Nat) : va_W := ((w12 cA ad ++ wX13 cA (ad 111) (ad 112) (ad 113) (ad 114) (ad 115) (ad 116) (ad 117) (ad 118) (ad 119) (ad 120) (ad 121) (ad 122) (ad 123) (ad 124) (ad 125) (ad 126) (ad 127) (ad 128) (ad 129) (ad 130) (ad 131) (ad 132) (ad 133) (ad 134) (ad 135) (ad 136) (ad 137) (ad 138)) ++ [((ad 139), .inl (cA 1, 1, .inr (.inl (fun _ => 0))))])
theorem fX0_fst (cA : Nat → ClassId) (a0 a1 a2 a3 : Nat) : (wX0 cA a0 a1 a2 a3).map (fun q => q.1) = [a0, a1, a2, a3] := rfl
theorem fX8_fst (cA : Nat → ClassId) (a0 a1 a2 : Nat) : (wX8 cA a0 a1 a2).map (fun q => q.1) = [a0, a1, a2] := rfl
theorem fX11_fst (cA : Nat → ClassId) (a0 a1 a2 a3 a4 a5 a6 a7 a8 a9 a10 a11 a12 : Nat) : (wX11 cA a0 a1 a2 a3 a4 a5 a6 a7 a8 a9 a10 a11 a12).map (fun q => q.1) = [a0, a1, a2, a3, a4, a5, a6, a7, a8, a9, a10, a11, a12] := rfl
theorem fX10_fst (cA : Nat → ClassId) (a0 a1 a2 a3 a4 a5 : Nat) : (wX10 cA a0 a1 a2 a3 a4 a5).map (fun q => q.1) = [a0, a1, a2, a3, a4, a5] := rfl
theorem fX2_79_fst (cA : Nat → ClassId) (a0 a1 : Nat) : (wX2_79 cA a0 a1).map (fun q => q.1) = [a0, a1] := rfl
theorem fX6_fst (cA : Nat → ClassId) (a0 a1 : Nat) : (wX6 cA a0 a1).map (fun q => q.1) = [a0, a1] := rfl
theorem fX5_fst (cA : Nat → ClassId) (a0 a1 a2 a3 a4 a5 : Nat) : (wX5 cA a0 a1 a2 a3 a4 a5).map (fun q => q.1) = [a0, a1, a2, a3, a4, a5] := rfl
theorem fX4_fst (cA : Nat → ClassId) (a0 a1 a2 a3 : Nat) : (wX4 cA a0 a1 a2 a3).map (fun q => q.1) = [a0, a1, a2, a3] := rfl
theorem fX13_fst (cA : Nat → ClassId) (a0 a1 a2 a3 a4 a5 a6 a7 a8 a9 a10 a11 a12 a13 a14 a15 a16 a17 a18 a19 a20 a21 a22 a23 a24 a25 a26 a27 : Nat) : (wX13 cA a0 a1 a2 a3 a4 a5 a6 a7 a8 a9 a10 a11 a12 a13 a14 a15 a16 a17 a18 a19 a20 a21 a22 a23 a24 a25 a26 a27).map (fun q => q.1) = [a0, a1, a2, a3, a4, a5, a6, a7, a8, a9, a10, a11, a12, a13, a14, a15, a16, a17, a18, a19, a20, a21, a22, a23, a24, a25, a26, a27] := rfl
set_option maxRecDepth 100000 in
set_option maxHeartbeats 40000000 in
theorem wAll_fst (cA : Nat → ClassId) (ad : Nat → Nat) : (wAll cA ad).map (fun q => q.1) = ([0, 8, 7, 1, 2, 3, 27, 28, 29, 30, 31, 32, 33, 34, 35, 36, 37, 38, 39, 40, 41, 42, 43, 44, 45, 46, 47, 48, 49, 50, 51, 52, 6, 9, 10, 11, 12, 13, 14, 4, 5, 15, 16, 17, 18, 19, 20, 21, 22, 23, 24, 25, 26, 53, 54, 55, 56, 57, 58, 59, 60, 61, 62, 63, 64, 65, 66, 67, 68, 69, 70, 71, 72, 73, 74, 75, 76, 77, 78, 79, 80, 81, 82, 83, 84, 85, 86, 87, 88, 89, 90, 91, 92, 93, 94, 95, 96, 97, 98, 99, 100, 101, 102, 103, 104, 105, 106, 107, 108, 109, 110, 111, 112, 113, 114, 115, 116, 117, 118, 119, 120, 121, 122, 123, 124, 125, 126, 127, 128, 129, 130, 131, 132, 133, 134, 135, 136, 137, 138, 139] : List Nat).map ad := by
  unfold wAll w12
  simp only [List.map_append, List.map_cons, List.map_nil, fX0_fst, fX8_fst, fX11_fst, fX10_fst, fX2_79_fst, fX6_fst, fX5_fst, fX4_fst, fX13_fst, List.cons_append, List.nil_append, List.append_assoc, List.append_nil]
set_option maxRecDepth 100000 in
theorem PL_p : ([0, 8, 7, 1, 2, 3, 27, 28, 29, 30, 31, 32, 33, 34, 35, 36, 37, 38, 39, 40, 41, 42, 43, 44, 45, 46, 47, 48, 49, 50, 51, 52, 6, 9, 10, 11, 12, 13, 14, 4, 5, 15, 16, 17, 18, 19, 20, 21, 22, 23, 24, 25, 26, 53, 54, 55, 56, 57, 58, 59, 60, 61, 62, 63, 64, 65, 66, 67, 68, 69, 70, 71, 72, 73, 74, 75, 76, 77, 78, 79, 80, 81, 82, 83, 84, 85, 86, 87, 88, 89, 90, 91, 92, 93, 94, 95, 96, 97, 98, 99, 100, 101, 102, 103, 104, 105, 106, 107, 108, 109, 110, 111, 112, 113, 114, 115, 116, 117, 118, 119, 120, 121, 122, 123, 124, 125, 126, 127, 128, 129, 130, 131, 132, 133, 134, 135, 136, 137, 138, 139] : List Nat).Perm (List.range 140) := by decide +kernel
theorem wAll_D {A : Nat → Prop} {cA : Nat → ClassId} {ad : Nat → Nat} (h : va_D A (wAll cA ad)) : va_D A (jWs ad cA σ0) := by
  rw [vaD_iff] at h ⊢
  rw [wAll_fst] at h
  have hp := PL_p.map ad
  rw [jWs_fst]
  refine ⟨hp.nodup_iff.mp h.1, fun q hq => ?_⟩
  have h1 : q.1 ∈ (jWs ad cA σ0).map (fun q => q.1) := List.mem_map.mpr ⟨q, hq, rfl⟩
  rw [jWs_fst] at h1
  have h2 := hp.mem_iff.mpr h1
  rw [← wAll_fst cA ad] at h2
  obtain ⟨q', h3, h4⟩ := List.mem_map.mp h2
  have := h.2 q' h3
  rw [← h4]
  exact this
set_option maxRecDepth 100000 in
set_option maxHeartbeats 4000000 in
theorem bl_1 {D : va_G} {cA : Nat → ClassId} {ad : Nat → Nat} {H : Heap} (hc : va_P D vwCl (wX8 cA (ad 1) (ad 2) (ad 3)) H) : ∀ (j : Nat) (h : jSh), j < 3 → jShp[1 + j]? = some h → va_at D vwCl (ad (1 + j), jCell ad cA (σ0 (1 + j)) h) H := by
  intro j h hj hh
  match j, hj, hh with
  | 0, _, hh => cases hh; exact hc 0 _ rfl
  | 1, _, hh => cases hh; exact hc 1 _ rfl
  | 2, _, hh => cases hh; exact hc 2 _ rfl
  | j + 3, hj, _ => exact absurd hj (by omega)
set_option maxRecDepth 100000 in
set_option maxHeartbeats 4000000 in
theorem bl_27 {D : va_G} {cA : Nat → ClassId} {ad : Nat → Nat} {H : Heap} (hc : va_P D vwCl (wX11 cA (ad 27) (ad 28) (ad 29) (ad 30) (ad 31) (ad 32) (ad 33) (ad 34) (ad 35) (ad 36) (ad 37) (ad 38) (ad 39)) H) : ∀ (j : Nat) (h : jSh), j < 13 → jShp[27 + j]? = some h → va_at D vwCl (ad (27 + j), jCell ad cA (σ0 (27 + j)) h) H := by
  intro j h hj hh
  match j, hj, hh with
  | 0, _, hh => cases hh; exact hc 0 _ rfl
  | 1, _, hh => cases hh; exact hc 1 _ rfl
  | 2, _, hh => cases hh; exact hc 2 _ rfl
  | 3, _, hh => cases hh; exact hc 3 _ rfl
  | 4, _, hh => cases hh; exact hc 4 _ rfl
  | 5, _, hh => cases hh; exact hc 5 _ rfl
  | 6, _, hh => cases hh; exact hc 6 _ rfl
  | 7, _, hh => cases hh; exact hc 7 _ rfl
  | 8, _, hh => cases hh; exact hc 8 _ rfl
  | 9, _, hh => cases hh; exact hc 9 _ rfl
  | 10, _, hh => cases hh; exact hc 10 _ rfl
  | 11, _, hh => cases hh; exact hc 11 _ rfl
  | 12, _, hh => cases hh; exact hc 12 _ rfl
  | j + 13, hj, _ => exact absurd hj (by omega)
set_option maxRecDepth 100000 in
set_option maxHeartbeats 4000000 in
theorem bl_40 {D : va_G} {cA : Nat → ClassId} {ad : Nat → Nat} {H : Heap} (hc : va_P D vwCl (wX11 cA (ad 40) (ad 41) (ad 42) (ad 43) (ad 44) (ad 45) (ad 46) (ad 47) (ad 48) (ad 49) (ad 50) (ad 51) (ad 52)) H) : ∀ (j : Nat) (h : jSh), j < 13 → jShp[40 + j]? = some h → va_at D vwCl (ad (40 + j), jCell ad cA (σ0 (40 + j)) h) H := by
  intro j h hj hh
  match j, hj, hh with
  | 0, _, hh => cases hh; exact hc 0 _ rfl
  | 1, _, hh => cases hh; exact hc 1 _ rfl
  | 2, _, hh => cases hh; exact hc 2 _ rfl
  | 3, _, hh => cases hh; exact hc 3 _ rfl
  | 4, _, hh => cases hh; exact hc 4 _ rfl
  | 5, _, hh => cases hh; exact hc 5 _ rfl
  | 6, _, hh => cases hh; exact hc 6 _ rfl
  | 7, _, hh => cases hh; exact hc 7 _ rfl
  | 8, _, hh => cases hh; exact hc 8 _ rfl
  | 9, _, hh => cases hh; exact hc 9 _ rfl
  | 10, _, hh => cases hh; exact hc 10 _ rfl
  | 11, _, hh => cases hh; exact hc 11 _ rfl
  | 12, _, hh => cases hh; exact hc 12 _ rfl
  | j + 13, hj, _ => exact absurd hj (by omega)
set_option maxRecDepth 100000 in
set_option maxHeartbeats 4000000 in
theorem bl_6 {D : va_G} {cA : Nat → ClassId} {ad : Nat → Nat} {H : Heap} (hc : va_P D vwCl ([((ad 6), .inl (cA 0, 8, .inl (fun _ => 0)))]) H) : ∀ (j : Nat) (h : jSh), j < 1 → jShp[6 + j]? = some h → va_at D vwCl (ad (6 + j), jCell ad cA (σ0 (6 + j)) h) H := by
  intro j h hj hh
  match j, hj, hh with
  | 0, _, hh => cases hh; exact hc 0 _ rfl
  | j + 1, hj, _ => exact absurd hj (by omega)
set_option maxRecDepth 100000 in
set_option maxHeartbeats 4000000 in
theorem bl_9 {D : va_G} {cA : Nat → ClassId} {ad : Nat → Nat} {H : Heap} (hc : va_P D vwCl (wX10 cA (ad 9) (ad 10) (ad 11) (ad 12) (ad 13) (ad 14)) H) : ∀ (j : Nat) (h : jSh), j < 6 → jShp[9 + j]? = some h → va_at D vwCl (ad (9 + j), jCell ad cA (σ0 (9 + j)) h) H := by
  intro j h hj hh
  match j, hj, hh with
  | 0, _, hh => cases hh; exact hc 0 _ rfl
  | 1, _, hh => cases hh; exact hc 1 _ rfl
  | 2, _, hh => cases hh; exact hc 2 _ rfl
  | 3, _, hh => cases hh; exact hc 3 _ rfl
  | 4, _, hh => cases hh; exact hc 4 _ rfl
  | 5, _, hh => cases hh; exact hc 5 _ rfl
  | j + 6, hj, _ => exact absurd hj (by omega)
set_option maxRecDepth 100000 in
set_option maxHeartbeats 4000000 in
theorem bl_4 {D : va_G} {cA : Nat → ClassId} {ad : Nat → Nat} {H : Heap} (hc : va_P D vwCl (wX2_79 cA (ad 4) (ad 5)) H) : ∀ (j : Nat) (h : jSh), j < 2 → jShp[4 + j]? = some h → va_at D vwCl (ad (4 + j), jCell ad cA (σ0 (4 + j)) h) H := by
  intro j h hj hh
  match j, hj, hh with
  | 0, _, hh => cases hh; exact hc 0 _ rfl
  | 1, _, hh => cases hh; exact hc 1 _ rfl
  | j + 2, hj, _ => exact absurd hj (by omega)
set_option maxRecDepth 100000 in
set_option maxHeartbeats 4000000 in
theorem bl_15 {D : va_G} {cA : Nat → ClassId} {ad : Nat → Nat} {H : Heap} (hc : va_P D vwCl (wX6 cA (ad 15) (ad 16)) H) : ∀ (j : Nat) (h : jSh), j < 2 → jShp[15 + j]? = some h → va_at D vwCl (ad (15 + j), jCell ad cA (σ0 (15 + j)) h) H := by
  intro j h hj hh
  match j, hj, hh with
  | 0, _, hh => cases hh; exact hc 0 _ rfl
  | 1, _, hh => cases hh; exact hc 1 _ rfl
  | j + 2, hj, _ => exact absurd hj (by omega)
set_option maxRecDepth 100000 in
set_option maxHeartbeats 4000000 in
theorem bl_17 {D : va_G} {cA : Nat → ClassId} {ad : Nat → Nat} {H : Heap} (hc : va_P D vwCl (wX5 cA (ad 17) (ad 18) (ad 19) (ad 20) (ad 21) (ad 22)) H) : ∀ (j : Nat) (h : jSh), j < 6 → jShp[17 + j]? = some h → va_at D vwCl (ad (17 + j), jCell ad cA (σ0 (17 + j)) h) H := by
  intro j h hj hh
  match j, hj, hh with
  | 0, _, hh => cases hh; exact hc 0 _ rfl
  | 1, _, hh => cases hh; exact hc 1 _ rfl
  | 2, _, hh => cases hh; exact hc 2 _ rfl
  | 3, _, hh => cases hh; exact hc 3 _ rfl
  | 4, _, hh => cases hh; exact hc 4 _ rfl
  | 5, _, hh => cases hh; exact hc 5 _ rfl
  | j + 6, hj, _ => exact absurd hj (by omega)
set_option maxRecDepth 100000 in
set_option maxHeartbeats 4000000 in
theorem bl_23 {D : va_G} {cA : Nat → ClassId} {ad : Nat → Nat} {H : Heap} (hc : va_P D vwCl (wX4 cA (ad 23) (ad 24) (ad 25) (ad 26)) H) : ∀ (j : Nat) (h : jSh), j < 4 → jShp[23 + j]? = some h → va_at D vwCl (ad (23 + j), jCell ad cA (σ0 (23 + j)) h) H := by
  intro j h hj hh
  match j, hj, hh with
  | 0, _, hh => cases hh; exact hc 0 _ rfl
  | 1, _, hh => cases hh; exact hc 1 _ rfl
  | 2, _, hh => cases hh; exact hc 2 _ rfl
  | 3, _, hh => cases hh; exact hc 3 _ rfl
  | j + 4, hj, _ => exact absurd hj (by omega)
set_option maxRecDepth 100000 in
set_option maxHeartbeats 4000000 in
theorem bl_53 {D : va_G} {cA : Nat → ClassId} {ad : Nat → Nat} {H : Heap} (hc : va_P D vwCl (wX11 cA (ad 53) (ad 54) (ad 55) (ad 56) (ad 57) (ad 58) (ad 59) (ad 60) (ad 61) (ad 62) (ad 63) (ad 64) (ad 65)) H) : ∀ (j : Nat) (h : jSh), j < 13 → jShp[53 + j]? = some h → va_at D vwCl (ad (53 + j), jCell ad cA (σ0 (53 + j)) h) H := by
  intro j h hj hh
  match j, hj, hh with
  | 0, _, hh => cases hh; exact hc 0 _ rfl
  | 1, _, hh => cases hh; exact hc 1 _ rfl
  | 2, _, hh => cases hh; exact hc 2 _ rfl
  | 3, _, hh => cases hh; exact hc 3 _ rfl
  | 4, _, hh => cases hh; exact hc 4 _ rfl
  | 5, _, hh => cases hh; exact hc 5 _ rfl
  | 6, _, hh => cases hh; exact hc 6 _ rfl
  | 7, _, hh => cases hh; exact hc 7 _ rfl
  | 8, _, hh => cases hh; exact hc 8 _ rfl
  | 9, _, hh => cases hh; exact hc 9 _ rfl
  | 10, _, hh => cases hh; exact hc 10 _ rfl
  | 11, _, hh => cases hh; exact hc 11 _ rfl
  | 12, _, hh => cases hh; exact hc 12 _ rfl
  | j + 13, hj, _ => exact absurd hj (by omega)
set_option maxRecDepth 100000 in
set_option maxHeartbeats 4000000 in
theorem bl_66 {D : va_G} {cA : Nat → ClassId} {ad : Nat → Nat} {H : Heap} (hc : va_P D vwCl (wX11 cA (ad 66) (ad 67) (ad 68) (ad 69) (ad 70) (ad 71) (ad 72) (ad 73) (ad 74) (ad 75) (ad 76) (ad 77) (ad 78)) H) : ∀ (j : Nat) (h : jSh), j < 13 → jShp[66 + j]? = some h → va_at D vwCl (ad (66 + j), jCell ad cA (σ0 (66 + j)) h) H := by
  intro j h hj hh
  match j, hj, hh with
  | 0, _, hh => cases hh; exact hc 0 _ rfl
  | 1, _, hh => cases hh; exact hc 1 _ rfl
  | 2, _, hh => cases hh; exact hc 2 _ rfl
  | 3, _, hh => cases hh; exact hc 3 _ rfl
  | 4, _, hh => cases hh; exact hc 4 _ rfl
  | 5, _, hh => cases hh; exact hc 5 _ rfl
  | 6, _, hh => cases hh; exact hc 6 _ rfl
  | 7, _, hh => cases hh; exact hc 7 _ rfl
  | 8, _, hh => cases hh; exact hc 8 _ rfl
  | 9, _, hh => cases hh; exact hc 9 _ rfl
  | 10, _, hh => cases hh; exact hc 10 _ rfl
  | 11, _, hh => cases hh; exact hc 11 _ rfl
  | 12, _, hh => cases hh; exact hc 12 _ rfl
  | j + 13, hj, _ => exact absurd hj (by omega)
set_option maxRecDepth 100000 in
set_option maxHeartbeats 4000000 in
theorem bl_79 {D : va_G} {cA : Nat → ClassId} {ad : Nat → Nat} {H : Heap} (hc : va_P D vwCl (wX0 cA (ad 79) (ad 80) (ad 81) (ad 82)) H) : ∀ (j : Nat) (h : jSh), j < 4 → jShp[79 + j]? = some h → va_at D vwCl (ad (79 + j), jCell ad cA (σ0 (79 + j)) h) H := by
  intro j h hj hh
  match j, hj, hh with
  | 0, _, hh => cases hh; exact hc 0 _ rfl
  | 1, _, hh => cases hh; exact hc 1 _ rfl
  | 2, _, hh => cases hh; exact hc 2 _ rfl
  | 3, _, hh => cases hh; exact hc 3 _ rfl
  | j + 4, hj, _ => exact absurd hj (by omega)
set_option maxRecDepth 100000 in
set_option maxHeartbeats 4000000 in
theorem bl_83 {D : va_G} {cA : Nat → ClassId} {ad : Nat → Nat} {H : Heap} (hc : va_P D vwCl (wX0 cA (ad 83) (ad 84) (ad 85) (ad 86)) H) : ∀ (j : Nat) (h : jSh), j < 4 → jShp[83 + j]? = some h → va_at D vwCl (ad (83 + j), jCell ad cA (σ0 (83 + j)) h) H := by
  intro j h hj hh
  match j, hj, hh with
  | 0, _, hh => cases hh; exact hc 0 _ rfl
  | 1, _, hh => cases hh; exact hc 1 _ rfl
  | 2, _, hh => cases hh; exact hc 2 _ rfl
  | 3, _, hh => cases hh; exact hc 3 _ rfl
  | j + 4, hj, _ => exact absurd hj (by omega)
set_option maxRecDepth 100000 in
set_option maxHeartbeats 4000000 in
theorem bl_87 {D : va_G} {cA : Nat → ClassId} {ad : Nat → Nat} {H : Heap} (hc : va_P D vwCl (wX0 cA (ad 87) (ad 88) (ad 89) (ad 90)) H) : ∀ (j : Nat) (h : jSh), j < 4 → jShp[87 + j]? = some h → va_at D vwCl (ad (87 + j), jCell ad cA (σ0 (87 + j)) h) H := by
  intro j h hj hh
  match j, hj, hh with
  | 0, _, hh => cases hh; exact hc 0 _ rfl
  | 1, _, hh => cases hh; exact hc 1 _ rfl
  | 2, _, hh => cases hh; exact hc 2 _ rfl
  | 3, _, hh => cases hh; exact hc 3 _ rfl
  | j + 4, hj, _ => exact absurd hj (by omega)
set_option maxRecDepth 100000 in
set_option maxHeartbeats 4000000 in
theorem bl_91 {D : va_G} {cA : Nat → ClassId} {ad : Nat → Nat} {H : Heap} (hc : va_P D vwCl (wX0 cA (ad 91) (ad 92) (ad 93) (ad 94)) H) : ∀ (j : Nat) (h : jSh), j < 4 → jShp[91 + j]? = some h → va_at D vwCl (ad (91 + j), jCell ad cA (σ0 (91 + j)) h) H := by
  intro j h hj hh
  match j, hj, hh with
  | 0, _, hh => cases hh; exact hc 0 _ rfl
  | 1, _, hh => cases hh; exact hc 1 _ rfl
  | 2, _, hh => cases hh; exact hc 2 _ rfl
  | 3, _, hh => cases hh; exact hc 3 _ rfl
  | j + 4, hj, _ => exact absurd hj (by omega)
set_option maxRecDepth 100000 in
set_option maxHeartbeats 4000000 in
theorem bl_95 {D : va_G} {cA : Nat → ClassId} {ad : Nat → Nat} {H : Heap} (hc : va_P D vwCl (wX0 cA (ad 95) (ad 96) (ad 97) (ad 98)) H) : ∀ (j : Nat) (h : jSh), j < 4 → jShp[95 + j]? = some h → va_at D vwCl (ad (95 + j), jCell ad cA (σ0 (95 + j)) h) H := by
  intro j h hj hh
  match j, hj, hh with
  | 0, _, hh => cases hh; exact hc 0 _ rfl
  | 1, _, hh => cases hh; exact hc 1 _ rfl
  | 2, _, hh => cases hh; exact hc 2 _ rfl
  | 3, _, hh => cases hh; exact hc 3 _ rfl
  | j + 4, hj, _ => exact absurd hj (by omega)
set_option maxRecDepth 100000 in
set_option maxHeartbeats 4000000 in
theorem bl_99 {D : va_G} {cA : Nat → ClassId} {ad : Nat → Nat} {H : Heap} (hc : va_P D vwCl (wX0 cA (ad 99) (ad 100) (ad 101) (ad 102)) H) : ∀ (j : Nat) (h : jSh), j < 4 → jShp[99 + j]? = some h → va_at D vwCl (ad (99 + j), jCell ad cA (σ0 (99 + j)) h) H := by
  intro j h hj hh
  match j, hj, hh with
  | 0, _, hh => cases hh; exact hc 0 _ rfl
  | 1, _, hh => cases hh; exact hc 1 _ rfl
  | 2, _, hh => cases hh; exact hc 2 _ rfl
  | 3, _, hh => cases hh; exact hc 3 _ rfl
  | j + 4, hj, _ => exact absurd hj (by omega)
set_option maxRecDepth 100000 in
set_option maxHeartbeats 4000000 in
theorem bl_103 {D : va_G} {cA : Nat → ClassId} {ad : Nat → Nat} {H : Heap} (hc : va_P D vwCl (wX0 cA (ad 103) (ad 104) (ad 105) (ad 106)) H) : ∀ (j : Nat) (h : jSh), j < 4 → jShp[103 + j]? = some h → va_at D vwCl (ad (103 + j), jCell ad cA (σ0 (103 + j)) h) H := by
  intro j h hj hh
  match j, hj, hh with
  | 0, _, hh => cases hh; exact hc 0 _ rfl
  | 1, _, hh => cases hh; exact hc 1 _ rfl
  | 2, _, hh => cases hh; exact hc 2 _ rfl
  | 3, _, hh => cases hh; exact hc 3 _ rfl
  | j + 4, hj, _ => exact absurd hj (by omega)
set_option maxRecDepth 100000 in
set_option maxHeartbeats 4000000 in
theorem bl_107 {D : va_G} {cA : Nat → ClassId} {ad : Nat → Nat} {H : Heap} (hc : va_P D vwCl (wX0 cA (ad 107) (ad 108) (ad 109) (ad 110)) H) : ∀ (j : Nat) (h : jSh), j < 4 → jShp[107 + j]? = some h → va_at D vwCl (ad (107 + j), jCell ad cA (σ0 (107 + j)) h) H := by
  intro j h hj hh
  match j, hj, hh with
  | 0, _, hh => cases hh; exact hc 0 _ rfl
  | 1, _, hh => cases hh; exact hc 1 _ rfl
  | 2, _, hh => cases hh; exact hc 2 _ rfl
  | 3, _, hh => cases hh; exact hc 3 _ rfl
  | j + 4, hj, _ => exact absurd hj (by omega)
set_option maxRecDepth 100000 in
set_option maxHeartbeats 4000000 in
theorem bl_111 {D : va_G} {cA : Nat → ClassId} {ad : Nat → Nat} {H : Heap} (hc : va_P D vwCl (wX13 cA (ad 111) (ad 112) (ad 113) (ad 114) (ad 115) (ad 116) (ad 117) (ad 118) (ad 119) (ad 120) (ad 121) (ad 122) (ad 123) (ad 124) (ad 125) (ad 126) (ad 127) (ad 128) (ad 129) (ad 130) (ad 131) (ad 132) (ad 133) (ad 134) (ad 135) (ad 136) (ad 137) (ad 138)) H) : ∀ (j : Nat) (h : jSh), j < 28 → jShp[111 + j]? = some h → va_at D vwCl (ad (111 + j), jCell ad cA (σ0 (111 + j)) h) H := by
  intro j h hj hh
  match j, hj, hh with
  | 0, _, hh => cases hh; show va_at D vwCl (ad 111, .inr (12, List.mapIdx (jFld ad (σ0 111)) _)) H; rw [z_row (by decide), jf0]; exact hc 0 _ rfl
  | 1, _, hh => cases hh; exact hc 1 _ rfl
  | 2, _, hh => cases hh; exact hc 2 _ rfl
  | 3, _, hh => cases hh; exact hc 3 _ rfl
  | 4, _, hh => cases hh; exact hc 4 _ rfl
  | 5, _, hh => cases hh; exact hc 5 _ rfl
  | 6, _, hh => cases hh; exact hc 6 _ rfl
  | 7, _, hh => cases hh; exact hc 7 _ rfl
  | 8, _, hh => cases hh; exact hc 8 _ rfl
  | 9, _, hh => cases hh; exact hc 9 _ rfl
  | 10, _, hh => cases hh; exact hc 10 _ rfl
  | 11, _, hh => cases hh; exact hc 11 _ rfl
  | 12, _, hh => cases hh; exact hc 12 _ rfl
  | 13, _, hh => cases hh; exact hc 13 _ rfl
  | 14, _, hh => cases hh; exact hc 14 _ rfl
  | 15, _, hh => cases hh; exact hc 15 _ rfl
  | 16, _, hh => cases hh; exact hc 16 _ rfl
  | 17, _, hh => cases hh; exact hc 17 _ rfl
  | 18, _, hh => cases hh; exact hc 18 _ rfl
  | 19, _, hh => cases hh; exact hc 19 _ rfl
  | 20, _, hh => cases hh; exact hc 20 _ rfl
  | 21, _, hh => cases hh; exact hc 21 _ rfl
  | 22, _, hh => cases hh; exact hc 22 _ rfl
  | 23, _, hh => cases hh; exact hc 23 _ rfl
  | 24, _, hh => cases hh; exact hc 24 _ rfl
  | 25, _, hh => cases hh; exact hc 25 _ rfl
  | 26, _, hh => cases hh; exact hc 26 _ rfl
  | 27, _, hh => cases hh; exact hc 27 _ rfl
  | j + 28, hj, _ => exact absurd hj (by omega)
set_option maxRecDepth 100000 in
set_option maxHeartbeats 4000000 in
theorem bl_139 {D : va_G} {cA : Nat → ClassId} {ad : Nat → Nat} {H : Heap} (hc : va_P D vwCl ([((ad 139), .inl (cA 1, 1, .inr (.inl (fun _ => 0))))]) H) : ∀ (j : Nat) (h : jSh), j < 1 → jShp[139 + j]? = some h → va_at D vwCl (ad (139 + j), jCell ad cA (σ0 (139 + j)) h) H := by
  intro j h hj hh
  match j, hj, hh with
  | 0, _, hh => cases hh; exact hc 0 _ rfl
  | j + 1, hj, _ => exact absurd hj (by omega)
set_option maxRecDepth 100000 in
set_option maxHeartbeats 4000000 in
theorem bl_0 {D : va_G} {cA : Nat → ClassId} {ad : Nat → Nat} {H : Heap} (hc : va_P D vwCl ([((ad 0), .inr (11, [.ref (ad 1), .ref (ad 2), .ref (ad 27), .ref (ad 40), .ref (ad 7), .ref (ad 8), vI 0, .ref (ad 6), .ref (ad 9), .ref (ad 4), .ref (ad 15), .ref (ad 17), .ref (ad 23), vI 0, vI 0]))]) H) : ∀ (j : Nat) (h : jSh), j < 1 → jShp[0 + j]? = some h → va_at D vwCl (ad (0 + j), jCell ad cA (σ0 (0 + j)) h) H := by
  intro j h hj hh
  match j, hj, hh with
  | 0, _, hh => cases hh; exact hc 0 _ rfl
  | j + 1, hj, _ => exact absurd hj (by omega)
set_option maxRecDepth 100000 in
set_option maxHeartbeats 4000000 in
theorem bl_7 {D : va_G} {cA : Nat → ClassId} {ad : Nat → Nat} {H : Heap} (hc : va_P D vwCl ([((ad 7), .inl (cA 5, 2, .inr (.inr (.inr (.inr (va_up (va_up (fun _ => none) 0 (some (ad 53))) 1 (some (ad 66))))))))]) H) : va_at D vwCl (ad 7, jCell ad cA (σ0 7) (.inl (5, 2))) H := by
  have hx := hc 0 _ rfl
  change H[ad 7]? = some (vp_cell (cA 5) (2, _)) at hx
  show H[ad 7]? = some (vp_cell (cA 5) (2, .inr (.inr (.inr (.inr (fun i : Nat => some (ad (σ0 7 i).toNat)))))))
  rw [hx, vp_cell_q, vp_cell_q]
  refine congrArg some (arrV_c (fun j hj => ?_))
  match j, hj with
  | 0, _ => rfl
  | 1, _ => rfl
  | j + 2, hj => exact absurd hj (by omega)
set_option maxRecDepth 100000 in
set_option maxHeartbeats 4000000 in
theorem bl_8 {D : va_G} {cA : Nat → ClassId} {ad : Nat → Nat} {H : Heap} (hc : va_P D vwCl ([((ad 8), .inl (cA 4, 8, .inr (.inr (.inr (.inr (va_up (va_up (va_up (va_up (va_up (va_up (va_up (va_up (fun _ => none) 0 (some (ad 79))) 1 (some (ad 83))) 2 (some (ad 87))) 3 (some (ad 91))) 4 (some (ad 95))) 5 (some (ad 99))) 6 (some (ad 103))) 7 (some (ad 107))))))))]) H) : va_at D vwCl (ad 8, jCell ad cA (σ0 8) (.inl (4, 8))) H := by
  have hx := hc 0 _ rfl
  change H[ad 8]? = some (vp_cell (cA 4) (8, _)) at hx
  show H[ad 8]? = some (vp_cell (cA 4) (8, .inr (.inr (.inr (.inr (fun i : Nat => some (ad (σ0 8 i).toNat)))))))
  rw [hx, vp_cell_q, vp_cell_q]
  refine congrArg some (arrV_c (fun j hj => ?_))
  match j, hj with
  | 0, _ => rfl
  | 1, _ => rfl
  | 2, _ => rfl
  | 3, _ => rfl
  | 4, _ => rfl
  | 5, _ => rfl
  | 6, _ => rfl
  | 7, _ => rfl
  | j + 8, hj => exact absurd hj (by omega)
set_option maxRecDepth 100000 in
set_option maxHeartbeats 4000000 in
theorem wAll_P {D : va_G} {cA : Nat → ClassId} {ad : Nat → Nat} {H : Heap} (hP : va_P D vwCl (wAll cA ad) H) : va_P D vwCl (jWs ad cA σ0) H := by
  have hc0 : va_P D vwCl (wX8 cA (ad 1) (ad 2) (ad 3)) H := vaP_m hP (fun q h => List.mem_append_left _ (List.mem_append_left _ (List.mem_cons_of_mem _ (List.mem_cons_of_mem _ (List.mem_cons_of_mem _ (List.mem_append_left _ (List.mem_append_left _ (List.mem_append_left _ (List.mem_append_left _ (List.mem_append_left _ (List.mem_append_left _ (List.mem_append_left _ (List.mem_append_left _ (List.mem_append_left _ (List.mem_append_left _ (List.mem_append_left _ (List.mem_append_left _ (List.mem_append_left _ (List.mem_append_left _ (List.mem_append_left _ (List.mem_append_left _ (List.mem_append_left _ (List.mem_append_left _ (List.mem_append_right _ h))))))))))))))))))))))))
  have hc1 : va_P D vwCl (wX11 cA (ad 27) (ad 28) (ad 29) (ad 30) (ad 31) (ad 32) (ad 33) (ad 34) (ad 35) (ad 36) (ad 37) (ad 38) (ad 39)) H := vaP_m hP (fun q h => List.mem_append_left _ (List.mem_append_left _ (List.mem_cons_of_mem _ (List.mem_cons_of_mem _ (List.mem_cons_of_mem _ (List.mem_append_left _ (List.mem_append_left _ (List.mem_append_left _ (List.mem_append_left _ (List.mem_append_left _ (List.mem_append_left _ (List.mem_append_left _ (List.mem_append_left _ (List.mem_append_left _ (List.mem_append_left _ (List.mem_append_left _ (List.mem_append_left _ (List.mem_append_left _ (List.mem_append_left _ (List.mem_append_left _ (List.mem_append_left _ (List.mem_append_left _ (List.mem_append_right _ h)))))))))))))))))))))))
  have hc2 : va_P D vwCl (wX11 cA (ad 40) (ad 41) (ad 42) (ad 43) (ad 44) (ad 45) (ad 46) (ad 47) (ad 48) (ad 49) (ad 50) (ad 51) (ad 52)) H := vaP_m hP (fun q h => List.mem_append_left _ (List.mem_append_left _ (List.mem_cons_of_mem _ (List.mem_cons_of_mem _ (List.mem_cons_of_mem _ (List.mem_append_left _ (List.mem_append_left _ (List.mem_append_left _ (List.mem_append_left _ (List.mem_append_left _ (List.mem_append_left _ (List.mem_append_left _ (List.mem_append_left _ (List.mem_append_left _ (List.mem_append_left _ (List.mem_append_left _ (List.mem_append_left _ (List.mem_append_left _ (List.mem_append_left _ (List.mem_append_left _ (List.mem_append_left _ (List.mem_append_right _ h))))))))))))))))))))))
  have hc3 : va_P D vwCl ([((ad 6), .inl (cA 0, 8, .inl (fun _ => 0)))]) H := vaP_m hP (fun q h => List.mem_append_left _ (List.mem_append_left _ (List.mem_cons_of_mem _ (List.mem_cons_of_mem _ (List.mem_cons_of_mem _ (List.mem_append_left _ (List.mem_append_left _ (List.mem_append_left _ (List.mem_append_left _ (List.mem_append_left _ (List.mem_append_left _ (List.mem_append_left _ (List.mem_append_left _ (List.mem_append_left _ (List.mem_append_left _ (List.mem_append_left _ (List.mem_append_left _ (List.mem_append_left _ (List.mem_append_left _ (List.mem_append_left _ (List.mem_append_right _ h)))))))))))))))))))))
  have hc4 : va_P D vwCl (wX10 cA (ad 9) (ad 10) (ad 11) (ad 12) (ad 13) (ad 14)) H := vaP_m hP (fun q h => List.mem_append_left _ (List.mem_append_left _ (List.mem_cons_of_mem _ (List.mem_cons_of_mem _ (List.mem_cons_of_mem _ (List.mem_append_left _ (List.mem_append_left _ (List.mem_append_left _ (List.mem_append_left _ (List.mem_append_left _ (List.mem_append_left _ (List.mem_append_left _ (List.mem_append_left _ (List.mem_append_left _ (List.mem_append_left _ (List.mem_append_left _ (List.mem_append_left _ (List.mem_append_left _ (List.mem_append_left _ (List.mem_append_right _ h))))))))))))))))))))
  have hc5 : va_P D vwCl (wX2_79 cA (ad 4) (ad 5)) H := vaP_m hP (fun q h => List.mem_append_left _ (List.mem_append_left _ (List.mem_cons_of_mem _ (List.mem_cons_of_mem _ (List.mem_cons_of_mem _ (List.mem_append_left _ (List.mem_append_left _ (List.mem_append_left _ (List.mem_append_left _ (List.mem_append_left _ (List.mem_append_left _ (List.mem_append_left _ (List.mem_append_left _ (List.mem_append_left _ (List.mem_append_left _ (List.mem_append_left _ (List.mem_append_left _ (List.mem_append_left _ (List.mem_append_right _ h)))))))))))))))))))
  have hc6 : va_P D vwCl (wX6 cA (ad 15) (ad 16)) H := vaP_m hP (fun q h => List.mem_append_left _ (List.mem_append_left _ (List.mem_cons_of_mem _ (List.mem_cons_of_mem _ (List.mem_cons_of_mem _ (List.mem_append_left _ (List.mem_append_left _ (List.mem_append_left _ (List.mem_append_left _ (List.mem_append_left _ (List.mem_append_left _ (List.mem_append_left _ (List.mem_append_left _ (List.mem_append_left _ (List.mem_append_left _ (List.mem_append_left _ (List.mem_append_left _ (List.mem_append_right _ h))))))))))))))))))
  have hc7 : va_P D vwCl (wX5 cA (ad 17) (ad 18) (ad 19) (ad 20) (ad 21) (ad 22)) H := vaP_m hP (fun q h => List.mem_append_left _ (List.mem_append_left _ (List.mem_cons_of_mem _ (List.mem_cons_of_mem _ (List.mem_cons_of_mem _ (List.mem_append_left _ (List.mem_append_left _ (List.mem_append_left _ (List.mem_append_left _ (List.mem_append_left _ (List.mem_append_left _ (List.mem_append_left _ (List.mem_append_left _ (List.mem_append_left _ (List.mem_append_left _ (List.mem_append_left _ (List.mem_append_right _ h)))))))))))))))))
  have hc8 : va_P D vwCl (wX4 cA (ad 23) (ad 24) (ad 25) (ad 26)) H := vaP_m hP (fun q h => List.mem_append_left _ (List.mem_append_left _ (List.mem_cons_of_mem _ (List.mem_cons_of_mem _ (List.mem_cons_of_mem _ (List.mem_append_left _ (List.mem_append_left _ (List.mem_append_left _ (List.mem_append_left _ (List.mem_append_left _ (List.mem_append_left _ (List.mem_append_left _ (List.mem_append_left _ (List.mem_append_left _ (List.mem_append_left _ (List.mem_append_right _ h))))))))))))))))
  have hc9 : va_P D vwCl (wX11 cA (ad 53) (ad 54) (ad 55) (ad 56) (ad 57) (ad 58) (ad 59) (ad 60) (ad 61) (ad 62) (ad 63) (ad 64) (ad 65)) H := vaP_m hP (fun q h => List.mem_append_left _ (List.mem_append_left _ (List.mem_cons_of_mem _ (List.mem_cons_of_mem _ (List.mem_cons_of_mem _ (List.mem_append_left _ (List.mem_append_left _ (List.mem_append_left _ (List.mem_append_left _ (List.mem_append_left _ (List.mem_append_left _ (List.mem_append_left _ (List.mem_append_left _ (List.mem_append_left _ (List.mem_append_right _ h)))))))))))))))
  have hc10 : va_P D vwCl (wX11 cA (ad 66) (ad 67) (ad 68) (ad 69) (ad 70) (ad 71) (ad 72) (ad 73) (ad 74) (ad 75) (ad 76) (ad 77) (ad 78)) H := vaP_m hP (fun q h => List.mem_append_left _ (List.mem_append_left _ (List.mem_cons_of_mem _ (List.mem_cons_of_mem _ (List.mem_cons_of_mem _ (List.mem_append_left _ (List.mem_append_left _ (List.mem_append_left _ (List.mem_append_left _ (List.mem_append_left _ (List.mem_append_left _ (List.mem_append_left _ (List.mem_append_left _ (List.mem_append_right _ h))))))))))))))
  have hc11 : va_P D vwCl (wX0 cA (ad 79) (ad 80) (ad 81) (ad 82)) H := vaP_m hP (fun q h => List.mem_append_left _ (List.mem_append_left _ (List.mem_cons_of_mem _ (List.mem_cons_of_mem _ (List.mem_cons_of_mem _ (List.mem_append_left _ (List.mem_append_left _ (List.mem_append_left _ (List.mem_append_left _ (List.mem_append_left _ (List.mem_append_left _ (List.mem_append_left _ (List.mem_append_right _ h)))))))))))))
  have hc12 : va_P D vwCl (wX0 cA (ad 83) (ad 84) (ad 85) (ad 86)) H := vaP_m hP (fun q h => List.mem_append_left _ (List.mem_append_left _ (List.mem_cons_of_mem _ (List.mem_cons_of_mem _ (List.mem_cons_of_mem _ (List.mem_append_left _ (List.mem_append_left _ (List.mem_append_left _ (List.mem_append_left _ (List.mem_append_left _ (List.mem_append_left _ (List.mem_append_right _ h))))))))))))
  have hc13 : va_P D vwCl (wX0 cA (ad 87) (ad 88) (ad 89) (ad 90)) H := vaP_m hP (fun q h => List.mem_append_left _ (List.mem_append_left _ (List.mem_cons_of_mem _ (List.mem_cons_of_mem _ (List.mem_cons_of_mem _ (List.mem_append_left _ (List.mem_append_left _ (List.mem_append_left _ (List.mem_append_left _ (List.mem_append_left _ (List.mem_append_right _ h)))))))))))
  have hc14 : va_P D vwCl (wX0 cA (ad 91) (ad 92) (ad 93) (ad 94)) H := vaP_m hP (fun q h => List.mem_append_left _ (List.mem_append_left _ (List.mem_cons_of_mem _ (List.mem_cons_of_mem _ (List.mem_cons_of_mem _ (List.mem_append_left _ (List.mem_append_left _ (List.mem_append_left _ (List.mem_append_left _ (List.mem_append_right _ h))))))))))
  have hc15 : va_P D vwCl (wX0 cA (ad 95) (ad 96) (ad 97) (ad 98)) H := vaP_m hP (fun q h => List.mem_append_left _ (List.mem_append_left _ (List.mem_cons_of_mem _ (List.mem_cons_of_mem _ (List.mem_cons_of_mem _ (List.mem_append_left _ (List.mem_append_left _ (List.mem_append_left _ (List.mem_append_right _ h)))))))))
  have hc16 : va_P D vwCl (wX0 cA (ad 99) (ad 100) (ad 101) (ad 102)) H := vaP_m hP (fun q h => List.mem_append_left _ (List.mem_append_left _ (List.mem_cons_of_mem _ (List.mem_cons_of_mem _ (List.mem_cons_of_mem _ (List.mem_append_left _ (List.mem_append_left _ (List.mem_append_right _ h))))))))
  have hc17 : va_P D vwCl (wX0 cA (ad 103) (ad 104) (ad 105) (ad 106)) H := vaP_m hP (fun q h => List.mem_append_left _ (List.mem_append_left _ (List.mem_cons_of_mem _ (List.mem_cons_of_mem _ (List.mem_cons_of_mem _ (List.mem_append_left _ (List.mem_append_right _ h)))))))
  have hc18 : va_P D vwCl (wX0 cA (ad 107) (ad 108) (ad 109) (ad 110)) H := vaP_m hP (fun q h => List.mem_append_left _ (List.mem_append_left _ (List.mem_cons_of_mem _ (List.mem_cons_of_mem _ (List.mem_cons_of_mem _ (List.mem_append_right _ h))))))
  have hm : va_P D vwCl (wX13 cA (ad 111) (ad 112) (ad 113) (ad 114) (ad 115) (ad 116) (ad 117) (ad 118) (ad 119) (ad 120) (ad 121) (ad 122) (ad 123) (ad 124) (ad 125) (ad 126) (ad 127) (ad 128) (ad 129) (ad 130) (ad 131) (ad 132) (ad 133) (ad 134) (ad 135) (ad 136) (ad 137) (ad 138)) H := vaP_m hP (fun q h => List.mem_append_left _ (List.mem_append_right _ h))
  have hl : va_P D vwCl ([((ad 139), .inl (cA 1, 1, .inr (.inl (fun _ => 0))))]) H := vaP_m hP (fun q h => List.mem_append_right _ h)
  have ht : va_P D vwCl ([((ad 0), .inr (11, [.ref (ad 1), .ref (ad 2), .ref (ad 27), .ref (ad 40), .ref (ad 7), .ref (ad 8), vI 0, .ref (ad 6), .ref (ad 9), .ref (ad 4), .ref (ad 15), .ref (ad 17), .ref (ad 23), vI 0, vI 0]))]) H := vaP_m hP (fun q h => List.mem_append_left _ (List.mem_append_left _ (by rw [List.mem_singleton.mp h]; exact List.mem_cons_self)))
  have hp : va_P D vwCl ([((ad 8), .inl (cA 4, 8, .inr (.inr (.inr (.inr (va_up (va_up (va_up (va_up (va_up (va_up (va_up (va_up (fun _ => none) 0 (some (ad 79))) 1 (some (ad 83))) 2 (some (ad 87))) 3 (some (ad 91))) 4 (some (ad 95))) 5 (some (ad 99))) 6 (some (ad 103))) 7 (some (ad 107))))))))]) H := vaP_m hP (fun q h => List.mem_append_left _ (List.mem_append_left _ (List.mem_cons_of_mem _ (by rw [List.mem_singleton.mp h]; exact List.mem_cons_self))))
  have hi : va_P D vwCl ([((ad 7), .inl (cA 5, 2, .inr (.inr (.inr (.inr (va_up (va_up (fun _ => none) 0 (some (ad 53))) 1 (some (ad 66))))))))]) H := vaP_m hP (fun q h => List.mem_append_left _ (List.mem_append_left _ (List.mem_cons_of_mem _ (List.mem_cons_of_mem _ (by rw [List.mem_singleton.mp h]; exact List.mem_cons_self)))))
  intro k q hk
  unfold jWs at hk
  rw [List.getElem?_mapIdx] at hk
  cases hh : jShp[k]? with
  | none => rw [hh] at hk; cases hk
  | some x =>
    rw [hh] at hk
    cases hk
    have hk140 : k < 140 := by
      have := (List.getElem?_eq_some_iff.mp hh).1
      have hl140 : jShp.length = 140 := by decide +kernel
      omega
    by_cases g0 : 0 ≤ k ∧ k < 1
    · have e : 0 + (k - 0) = k := by omega
      have r := bl_0 (D := D) (cA := cA) (ad := ad) ht (k - 0) x (by omega) (by rw [e]; exact hh)
      rw [e] at r
      exact r
    by_cases g1 : 1 ≤ k ∧ k < 4
    · have e : 1 + (k - 1) = k := by omega
      have r := bl_1 (D := D) (cA := cA) (ad := ad) hc0 (k - 1) x (by omega) (by rw [e]; exact hh)
      rw [e] at r
      exact r
    by_cases g4 : 4 ≤ k ∧ k < 6
    · have e : 4 + (k - 4) = k := by omega
      have r := bl_4 (D := D) (cA := cA) (ad := ad) hc5 (k - 4) x (by omega) (by rw [e]; exact hh)
      rw [e] at r
      exact r
    by_cases g6 : 6 ≤ k ∧ k < 7
    · have e : 6 + (k - 6) = k := by omega
      have r := bl_6 (D := D) (cA := cA) (ad := ad) hc3 (k - 6) x (by omega) (by rw [e]; exact hh)
      rw [e] at r
      exact r
    by_cases g7 : k = 7
    · subst g7; cases hh; exact bl_7 (D := D) (cA := cA) (ad := ad) hi
    by_cases g8 : k = 8
    · subst g8; cases hh; exact bl_8 (D := D) (cA := cA) (ad := ad) hp
    by_cases g9 : 9 ≤ k ∧ k < 15
    · have e : 9 + (k - 9) = k := by omega
      have r := bl_9 (D := D) (cA := cA) (ad := ad) hc4 (k - 9) x (by omega) (by rw [e]; exact hh)
      rw [e] at r
      exact r
    by_cases g15 : 15 ≤ k ∧ k < 17
    · have e : 15 + (k - 15) = k := by omega
      have r := bl_15 (D := D) (cA := cA) (ad := ad) hc6 (k - 15) x (by omega) (by rw [e]; exact hh)
      rw [e] at r
      exact r
    by_cases g17 : 17 ≤ k ∧ k < 23
    · have e : 17 + (k - 17) = k := by omega
      have r := bl_17 (D := D) (cA := cA) (ad := ad) hc7 (k - 17) x (by omega) (by rw [e]; exact hh)
      rw [e] at r
      exact r
    by_cases g23 : 23 ≤ k ∧ k < 27
    · have e : 23 + (k - 23) = k := by omega
      have r := bl_23 (D := D) (cA := cA) (ad := ad) hc8 (k - 23) x (by omega) (by rw [e]; exact hh)
      rw [e] at r
      exact r
    by_cases g27 : 27 ≤ k ∧ k < 40
    · have e : 27 + (k - 27) = k := by omega
      have r := bl_27 (D := D) (cA := cA) (ad := ad) hc1 (k - 27) x (by omega) (by rw [e]; exact hh)
      rw [e] at r
      exact r
    by_cases g40 : 40 ≤ k ∧ k < 53
    · have e : 40 + (k - 40) = k := by omega
      have r := bl_40 (D := D) (cA := cA) (ad := ad) hc2 (k - 40) x (by omega) (by rw [e]; exact hh)
      rw [e] at r
      exact r
    by_cases g53 : 53 ≤ k ∧ k < 66
    · have e : 53 + (k - 53) = k := by omega
      have r := bl_53 (D := D) (cA := cA) (ad := ad) hc9 (k - 53) x (by omega) (by rw [e]; exact hh)
      rw [e] at r
      exact r
    by_cases g66 : 66 ≤ k ∧ k < 79
    · have e : 66 + (k - 66) = k := by omega
      have r := bl_66 (D := D) (cA := cA) (ad := ad) hc10 (k - 66) x (by omega) (by rw [e]; exact hh)
      rw [e] at r
      exact r
    by_cases g79 : 79 ≤ k ∧ k < 83
    · have e : 79 + (k - 79) = k := by omega
      have r := bl_79 (D := D) (cA := cA) (ad := ad) hc11 (k - 79) x (by omega) (by rw [e]; exact hh)
      rw [e] at r
      exact r
    by_cases g83 : 83 ≤ k ∧ k < 87
    · have e : 83 + (k - 83) = k := by omega
      have r := bl_83 (D := D) (cA := cA) (ad := ad) hc12 (k - 83) x (by omega) (by rw [e]; exact hh)
      rw [e] at r
      exact r
    by_cases g87 : 87 ≤ k ∧ k < 91
    · have e : 87 + (k - 87) = k := by omega
      have r := bl_87 (D := D) (cA := cA) (ad := ad) hc13 (k - 87) x (by omega) (by rw [e]; exact hh)
      rw [e] at r
      exact r
    by_cases g91 : 91 ≤ k ∧ k < 95
    · have e : 91 + (k - 91) = k := by omega
      have r := bl_91 (D := D) (cA := cA) (ad := ad) hc14 (k - 91) x (by omega) (by rw [e]; exact hh)
      rw [e] at r
      exact r
    by_cases g95 : 95 ≤ k ∧ k < 99
    · have e : 95 + (k - 95) = k := by omega
      have r := bl_95 (D := D) (cA := cA) (ad := ad) hc15 (k - 95) x (by omega) (by rw [e]; exact hh)
      rw [e] at r
      exact r
    by_cases g99 : 99 ≤ k ∧ k < 103
    · have e : 99 + (k - 99) = k := by omega
      have r := bl_99 (D := D) (cA := cA) (ad := ad) hc16 (k - 99) x (by omega) (by rw [e]; exact hh)
      rw [e] at r
      exact r
    by_cases g103 : 103 ≤ k ∧ k < 107
    · have e : 103 + (k - 103) = k := by omega
      have r := bl_103 (D := D) (cA := cA) (ad := ad) hc17 (k - 103) x (by omega) (by rw [e]; exact hh)
      rw [e] at r
      exact r
    by_cases g107 : 107 ≤ k ∧ k < 111
    · have e : 107 + (k - 107) = k := by omega
      have r := bl_107 (D := D) (cA := cA) (ad := ad) hc18 (k - 107) x (by omega) (by rw [e]; exact hh)
      rw [e] at r
      exact r
    by_cases g111 : 111 ≤ k ∧ k < 139
    · have e : 111 + (k - 111) = k := by omega
      have r := bl_111 (D := D) (cA := cA) (ad := ad) hm (k - 111) x (by omega) (by rw [e]; exact hh)
      rw [e] at r
      exact r
    by_cases g139 : 139 ≤ k ∧ k < 140
    · have e : 139 + (k - 139) = k := by omega
      have r := bl_139 (D := D) (cA := cA) (ad := ad) hl (k - 139) x (by omega) (by rw [e]; exact hh)
      rw [e] at r
      exact r
    omega
