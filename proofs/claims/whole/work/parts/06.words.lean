theorem gm1 {w : Cond} (i : Nat) (h : tables_1_1[i]? = some w ∧ goodWord w = true) : w ∈ lw_good := by
  refine List.mem_filter.mpr ⟨List.mem_append_right _ ?_, h.2⟩
  have h := List.mem_of_getElem? h.1
  show w ∈ tables_1
  exact List.mem_append_left _ h
theorem gm2 {w : Cond} (i : Nat) (h : tables_1_2[i]? = some w ∧ goodWord w = true) : w ∈ lw_good := by
  refine List.mem_filter.mpr ⟨List.mem_append_right _ ?_, h.2⟩
  have h := List.mem_of_getElem? h.1
  show w ∈ tables_1
  exact List.mem_append_right _ (List.mem_append_left _ h)
theorem gm3 {w : Cond} (i : Nat) (h : tables_1_3[i]? = some w ∧ goodWord w = true) : w ∈ lw_good := by
  refine List.mem_filter.mpr ⟨List.mem_append_right _ ?_, h.2⟩
  have h := List.mem_of_getElem? h.1
  show w ∈ tables_1
  exact List.mem_append_right _ (List.mem_append_right _ (List.mem_append_left _ h))
theorem gm4 {w : Cond} (i : Nat) (h : tables_1_4[i]? = some w ∧ goodWord w = true) : w ∈ lw_good := by
  refine List.mem_filter.mpr ⟨List.mem_append_right _ ?_, h.2⟩
  have h := List.mem_of_getElem? h.1
  show w ∈ tables_1
  exact List.mem_append_right _ (List.mem_append_right _ (List.mem_append_right _ (List.mem_append_left _ h)))
theorem gm5 {w : Cond} (i : Nat) (h : tables_1_5[i]? = some w ∧ goodWord w = true) : w ∈ lw_good := by
  refine List.mem_filter.mpr ⟨List.mem_append_right _ ?_, h.2⟩
  have h := List.mem_of_getElem? h.1
  show w ∈ tables_1
  exact List.mem_append_right _ (List.mem_append_right _ (List.mem_append_right _ (List.mem_append_right _ (List.mem_append_left _ h))))
theorem gm6 {w : Cond} (i : Nat) (h : tables_1_6[i]? = some w ∧ goodWord w = true) : w ∈ lw_good := by
  refine List.mem_filter.mpr ⟨List.mem_append_right _ ?_, h.2⟩
  have h := List.mem_of_getElem? h.1
  show w ∈ tables_1
  exact List.mem_append_right _ (List.mem_append_right _ (List.mem_append_right _ (List.mem_append_right _ (List.mem_append_right _ (List.mem_append_left _ h)))))
theorem gm7 {w : Cond} (i : Nat) (h : tables_1_7[i]? = some w ∧ goodWord w = true) : w ∈ lw_good := by
  refine List.mem_filter.mpr ⟨List.mem_append_right _ ?_, h.2⟩
  have h := List.mem_of_getElem? h.1
  show w ∈ tables_1
  exact List.mem_append_right _ (List.mem_append_right _ (List.mem_append_right _ (List.mem_append_right _ (List.mem_append_right _ (List.mem_append_right _ (List.mem_append_left _ h))))))
theorem gm8 {w : Cond} (i : Nat) (h : tables_1_8[i]? = some w ∧ goodWord w = true) : w ∈ lw_good := by
  refine List.mem_filter.mpr ⟨List.mem_append_right _ ?_, h.2⟩
  have h := List.mem_of_getElem? h.1
  show w ∈ tables_1
  exact List.mem_append_right _ (List.mem_append_right _ (List.mem_append_right _ (List.mem_append_right _ (List.mem_append_right _ (List.mem_append_right _ (List.mem_append_right _ (List.mem_append_left _ h)))))))
theorem gm9 {w : Cond} (i : Nat) (h : tables_1_9[i]? = some w ∧ goodWord w = true) : w ∈ lw_good := by
  refine List.mem_filter.mpr ⟨List.mem_append_right _ ?_, h.2⟩
  have h := List.mem_of_getElem? h.1
  show w ∈ tables_1
  exact List.mem_append_right _ (List.mem_append_right _ (List.mem_append_right _ (List.mem_append_right _ (List.mem_append_right _ (List.mem_append_right _ (List.mem_append_right _ (List.mem_append_right _ (h))))))))
theorem gmp {y : MethodName} {n : Nat} (i : Nat) (h : lw_privs[i]? = some (y, n) ∧ goodWord (Cond.selects y.cls y y) = true) : Cond.selects y.cls y y ∈ lw_good := by
  refine List.mem_filter.mpr ⟨List.mem_append_left _ ?_, h.2⟩
  exact List.mem_map.mpr ⟨(y, n), List.mem_of_getElem? h.1, rfl⟩
theorem jin_of {C : String} {T : u_T} {N : Nat} (h : ∀ k, k < N → u_lay C T k ∈ lw_good) : ∀ w ∈ u_ws C T N, w ∈ lw_good := by
  intro w hw
  obtain ⟨k, hk, rfl⟩ := List.mem_map.mp hw
  exact h k (List.mem_range.mp hk)
theorem jl0 : ∀ k, k < 4 → u_lay RX0 TX0 k ∈ lw_good := by
  intro k hk
  match k, hk with
  | 0, _ => exact gm1 123 (by decide +kernel)
  | 1, _ => exact gm1 125 (by decide +kernel)
  | 2, _ => exact gm1 127 (by decide +kernel)
  | 3, _ => exact gm1 129 (by decide +kernel)
  | n + 4, hk => exact absurd hk (by omega)
theorem jl1 : ∀ k, k < 10 → u_lay RX1 TX1 k ∈ lw_good := by
  intro k hk
  match k, hk with
  | 0, _ => exact gm1 158 (by decide +kernel)
  | 1, _ => exact gm1 160 (by decide +kernel)
  | 2, _ => exact gm1 162 (by decide +kernel)
  | 3, _ => exact gm1 164 (by decide +kernel)
  | 4, _ => exact gm1 166 (by decide +kernel)
  | 5, _ => exact gm1 168 (by decide +kernel)
  | 6, _ => exact gm1 170 (by decide +kernel)
  | 7, _ => exact gm1 172 (by decide +kernel)
  | 8, _ => exact gm1 174 (by decide +kernel)
  | 9, _ => exact gm1 176 (by decide +kernel)
  | n + 10, hk => exact absurd hk (by omega)
theorem jl2 : ∀ k, k < 2 → u_lay RX2 TX2 k ∈ lw_good := by
  intro k hk
  match k, hk with
  | 0, _ => exact gm1 54 (by decide +kernel)
  | 1, _ => exact gm1 56 (by decide +kernel)
  | n + 2, hk => exact absurd hk (by omega)
theorem jl3 : ∀ k, k < 5 → u_lay RX3 TX3 k ∈ lw_good := by
  intro k hk
  match k, hk with
  | 0, _ => exact gm1 191 (by decide +kernel)
  | 1, _ => exact gm1 193 (by decide +kernel)
  | 2, _ => exact gm1 195 (by decide +kernel)
  | 3, _ => exact gm1 197 (by decide +kernel)
  | 4, _ => exact gm1 199 (by decide +kernel)
  | n + 5, hk => exact absurd hk (by omega)
theorem jl4 : ∀ k, k < 4 → u_lay RX4 TX4 k ∈ lw_good := by
  intro k hk
  match k, hk with
  | 0, _ => exact gm2 90 (by decide +kernel)
  | 1, _ => exact gm2 92 (by decide +kernel)
  | 2, _ => exact gm2 94 (by decide +kernel)
  | 3, _ => exact gm2 96 (by decide +kernel)
  | n + 4, hk => exact absurd hk (by omega)
theorem jl5 : ∀ k, k < 7 → u_lay RX5 TX5 k ∈ lw_good := by
  intro k hk
  match k, hk with
  | 0, _ => exact gm2 64 (by decide +kernel)
  | 1, _ => exact gm2 66 (by decide +kernel)
  | 2, _ => exact gm2 68 (by decide +kernel)
  | 3, _ => exact gm2 70 (by decide +kernel)
  | 4, _ => exact gm2 72 (by decide +kernel)
  | 5, _ => exact gm2 74 (by decide +kernel)
  | 6, _ => exact gm2 76 (by decide +kernel)
  | n + 7, hk => exact absurd hk (by omega)
theorem jl6 : ∀ k, k < 2 → u_lay RX6 TX6 k ∈ lw_good := by
  intro k hk
  match k, hk with
  | 0, _ => exact gm2 46 (by decide +kernel)
  | 1, _ => exact gm2 48 (by decide +kernel)
  | n + 2, hk => exact absurd hk (by omega)
theorem jl8 : ∀ k, k < 9 → u_lay RX8 TX8 k ∈ lw_good := by
  intro k hk
  match k, hk with
  | 0, _ => exact gm1 80 (by decide +kernel)
  | 1, _ => exact gm1 82 (by decide +kernel)
  | 2, _ => exact gm1 84 (by decide +kernel)
  | 3, _ => exact gm1 86 (by decide +kernel)
  | 4, _ => exact gm1 88 (by decide +kernel)
  | 5, _ => exact gm1 90 (by decide +kernel)
  | 6, _ => exact gm1 92 (by decide +kernel)
  | 7, _ => exact gm1 94 (by decide +kernel)
  | 8, _ => exact gm1 96 (by decide +kernel)
  | n + 9, hk => exact absurd hk (by omega)
theorem jl9 : ∀ k, k < 3 → u_lay RX9 TX9 k ∈ lw_good := by
  intro k hk
  match k, hk with
  | 0, _ => exact gm1 213 (by decide +kernel)
  | 1, _ => exact gm1 215 (by decide +kernel)
  | 2, _ => exact gm1 217 (by decide +kernel)
  | n + 3, hk => exact absurd hk (by omega)
theorem jl10 : ∀ k, k < 6 → u_lay RX10 TX10 k ∈ lw_good := by
  intro k hk
  match k, hk with
  | 0, _ => exact gm2 23 (by decide +kernel)
  | 1, _ => exact gm2 25 (by decide +kernel)
  | 2, _ => exact gm2 27 (by decide +kernel)
  | 3, _ => exact gm2 29 (by decide +kernel)
  | 4, _ => exact gm2 31 (by decide +kernel)
  | 5, _ => exact gm2 33 (by decide +kernel)
  | n + 6, hk => exact absurd hk (by omega)
theorem jl11 : ∀ k, k < 6 → u_lay RX11 TX11 k ∈ lw_good := by
  intro k hk
  match k, hk with
  | 0, _ => exact gm1 233 (by decide +kernel)
  | 1, _ => exact gm1 235 (by decide +kernel)
  | 2, _ => exact gm1 237 (by decide +kernel)
  | 3, _ => exact gm1 239 (by decide +kernel)
  | 4, _ => exact gm2 1 (by decide +kernel)
  | 5, _ => exact gm2 3 (by decide +kernel)
  | n + 6, hk => exact absurd hk (by omega)
theorem jl12 : ∀ k, k < 15 → u_lay RX12 TX12 k ∈ lw_good := by
  intro k hk
  match k, hk with
  | 0, _ => exact gm2 115 (by decide +kernel)
  | 1, _ => exact gm2 117 (by decide +kernel)
  | 2, _ => exact gm2 119 (by decide +kernel)
  | 3, _ => exact gm2 121 (by decide +kernel)
  | 4, _ => exact gm2 123 (by decide +kernel)
  | 5, _ => exact gm2 125 (by decide +kernel)
  | 6, _ => exact gm2 127 (by decide +kernel)
  | 7, _ => exact gm2 129 (by decide +kernel)
  | 8, _ => exact gm2 131 (by decide +kernel)
  | 9, _ => exact gm2 133 (by decide +kernel)
  | 10, _ => exact gm2 135 (by decide +kernel)
  | 11, _ => exact gm2 137 (by decide +kernel)
  | 12, _ => exact gm2 139 (by decide +kernel)
  | 13, _ => exact gm2 141 (by decide +kernel)
  | 14, _ => exact gm2 143 (by decide +kernel)
  | n + 15, hk => exact absurd hk (by omega)
theorem jl13 : ∀ k, k < 51 → u_lay RX13 TX13 k ∈ lw_good := by
  intro k hk
  match k, hk with
  | 0, _ => exact gm6 153 (by decide +kernel)
  | 1, _ => exact gm6 155 (by decide +kernel)
  | 2, _ => exact gm6 157 (by decide +kernel)
  | 3, _ => exact gm6 159 (by decide +kernel)
  | 4, _ => exact gm6 161 (by decide +kernel)
  | 5, _ => exact gm6 163 (by decide +kernel)
  | 6, _ => exact gm6 165 (by decide +kernel)
  | 7, _ => exact gm6 167 (by decide +kernel)
  | 8, _ => exact gm6 169 (by decide +kernel)
  | 9, _ => exact gm6 171 (by decide +kernel)
  | 10, _ => exact gm6 173 (by decide +kernel)
  | 11, _ => exact gm6 175 (by decide +kernel)
  | 12, _ => exact gm6 177 (by decide +kernel)
  | 13, _ => exact gm6 179 (by decide +kernel)
  | 14, _ => exact gm6 181 (by decide +kernel)
  | 15, _ => exact gm6 183 (by decide +kernel)
  | 16, _ => exact gm6 185 (by decide +kernel)
  | 17, _ => exact gm6 187 (by decide +kernel)
  | 18, _ => exact gm6 189 (by decide +kernel)
  | 19, _ => exact gm6 191 (by decide +kernel)
  | 20, _ => exact gm6 193 (by decide +kernel)
  | 21, _ => exact gm6 195 (by decide +kernel)
  | 22, _ => exact gm6 197 (by decide +kernel)
  | 23, _ => exact gm6 199 (by decide +kernel)
  | 24, _ => exact gm6 201 (by decide +kernel)
  | 25, _ => exact gm6 203 (by decide +kernel)
  | 26, _ => exact gm6 205 (by decide +kernel)
  | 27, _ => exact gm6 207 (by decide +kernel)
  | 28, _ => exact gm6 209 (by decide +kernel)
  | 29, _ => exact gm6 211 (by decide +kernel)
  | 30, _ => exact gm6 213 (by decide +kernel)
  | 31, _ => exact gm6 215 (by decide +kernel)
  | 32, _ => exact gm6 217 (by decide +kernel)
  | 33, _ => exact gm6 219 (by decide +kernel)
  | 34, _ => exact gm6 221 (by decide +kernel)
  | 35, _ => exact gm6 223 (by decide +kernel)
  | 36, _ => exact gm6 225 (by decide +kernel)
  | 37, _ => exact gm6 227 (by decide +kernel)
  | 38, _ => exact gm6 229 (by decide +kernel)
  | 39, _ => exact gm6 231 (by decide +kernel)
  | 40, _ => exact gm6 233 (by decide +kernel)
  | 41, _ => exact gm6 235 (by decide +kernel)
  | 42, _ => exact gm6 237 (by decide +kernel)
  | 43, _ => exact gm6 239 (by decide +kernel)
  | 44, _ => exact gm7 1 (by decide +kernel)
  | 45, _ => exact gm7 3 (by decide +kernel)
  | 46, _ => exact gm7 5 (by decide +kernel)
  | 47, _ => exact gm7 7 (by decide +kernel)
  | 48, _ => exact gm7 9 (by decide +kernel)
  | 49, _ => exact gm7 11 (by decide +kernel)
  | 50, _ => exact gm7 13 (by decide +kernel)
  | n + 51, hk => exact absurd hk (by omega)
theorem jClw : ∀ (ci : Nat) (q : vw_C), vwCl[ci]? = some q → ∀ w ∈ u_ws q.1 q.2.1 q.2.2, w ∈ lw_good := by
  intro ci q h
  match ci, h with
  | 0, h => cases h; exact jin_of jl0
  | 1, h => cases h; exact jin_of jl1
  | 2, h => cases h; exact jin_of jl2
  | 3, h => cases h; exact jin_of jl3
  | 4, h => cases h; exact jin_of jl4
  | 5, h => cases h; exact jin_of jl5
  | 6, h => cases h; exact jin_of jl6
  | 7, h => cases h; exact jin_of jl8
  | 8, h => cases h; exact jin_of jl9
  | 9, h => cases h; exact jin_of jl10
  | 10, h => cases h; exact jin_of jl11
  | 11, h => cases h; exact jin_of jl12
  | 12, h => cases h; exact jin_of jl13
  | n + 13, h => simp [vwCl] at h
theorem jClt : ∀ (ci : Nat) (q : vw_C), vwCl[ci]? = some q → ∃ ty0 : Nat → FieldType, (∀ k, k < q.2.2 → parseFieldDescriptor (q.2.1 k).2.2.1 = some (ty0 k)) ∧ ∀ a, a < q.2.2 → ∀ b, b < q.2.2 → a ≠ b → (q.2.1 a).2.1 ≠ (q.2.1 b).2.1 := by
  intro ci q h
  match ci, h with
  | 0, h => cases h; exact ⟨tyX0, tyX0_ok, nmX0⟩
  | 1, h => cases h; exact ⟨tyX1, tyX1_ok, nmX1⟩
  | 2, h => cases h; exact ⟨tyX2, tyX2_ok, nmX2⟩
  | 3, h => cases h; exact ⟨tyX3, tyX3_ok, nmX3⟩
  | 4, h => cases h; exact ⟨tyX4, tyX4_ok, nmX4⟩
  | 5, h => cases h; exact ⟨tyX5, tyX5_ok, nmX5⟩
  | 6, h => cases h; exact ⟨tyX6, tyX6_ok, nmX6⟩
  | 7, h => cases h; exact ⟨tyX8, tyX8_ok, nmX8⟩
  | 8, h => cases h; exact ⟨tyX9, tyX9_ok, nmX9⟩
  | 9, h => cases h; exact ⟨tyX10, tyX10_ok, nmX10⟩
  | 10, h => cases h; exact ⟨tyX11, tyX11_ok, nmX11⟩
  | 11, h => cases h; exact ⟨tyX12, tyX12_ok, nmX12⟩
  | 12, h => cases h; exact ⟨tyX13, tyX13_ok, nmX13⟩
  | n + 13, h => simp [vwCl] at h
