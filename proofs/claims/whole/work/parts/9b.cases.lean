/-! ===== the law: a case a method ===== -/
theorem mlL_7 : Cond.methodLink R_law 7 yX12_band ∈ lw_good := gm6 21 (by decide +kernel)
theorem mlL_19 : Cond.methodLink R_law 19 yX12_feed ∈ lw_good := gm2 146 (by decide +kernel)
theorem mlL_23 : Cond.methodLink R_law 23 yX13_feed ∈ lw_good := gm7 20 (by decide +kernel)
theorem mlL_24 : Cond.methodLink R_law 24 yX12_end ∈ lw_good := gm2 162 (by decide +kernel)
theorem mlL_28 : Cond.methodLink R_law 28 yX13_end ∈ lw_good := gm7 28 (by decide +kernel)
theorem mlL_29 : Cond.methodLink R_law 29 yX12_board ∈ lw_good := gm2 166 (by decide +kernel)
theorem mlL_33 : Cond.methodLink R_law 33 yX13_board ∈ lw_good := gm7 32 (by decide +kernel)
theorem mlL_34 : Cond.methodLink R_law 34 yX12_fault ∈ lw_good := gm3 147 (by decide +kernel)
theorem mlL_37 : Cond.methodLink R_law 37 yX13_fault ∈ lw_good := gm7 161 (by decide +kernel)
theorem mlL_38 : Cond.methodLink R_law 38 yX12_why ∈ lw_good := gm3 151 (by decide +kernel)
theorem mlL_41 : Cond.methodLink R_law 41 yX13_why ∈ lw_good := gm7 165 (by decide +kernel)
theorem mlL_42 : Cond.methodLink R_law 42 yX12_peg ∈ lw_good := gm3 155 (by decide +kernel)
theorem mlL_46 : Cond.methodLink R_law 46 yX13_peg ∈ lw_good := gm7 169 (by decide +kernel)
theorem mlL_52 : Cond.methodLink R_law 52 yX13_band ∈ lw_good := gm7 177 (by decide +kernel)
theorem mlL_53 : Cond.methodLink R_law 53 yX13_thrown ∈ lw_good := gm7 16 (by decide +kernel)
theorem mlL_56 : Cond.methodLink R_law 56 yX12_corner ∈ lw_good := gm3 160 (by decide +kernel)
theorem mlL_59 : Cond.methodLink R_law 59 yX13_corner ∈ lw_good := gm7 239 (by decide +kernel)
theorem mlL_60 : Cond.methodLink R_law 60 yX12_side ∈ lw_good := gm3 174 (by decide +kernel)
theorem mlL_63 : Cond.methodLink R_law 63 yX13_side ∈ lw_good := gm8 3 (by decide +kernel)
theorem mlL_64 : Cond.methodLink R_law 64 yX12_over ∈ lw_good := gm3 181 (by decide +kernel)
theorem mlL_67 : Cond.methodLink R_law 67 yX13_over ∈ lw_good := gm8 7 (by decide +kernel)
theorem mlL_68 : Cond.methodLink R_law 68 yX12_cross ∈ lw_good := gm3 202 (by decide +kernel)
theorem mlL_72 : Cond.methodLink R_law 72 yX13_cross ∈ lw_good := gm8 23 (by decide +kernel)
theorem mlL_73 : Cond.methodLink R_law 73 yX12_in ∈ lw_good := gm3 212 (by decide +kernel)
theorem mlL_76 : Cond.methodLink R_law 76 yX13_in ∈ lw_good := gm8 27 (by decide +kernel)
theorem mlL_77 : Cond.methodLink R_law 77 yX12_alike ∈ lw_good := gm3 222 (by decide +kernel)
theorem mlL_80 : Cond.methodLink R_law 80 yX13_alike ∈ lw_good := gm8 43 (by decide +kernel)
theorem mlL_81 : Cond.methodLink R_law 81 yX12_form ∈ lw_good := gm4 25 (by decide +kernel)
theorem mlL_84 : Cond.methodLink R_law 84 yX13_form ∈ lw_good := gm8 66 (by decide +kernel)
theorem mlL_85 : Cond.methodLink R_law 85 yX12_formAt ∈ lw_good := gm4 33 (by decide +kernel)
theorem mlL_88 : Cond.methodLink R_law 88 yX13_formAt ∈ lw_good := gm8 70 (by decide +kernel)
theorem mlL_89 : Cond.methodLink R_law 89 yX12_move ∈ lw_good := gm4 76 (by decide +kernel)
theorem mlL_92 : Cond.methodLink R_law 92 yX13_move ∈ lw_good := gm8 86 (by decide +kernel)
theorem mlL_93 : Cond.methodLink R_law 93 yX12_slide ∈ lw_good := gm4 95 (by decide +kernel)
theorem mlL_96 : Cond.methodLink R_law 96 yX13_slide ∈ lw_good := gm8 102 (by decide +kernel)
theorem mlL_97 : Cond.methodLink R_law 97 yX12_snap ∈ lw_good := gm4 101 (by decide +kernel)
theorem mlL_100 : Cond.methodLink R_law 100 yX13_snap ∈ lw_good := gm8 118 (by decide +kernel)
theorem mlL_101 : Cond.methodLink R_law 101 yX12_undo ∈ lw_good := gm4 110 (by decide +kernel)
theorem mlL_104 : Cond.methodLink R_law 104 yX13_undo ∈ lw_good := gm8 82 (by decide +kernel)
theorem mlL_105 : Cond.methodLink R_law 105 yX12_free ∈ lw_good := gm4 64 (by decide +kernel)
theorem mlL_108 : Cond.methodLink R_law 108 yX13_free ∈ lw_good := gm8 106 (by decide +kernel)
theorem mlL_109 : Cond.methodLink R_law 109 yX12_rim ∈ lw_good := gm4 37 (by decide +kernel)
theorem mlL_112 : Cond.methodLink R_law 112 yX13_rim ∈ lw_good := gm8 35 (by decide +kernel)
theorem mlL_113 : Cond.methodLink R_law 113 yX12_even ∈ lw_good := gm4 47 (by decide +kernel)
theorem mlL_116 : Cond.methodLink R_law 116 yX13_even ∈ lw_good := gm8 74 (by decide +kernel)
theorem mlL_117 : Cond.methodLink R_law 117 yX12_wide ∈ lw_good := gm4 55 (by decide +kernel)
theorem mlL_120 : Cond.methodLink R_law 120 yX13_wide ∈ lw_good := gm8 39 (by decide +kernel)
theorem mlL_121 : Cond.methodLink R_law 121 yX12_calls ∈ lw_good := gm4 114 (by decide +kernel)
theorem mlL_124 : Cond.methodLink R_law 124 yX13_calls ∈ lw_good := gm8 122 (by decide +kernel)
theorem mlL_125 : Cond.methodLink R_law 125 yX12_closes ∈ lw_good := gm4 142 (by decide +kernel)
theorem mlL_128 : Cond.methodLink R_law 128 yX13_closes ∈ lw_good := gm8 138 (by decide +kernel)
theorem mlL_129 : Cond.methodLink R_law 129 yX12_mended ∈ lw_good := gm4 158 (by decide +kernel)
theorem mlL_132 : Cond.methodLink R_law 132 yX13_mended ∈ lw_good := gm8 150 (by decide +kernel)
theorem mlL_133 : Cond.methodLink R_law 133 yX12_lay ∈ lw_good := gm4 168 (by decide +kernel)
theorem mlL_136 : Cond.methodLink R_law 136 yX13_lay ∈ lw_good := gm8 158 (by decide +kernel)
theorem mlL_137 : Cond.methodLink R_law 137 yX12_write ∈ lw_good := gm4 173 (by decide +kernel)
theorem mlL_140 : Cond.methodLink R_law 140 yX13_write ∈ lw_good := gm8 162 (by decide +kernel)
theorem mlL_141 : Cond.methodLink R_law 141 yX12_byteAt ∈ lw_good := gm4 204 (by decide +kernel)
theorem mlL_144 : Cond.methodLink R_law 144 yX13_byteAt ∈ lw_good := gm8 174 (by decide +kernel)
theorem mlL_145 : Cond.methodLink R_law 145 yX12_triangles ∈ lw_good := gm4 209 (by decide +kernel)
theorem mlL_148 : Cond.methodLink R_law 148 yX13_triangles ∈ lw_good := gm8 178 (by decide +kernel)
theorem mlL_149 : Cond.methodLink R_law 149 yX12_smallest ∈ lw_good := gm4 239 (by decide +kernel)
theorem mlL_152 : Cond.methodLink R_law 152 yX13_smallest ∈ lw_good := gm8 186 (by decide +kernel)
theorem mlL_153 : Cond.methodLink R_law 153 yX12_cuts ∈ lw_good := gm5 4 (by decide +kernel)
theorem mlL_156 : Cond.methodLink R_law 156 yX13_cuts ∈ lw_good := gm8 190 (by decide +kernel)
theorem mlL_157 : Cond.methodLink R_law 157 yX12_moved ∈ lw_good := gm5 40 (by decide +kernel)
theorem mlL_160 : Cond.methodLink R_law 160 yX13_moved ∈ lw_good := gm8 202 (by decide +kernel)
theorem mlL_161 : Cond.methodLink R_law 161 yX12_line ∈ lw_good := gm5 87 (by decide +kernel)
theorem mlL_165 : Cond.methodLink R_law 165 yX13_line ∈ lw_good := gm8 221 (by decide +kernel)
theorem mlL_166 : Cond.methodLink R_law 166 yX12_lines ∈ lw_good := gm5 123 (by decide +kernel)
theorem mlL_169 : Cond.methodLink R_law 169 yX13_lines ∈ lw_good := gm9 1 (by decide +kernel)
theorem mlL_170 : Cond.methodLink R_law 170 yX12_wins ∈ lw_good := gm5 131 (by decide +kernel)
theorem mlL_173 : Cond.methodLink R_law 173 yX13_wins ∈ lw_good := gm9 5 (by decide +kernel)
theorem mlL_174 : Cond.methodLink R_law 174 yX12_again ∈ lw_good := gm5 144 (by decide +kernel)
theorem mlL_177 : Cond.methodLink R_law 177 yX13_again ∈ lw_good := gm9 13 (by decide +kernel)
theorem mlL_178 : Cond.methodLink R_law 178 yX12_sentence ∈ lw_good := gm5 148 (by decide +kernel)
theorem mlL_181 : Cond.methodLink R_law 181 yX13_sentence ∈ lw_good := gm9 17 (by decide +kernel)
theorem mlL_182 : Cond.methodLink R_law 182 yX12_said ∈ lw_good := gm5 193 (by decide +kernel)
theorem mlL_185 : Cond.methodLink R_law 185 yX13_said ∈ lw_good := gm9 53 (by decide +kernel)
theorem mlL_186 : Cond.methodLink R_law 186 yX12_image ∈ lw_good := gm5 237 (by decide +kernel)
theorem mlL_189 : Cond.methodLink R_law 189 yX13_image ∈ lw_good := gm9 61 (by decide +kernel)
theorem mlL_190 : Cond.methodLink R_law 190 yX12_restore ∈ lw_good := gm6 9 (by decide +kernel)
theorem mlL_193 : Cond.methodLink R_law 193 yX13_restore ∈ lw_good := gm9 65 (by decide +kernel)
theorem mlL_194 : Cond.methodLink R_law 194 yX12_count ∈ lw_good := gm6 13 (by decide +kernel)
theorem mlL_197 : Cond.methodLink R_law 197 yX13_count ∈ lw_good := gm9 69 (by decide +kernel)
theorem and63L (x : Int) : 0 ≤ iAnd x 63 ∧ iAnd x 63 ≤ 63 := by
  unfold iAnd
  have h : (Int32.ofInt x &&& Int32.ofInt 63).toBitVec.toNat ≤ 63 := by
    rw [Int32.toBitVec_and, BitVec.toNat_and]
    exact Nat.le_trans Nat.and_le_right (by decide)
  have e : (Int32.ofInt x &&& Int32.ofInt 63).toInt = ((Int32.ofInt x &&& Int32.ofInt 63).toBitVec.toNat : Int) := by
    show BitVec.toInt _ = _
    rw [BitVec.toInt_eq_toNat_of_lt (by omega)]
  omega
section LC
variable {p : Program} {l : Launch} {e : Env} {s : State} {m : MethodId} {below : List Frame} {meth : Method} {c : Code} {b L : Nat} {xs : Nat → Int32} {ad : Nat → Nat} {D : va_G} {cA : Nat → ClassId} {σ : jS} {cells slots : Nat}
theorem lc_feed (C : lC p s m meth c b L xs ad D cA) {i : Int} (hi : 0 ≤ i ∧ i + 6 ≤ L) (hI : Inv σ) (hc0 : cells ≤ room_1.cells) (hs0 : slots ≤ room_1.slots) (K : ∀ τ, Inv τ → lwR p l e s m below meth c b ad D cA 1485 (lvL b ad i) [] τ cells slots) : lwR p l e s m below meth c b ad D cA 224 (lvL b ad i) [] σ cells slots := by
  refine l_aload C (dc dkL0 25 rfl) rfl (lp 225 rfl ?_)
  refine l_arg (k := 1) C ⟨by omega, by omega, by omega⟩ (dc dkL0 26 rfl) (dc dkL0 27 rfl) (dc dkL0 28 rfl) (dc dkL0 29 rfl) (dc dkL0 30 rfl) (lp 231 rfl ?_)
  refine l_arg (k := 2) C ⟨by omega, by omega, by omega⟩ (dc dkL0 31 rfl) (dc dkL0 32 rfl) (dc dkL0 33 rfl) (dc dkL0 34 rfl) (dc dkL0 35 rfl) (lp 237 rfl ?_)
  refine l_arg (k := 3) C ⟨by omega, by omega, by omega⟩ (dc dkL0 36 rfl) (dc dkL0 37 rfl) (dc dkL0 38 rfl) (dc dkL0 39 rfl) (dc dkL0 40 rfl) (lp 243 rfl ?_)
  refine l_arg (k := 4) C ⟨by omega, by omega, by omega⟩ (dc dkL0 41 rfl) (dc dkL0 42 rfl) (dc dkL0 43 rfl) (dc dkL0 44 rfl) (dc dkL0 45 rfl) (lp 249 rfl ?_)
  refine l_arg (k := 5) C ⟨by omega, by omega, by omega⟩ (dc dkL0 46 rfl) (dc dkL0 47 rfl) (dc dkL0 48 rfl) (dc dkL0 49 rfl) (dc dkL0 50 rfl) (lp 255 rfl ?_)
  refine l_ag (as := [vI (sc xs (i + 1)), vI (sc xs (i + 2)), vI (sc xs (i + 3)), vI (sc xs (i + 4)), vI (sc xs (i + 5))]) (pc2 := 289) (pc3 := 292) (tgt := 1485) C hc0 hs0 (ag_feed hI) (dc dkL0 51 rfl) mlL_19 ceX12_feed (by decide) rfl rfl rfl (dc dkL1 18 rfl) mlL_23 ceX13_feed (by decide) rfl (dc dkL1 19 rfl) rfl (by decide) (fun v τ Kx => ?_) (fun τ hτ => ?_)
  · refine lp 258 rfl ?_
    refine l_aload C (dc dkL0 52 rfl) rfl (lp 259 rfl ?_)
    refine l_arg (k := 1) C ⟨by omega, by omega, by omega⟩ (dc dkL0 53 rfl) (dc dkL0 54 rfl) (dc dkL0 55 rfl) (dc dkL0 56 rfl) (dc dkL0 57 rfl) (lp 265 rfl ?_)
    refine l_arg (k := 2) C ⟨by omega, by omega, by omega⟩ (dc dkL0 58 rfl) (dc dkL0 59 rfl) (dc dkL1 0 rfl) (dc dkL1 1 rfl) (dc dkL1 2 rfl) (lp 271 rfl ?_)
    refine l_arg (k := 3) C ⟨by omega, by omega, by omega⟩ (dc dkL1 3 rfl) (dc dkL1 4 rfl) (dc dkL1 5 rfl) (dc dkL1 6 rfl) (dc dkL1 7 rfl) (lp 277 rfl ?_)
    refine l_arg (k := 4) C ⟨by omega, by omega, by omega⟩ (dc dkL1 8 rfl) (dc dkL1 9 rfl) (dc dkL1 10 rfl) (dc dkL1 11 rfl) (dc dkL1 12 rfl) (lp 283 rfl ?_)
    refine l_arg (k := 5) C ⟨by omega, by omega, by omega⟩ (dc dkL1 13 rfl) (dc dkL1 14 rfl) (dc dkL1 15 rfl) (dc dkL1 16 rfl) (dc dkL1 17 rfl) (lp 289 rfl ?_)
    exact Kx
  ·
    exact K τ hτ
theorem lc_end (C : lC p s m meth c b L xs ad D cA) {i : Int} (hi : 0 ≤ i ∧ i + 6 ≤ L) (hI : Inv σ) (hc0 : cells ≤ room_1.cells) (hs0 : slots ≤ room_1.slots) (K : ∀ τ, Inv τ → lwR p l e s m below meth c b ad D cA 1485 (lvL b ad i) [] τ cells slots) : lwR p l e s m below meth c b ad D cA 297 (lvL b ad i) [] σ cells slots := by
  refine l_aload C (dc dkL1 22 rfl) rfl (lp 298 rfl ?_)
  refine l_arg (k := 1) C ⟨by omega, by omega, by omega⟩ (dc dkL1 23 rfl) (dc dkL1 24 rfl) (dc dkL1 25 rfl) (dc dkL1 26 rfl) (dc dkL1 27 rfl) (lp 304 rfl ?_)
  refine l_ag (as := [vI (sc xs (i + 1))]) (pc2 := 314) (pc3 := 317) (tgt := 1485) C hc0 hs0 (ag_end hI (sc_R _ _)) (dc dkL1 28 rfl) mlL_24 ceX12_end (by decide) rfl rfl rfl (dc dkL1 35 rfl) mlL_28 ceX13_end (by decide) rfl (dc dkL1 36 rfl) rfl (by decide) (fun v τ Kx => ?_) (fun τ hτ => ?_)
  · refine lp 307 rfl ?_
    refine l_aload C (dc dkL1 29 rfl) rfl (lp 308 rfl ?_)
    refine l_arg (k := 1) C ⟨by omega, by omega, by omega⟩ (dc dkL1 30 rfl) (dc dkL1 31 rfl) (dc dkL1 32 rfl) (dc dkL1 33 rfl) (dc dkL1 34 rfl) (lp 314 rfl ?_)
    exact Kx
  ·
    exact K τ hτ
theorem lc_board (C : lC p s m meth c b L xs ad D cA) {i : Int} (hi : 0 ≤ i ∧ i + 6 ≤ L) (hI : Inv σ) (hc0 : cells ≤ room_1.cells) (hs0 : slots ≤ room_1.slots) (K : ∀ τ, Inv τ → lwR p l e s m below meth c b ad D cA 1485 (lvL b ad i) [] τ cells slots) : lwR p l e s m below meth c b ad D cA 322 (lvL b ad i) [] σ cells slots := by
  refine l_aload C (dc dkL1 39 rfl) rfl (lp 323 rfl ?_)
  refine l_ag (as := []) (pc2 := 327) (pc3 := 330) (tgt := 1485) C hc0 hs0 (ag_board hI) (dc dkL1 40 rfl) mlL_29 ceX12_board (by decide) rfl rfl rfl (dc dkL1 42 rfl) mlL_33 ceX13_board (by decide) rfl (dc dkL1 43 rfl) rfl (by decide) (fun v τ Kx => ?_) (fun τ hτ => ?_)
  · refine lp 326 rfl ?_
    refine l_aload C (dc dkL1 41 rfl) rfl (lp 327 rfl ?_)
    exact Kx
  ·
    exact K τ hτ
theorem lc_fault (C : lC p s m meth c b L xs ad D cA) {i : Int} (hi : 0 ≤ i ∧ i + 6 ≤ L) (hI : Inv σ) (hc0 : cells ≤ room_1.cells) (hs0 : slots ≤ room_1.slots) (K : ∀ τ, Inv τ → lwR p l e s m below meth c b ad D cA 1485 (lvL b ad i) [] τ cells slots) : lwR p l e s m below meth c b ad D cA 335 (lvL b ad i) [] σ cells slots := by
  refine l_aload C (dc dkL1 46 rfl) rfl (lp 336 rfl ?_)
  refine l_ag (as := []) (pc2 := 340) (pc3 := 343) (tgt := 1485) C hc0 hs0 (ag_fault hI) (dc dkL1 47 rfl) mlL_34 ceX12_fault (by decide) rfl rfl rfl (dc dkL1 49 rfl) mlL_37 ceX13_fault (by decide) rfl (dc dkL1 50 rfl) rfl (by decide) (fun v τ Kx => ?_) (fun τ hτ => ?_)
  · refine lp 339 rfl ?_
    refine l_aload C (dc dkL1 48 rfl) rfl (lp 340 rfl ?_)
    exact Kx
  ·
    exact K τ hτ
theorem lc_why (C : lC p s m meth c b L xs ad D cA) {i : Int} (hi : 0 ≤ i ∧ i + 6 ≤ L) (hI : Inv σ) (hc0 : cells ≤ room_1.cells) (hs0 : slots ≤ room_1.slots) (K : ∀ τ, Inv τ → lwR p l e s m below meth c b ad D cA 1485 (lvL b ad i) [] τ cells slots) : lwR p l e s m below meth c b ad D cA 348 (lvL b ad i) [] σ cells slots := by
  refine l_aload C (dc dkL1 53 rfl) rfl (lp 349 rfl ?_)
  refine l_ag (as := []) (pc2 := 353) (pc3 := 356) (tgt := 1485) C hc0 hs0 (ag_why hI) (dc dkL1 54 rfl) mlL_38 ceX12_why (by decide) rfl rfl rfl (dc dkL1 56 rfl) mlL_41 ceX13_why (by decide) rfl (dc dkL1 57 rfl) rfl (by decide) (fun v τ Kx => ?_) (fun τ hτ => ?_)
  · refine lp 352 rfl ?_
    refine l_aload C (dc dkL1 55 rfl) rfl (lp 353 rfl ?_)
    exact Kx
  ·
    exact K τ hτ
theorem lc_peg (C : lC p s m meth c b L xs ad D cA) {i : Int} (hi : 0 ≤ i ∧ i + 6 ≤ L) (hI : Inv σ) (hc0 : cells ≤ room_1.cells) (hs0 : slots ≤ room_1.slots) (K : ∀ τ, Inv τ → lwR p l e s m below meth c b ad D cA 1485 (lvL b ad i) [] τ cells slots) : lwR p l e s m below meth c b ad D cA 361 (lvL b ad i) [] σ cells slots := by
  refine l_aload C (dc dkL2 0 rfl) rfl (lp 362 rfl ?_)
  refine l_arg (k := 1) C ⟨by omega, by omega, by omega⟩ (dc dkL2 1 rfl) (dc dkL2 2 rfl) (dc dkL2 3 rfl) (dc dkL2 4 rfl) (dc dkL2 5 rfl) (lp 368 rfl ?_)
  refine l_ag (as := [vI (sc xs (i + 1))]) (pc2 := 378) (pc3 := 381) (tgt := 1485) C hc0 hs0 (ag_peg hI (sc_R _ _)) (dc dkL2 6 rfl) mlL_42 ceX12_peg (by decide) rfl rfl rfl (dc dkL2 13 rfl) mlL_46 ceX13_peg (by decide) rfl (dc dkL2 14 rfl) rfl (by decide) (fun v τ Kx => ?_) (fun τ hτ => ?_)
  · refine lp 371 rfl ?_
    refine l_aload C (dc dkL2 7 rfl) rfl (lp 372 rfl ?_)
    refine l_arg (k := 1) C ⟨by omega, by omega, by omega⟩ (dc dkL2 8 rfl) (dc dkL2 9 rfl) (dc dkL2 10 rfl) (dc dkL2 11 rfl) (dc dkL2 12 rfl) (lp 378 rfl ?_)
    exact Kx
  ·
    exact K τ hτ
theorem lc_corner (C : lC p s m meth c b L xs ad D cA) {i : Int} (hi : 0 ≤ i ∧ i + 6 ≤ L) (hI : Inv σ) (hc0 : cells ≤ room_1.cells) (hs0 : slots ≤ room_1.slots) (K : ∀ τ, Inv τ → lwR p l e s m below meth c b ad D cA 1485 (lvL b ad i) [] τ cells slots) : lwR p l e s m below meth c b ad D cA 454 (lvL b ad i) [] σ cells slots := by
  refine l_aload C (dc dkL3 2 rfl) rfl (lp 455 rfl ?_)
  refine l_arg (k := 1) C ⟨by omega, by omega, by omega⟩ (dc dkL3 3 rfl) (dc dkL3 4 rfl) (dc dkL3 5 rfl) (dc dkL3 6 rfl) (dc dkL3 7 rfl) (lp 461 rfl ?_)
  refine l_arg (k := 2) C ⟨by omega, by omega, by omega⟩ (dc dkL3 8 rfl) (dc dkL3 9 rfl) (dc dkL3 10 rfl) (dc dkL3 11 rfl) (dc dkL3 12 rfl) (lp 467 rfl ?_)
  refine l_ag (as := [vI (sc xs (i + 1)), vI (sc xs (i + 2))]) (pc2 := 483) (pc3 := 486) (tgt := 1485) C hc0 hs0 (ag_corner hI (sc_R _ _) (sc_R _ _)) (dc dkL3 13 rfl) mlL_56 ceX12_corner (by decide) rfl rfl rfl (dc dkL3 25 rfl) mlL_59 ceX13_corner (by decide) rfl (dc dkL3 26 rfl) rfl (by decide) (fun v τ Kx => ?_) (fun τ hτ => ?_)
  · refine lp 470 rfl ?_
    refine l_aload C (dc dkL3 14 rfl) rfl (lp 471 rfl ?_)
    refine l_arg (k := 1) C ⟨by omega, by omega, by omega⟩ (dc dkL3 15 rfl) (dc dkL3 16 rfl) (dc dkL3 17 rfl) (dc dkL3 18 rfl) (dc dkL3 19 rfl) (lp 477 rfl ?_)
    refine l_arg (k := 2) C ⟨by omega, by omega, by omega⟩ (dc dkL3 20 rfl) (dc dkL3 21 rfl) (dc dkL3 22 rfl) (dc dkL3 23 rfl) (dc dkL3 24 rfl) (lp 483 rfl ?_)
    exact Kx
  ·
    exact K τ hτ
theorem lc_side (C : lC p s m meth c b L xs ad D cA) {i : Int} (hi : 0 ≤ i ∧ i + 6 ≤ L) (hI : Inv σ) (hc0 : cells ≤ room_1.cells) (hs0 : slots ≤ room_1.slots) (K : ∀ τ, Inv τ → lwR p l e s m below meth c b ad D cA 1485 (lvL b ad i) [] τ cells slots) : lwR p l e s m below meth c b ad D cA 491 (lvL b ad i) [] σ cells slots := by
  refine l_aload C (dc dkL3 29 rfl) rfl (lp 492 rfl ?_)
  refine l_arg (k := 1) C ⟨by omega, by omega, by omega⟩ (dc dkL3 30 rfl) (dc dkL3 31 rfl) (dc dkL3 32 rfl) (dc dkL3 33 rfl) (dc dkL3 34 rfl) (lp 498 rfl ?_)
  refine l_arg (k := 2) C ⟨by omega, by omega, by omega⟩ (dc dkL3 35 rfl) (dc dkL3 36 rfl) (dc dkL3 37 rfl) (dc dkL3 38 rfl) (dc dkL3 39 rfl) (lp 504 rfl ?_)
  refine l_ag (as := [vI (sc xs (i + 1)), vI (sc xs (i + 2))]) (pc2 := 520) (pc3 := 523) (tgt := 1485) C hc0 hs0 (ag_side hI (sc_R _ _) (sc_R _ _)) (dc dkL3 40 rfl) mlL_60 ceX12_side (by decide) rfl rfl rfl (dc dkL3 52 rfl) mlL_63 ceX13_side (by decide) rfl (dc dkL3 53 rfl) rfl (by decide) (fun v τ Kx => ?_) (fun τ hτ => ?_)
  · refine lp 507 rfl ?_
    refine l_aload C (dc dkL3 41 rfl) rfl (lp 508 rfl ?_)
    refine l_arg (k := 1) C ⟨by omega, by omega, by omega⟩ (dc dkL3 42 rfl) (dc dkL3 43 rfl) (dc dkL3 44 rfl) (dc dkL3 45 rfl) (dc dkL3 46 rfl) (lp 514 rfl ?_)
    refine l_arg (k := 2) C ⟨by omega, by omega, by omega⟩ (dc dkL3 47 rfl) (dc dkL3 48 rfl) (dc dkL3 49 rfl) (dc dkL3 50 rfl) (dc dkL3 51 rfl) (lp 520 rfl ?_)
    exact Kx
  ·
    exact K τ hτ
theorem lc_over (C : lC p s m meth c b L xs ad D cA) {i : Int} (hi : 0 ≤ i ∧ i + 6 ≤ L) (hI : Inv σ) (hc0 : cells ≤ room_1.cells) (hs0 : slots ≤ room_1.slots) (K : ∀ τ, Inv τ → lwR p l e s m below meth c b ad D cA 1485 (lvL b ad i) [] τ cells slots) : lwR p l e s m below meth c b ad D cA 528 (lvL b ad i) [] σ cells slots := by
  refine l_aload C (dc dkL3 56 rfl) rfl (lp 529 rfl ?_)
  refine l_arg (k := 1) C ⟨by omega, by omega, by omega⟩ (dc dkL3 57 rfl) (dc dkL3 58 rfl) (dc dkL3 59 rfl) (dc dkL4 0 rfl) (dc dkL4 1 rfl) (lp 535 rfl ?_)
  refine l_arg (k := 2) C ⟨by omega, by omega, by omega⟩ (dc dkL4 2 rfl) (dc dkL4 3 rfl) (dc dkL4 4 rfl) (dc dkL4 5 rfl) (dc dkL4 6 rfl) (lp 541 rfl ?_)
  refine l_ag (as := [vI (sc xs (i + 1)), vI (sc xs (i + 2))]) (pc2 := 557) (pc3 := 560) (tgt := 1485) C hc0 hs0 (ag_over hI (sc_R _ _) (sc_R _ _)) (dc dkL4 7 rfl) mlL_64 ceX12_over (by decide) rfl rfl rfl (dc dkL4 19 rfl) mlL_67 ceX13_over (by decide) rfl (dc dkL4 20 rfl) rfl (by decide) (fun v τ Kx => ?_) (fun τ hτ => ?_)
  · refine lp 544 rfl ?_
    refine l_aload C (dc dkL4 8 rfl) rfl (lp 545 rfl ?_)
    refine l_arg (k := 1) C ⟨by omega, by omega, by omega⟩ (dc dkL4 9 rfl) (dc dkL4 10 rfl) (dc dkL4 11 rfl) (dc dkL4 12 rfl) (dc dkL4 13 rfl) (lp 551 rfl ?_)
    refine l_arg (k := 2) C ⟨by omega, by omega, by omega⟩ (dc dkL4 14 rfl) (dc dkL4 15 rfl) (dc dkL4 16 rfl) (dc dkL4 17 rfl) (dc dkL4 18 rfl) (lp 557 rfl ?_)
    exact Kx
  ·
    exact K τ hτ
theorem lc_cross (C : lC p s m meth c b L xs ad D cA) {i : Int} (hi : 0 ≤ i ∧ i + 6 ≤ L) (hI : Inv σ) (hc0 : cells ≤ room_1.cells) (hs0 : slots ≤ room_1.slots) (K : ∀ τ, Inv τ → lwR p l e s m below meth c b ad D cA 1485 (lvL b ad i) [] τ cells slots) : lwR p l e s m below meth c b ad D cA 565 (lvL b ad i) [] σ cells slots := by
  refine l_aload C (dc dkL4 23 rfl) rfl (lp 566 rfl ?_)
  refine l_arg (k := 1) C ⟨by omega, by omega, by omega⟩ (dc dkL4 24 rfl) (dc dkL4 25 rfl) (dc dkL4 26 rfl) (dc dkL4 27 rfl) (dc dkL4 28 rfl) (lp 572 rfl ?_)
  refine l_arg (k := 2) C ⟨by omega, by omega, by omega⟩ (dc dkL4 29 rfl) (dc dkL4 30 rfl) (dc dkL4 31 rfl) (dc dkL4 32 rfl) (dc dkL4 33 rfl) (lp 578 rfl ?_)
  refine l_arg (k := 3) C ⟨by omega, by omega, by omega⟩ (dc dkL4 34 rfl) (dc dkL4 35 rfl) (dc dkL4 36 rfl) (dc dkL4 37 rfl) (dc dkL4 38 rfl) (lp 584 rfl ?_)
  refine l_ag (as := [vI (sc xs (i + 1)), vI (sc xs (i + 2)), vI (sc xs (i + 3))]) (pc2 := 606) (pc3 := 609) (tgt := 1485) C hc0 hs0 (ag_cross hI (sc_R _ _) (sc_R _ _) (sc_R _ _)) (dc dkL4 39 rfl) mlL_68 ceX12_cross (by decide) rfl rfl rfl (dc dkL4 56 rfl) mlL_72 ceX13_cross (by decide) rfl (dc dkL4 57 rfl) rfl (by decide) (fun v τ Kx => ?_) (fun τ hτ => ?_)
  · refine lp 587 rfl ?_
    refine l_aload C (dc dkL4 40 rfl) rfl (lp 588 rfl ?_)
    refine l_arg (k := 1) C ⟨by omega, by omega, by omega⟩ (dc dkL4 41 rfl) (dc dkL4 42 rfl) (dc dkL4 43 rfl) (dc dkL4 44 rfl) (dc dkL4 45 rfl) (lp 594 rfl ?_)
    refine l_arg (k := 2) C ⟨by omega, by omega, by omega⟩ (dc dkL4 46 rfl) (dc dkL4 47 rfl) (dc dkL4 48 rfl) (dc dkL4 49 rfl) (dc dkL4 50 rfl) (lp 600 rfl ?_)
    refine l_arg (k := 3) C ⟨by omega, by omega, by omega⟩ (dc dkL4 51 rfl) (dc dkL4 52 rfl) (dc dkL4 53 rfl) (dc dkL4 54 rfl) (dc dkL4 55 rfl) (lp 606 rfl ?_)
    exact Kx
  ·
    exact K τ hτ
theorem lc_in (C : lC p s m meth c b L xs ad D cA) {i : Int} (hi : 0 ≤ i ∧ i + 6 ≤ L) (hI : Inv σ) (hc0 : cells ≤ room_1.cells) (hs0 : slots ≤ room_1.slots) (K : ∀ τ, Inv τ → lwR p l e s m below meth c b ad D cA 1485 (lvL b ad i) [] τ cells slots) : lwR p l e s m below meth c b ad D cA 614 (lvL b ad i) [] σ cells slots := by
  refine l_aload C (dc dkL5 0 rfl) rfl (lp 615 rfl ?_)
  refine l_arg (k := 1) C ⟨by omega, by omega, by omega⟩ (dc dkL5 1 rfl) (dc dkL5 2 rfl) (dc dkL5 3 rfl) (dc dkL5 4 rfl) (dc dkL5 5 rfl) (lp 621 rfl ?_)
  refine l_arg (k := 2) C ⟨by omega, by omega, by omega⟩ (dc dkL5 6 rfl) (dc dkL5 7 rfl) (dc dkL5 8 rfl) (dc dkL5 9 rfl) (dc dkL5 10 rfl) (lp 627 rfl ?_)
  refine l_ag (as := [vI (sc xs (i + 1)), vI (sc xs (i + 2))]) (pc2 := 643) (pc3 := 646) (tgt := 1485) C hc0 hs0 (ag_in hI (sc_R _ _) (sc_R _ _)) (dc dkL5 11 rfl) mlL_73 ceX12_in (by decide) rfl rfl rfl (dc dkL5 23 rfl) mlL_76 ceX13_in (by decide) rfl (dc dkL5 24 rfl) rfl (by decide) (fun v τ Kx => ?_) (fun τ hτ => ?_)
  · refine lp 630 rfl ?_
    refine l_aload C (dc dkL5 12 rfl) rfl (lp 631 rfl ?_)
    refine l_arg (k := 1) C ⟨by omega, by omega, by omega⟩ (dc dkL5 13 rfl) (dc dkL5 14 rfl) (dc dkL5 15 rfl) (dc dkL5 16 rfl) (dc dkL5 17 rfl) (lp 637 rfl ?_)
    refine l_arg (k := 2) C ⟨by omega, by omega, by omega⟩ (dc dkL5 18 rfl) (dc dkL5 19 rfl) (dc dkL5 20 rfl) (dc dkL5 21 rfl) (dc dkL5 22 rfl) (lp 643 rfl ?_)
    exact Kx
  ·
    exact K τ hτ
theorem lc_alike (C : lC p s m meth c b L xs ad D cA) {i : Int} (hi : 0 ≤ i ∧ i + 6 ≤ L) (hI : Inv σ) (hc0 : cells ≤ room_1.cells) (hs0 : slots ≤ room_1.slots) (K : ∀ τ, Inv τ → lwR p l e s m below meth c b ad D cA 1485 (lvL b ad i) [] τ cells slots) : lwR p l e s m below meth c b ad D cA 651 (lvL b ad i) [] σ cells slots := by
  refine l_aload C (dc dkL5 27 rfl) rfl (lp 652 rfl ?_)
  refine l_arg (k := 1) C ⟨by omega, by omega, by omega⟩ (dc dkL5 28 rfl) (dc dkL5 29 rfl) (dc dkL5 30 rfl) (dc dkL5 31 rfl) (dc dkL5 32 rfl) (lp 658 rfl ?_)
  refine l_arg (k := 2) C ⟨by omega, by omega, by omega⟩ (dc dkL5 33 rfl) (dc dkL5 34 rfl) (dc dkL5 35 rfl) (dc dkL5 36 rfl) (dc dkL5 37 rfl) (lp 664 rfl ?_)
  refine l_arg (k := 3) C ⟨by omega, by omega, by omega⟩ (dc dkL5 38 rfl) (dc dkL5 39 rfl) (dc dkL5 40 rfl) (dc dkL5 41 rfl) (dc dkL5 42 rfl) (lp 670 rfl ?_)
  refine l_ag (as := [vI (sc xs (i + 1)), vI (sc xs (i + 2)), vI (sc xs (i + 3))]) (pc2 := 692) (pc3 := 695) (tgt := 1485) C hc0 hs0 (ag_alike hI (sc_R _ _) (sc_R _ _) (sc_R _ _)) (dc dkL5 43 rfl) mlL_77 ceX12_alike (by decide) rfl rfl rfl (dc dkL6 0 rfl) mlL_80 ceX13_alike (by decide) rfl (dc dkL6 1 rfl) rfl (by decide) (fun v τ Kx => ?_) (fun τ hτ => ?_)
  · refine lp 673 rfl ?_
    refine l_aload C (dc dkL5 44 rfl) rfl (lp 674 rfl ?_)
    refine l_arg (k := 1) C ⟨by omega, by omega, by omega⟩ (dc dkL5 45 rfl) (dc dkL5 46 rfl) (dc dkL5 47 rfl) (dc dkL5 48 rfl) (dc dkL5 49 rfl) (lp 680 rfl ?_)
    refine l_arg (k := 2) C ⟨by omega, by omega, by omega⟩ (dc dkL5 50 rfl) (dc dkL5 51 rfl) (dc dkL5 52 rfl) (dc dkL5 53 rfl) (dc dkL5 54 rfl) (lp 686 rfl ?_)
    refine l_arg (k := 3) C ⟨by omega, by omega, by omega⟩ (dc dkL5 55 rfl) (dc dkL5 56 rfl) (dc dkL5 57 rfl) (dc dkL5 58 rfl) (dc dkL5 59 rfl) (lp 692 rfl ?_)
    exact Kx
  ·
    exact K τ hτ
theorem lc_form (C : lC p s m meth c b L xs ad D cA) {i : Int} (hi : 0 ≤ i ∧ i + 6 ≤ L) (hI : Inv σ) (hc0 : cells ≤ room_1.cells) (hs0 : slots ≤ room_1.slots) (K : ∀ τ, Inv τ → lwR p l e s m below meth c b ad D cA 1485 (lvL b ad i) [] τ cells slots) : lwR p l e s m below meth c b ad D cA 700 (lvL b ad i) [] σ cells slots := by
  refine l_aload C (dc dkL6 4 rfl) rfl (lp 701 rfl ?_)
  refine l_arg (k := 1) C ⟨by omega, by omega, by omega⟩ (dc dkL6 5 rfl) (dc dkL6 6 rfl) (dc dkL6 7 rfl) (dc dkL6 8 rfl) (dc dkL6 9 rfl) (lp 707 rfl ?_)
  refine l_arg (k := 2) C ⟨by omega, by omega, by omega⟩ (dc dkL6 10 rfl) (dc dkL6 11 rfl) (dc dkL6 12 rfl) (dc dkL6 13 rfl) (dc dkL6 14 rfl) (lp 713 rfl ?_)
  refine l_ag (as := [vI (sc xs (i + 1)), vI (sc xs (i + 2))]) (pc2 := 729) (pc3 := 732) (tgt := 1485) C hc0 hs0 (ag_form hI (sc_R _ _) (sc_R _ _)) (dc dkL6 15 rfl) mlL_81 ceX12_form (by decide) rfl rfl rfl (dc dkL6 27 rfl) mlL_84 ceX13_form (by decide) rfl (dc dkL6 28 rfl) rfl (by decide) (fun v τ Kx => ?_) (fun τ hτ => ?_)
  · refine lp 716 rfl ?_
    refine l_aload C (dc dkL6 16 rfl) rfl (lp 717 rfl ?_)
    refine l_arg (k := 1) C ⟨by omega, by omega, by omega⟩ (dc dkL6 17 rfl) (dc dkL6 18 rfl) (dc dkL6 19 rfl) (dc dkL6 20 rfl) (dc dkL6 21 rfl) (lp 723 rfl ?_)
    refine l_arg (k := 2) C ⟨by omega, by omega, by omega⟩ (dc dkL6 22 rfl) (dc dkL6 23 rfl) (dc dkL6 24 rfl) (dc dkL6 25 rfl) (dc dkL6 26 rfl) (lp 729 rfl ?_)
    exact Kx
  ·
    exact K τ hτ
theorem lc_formAt (C : lC p s m meth c b L xs ad D cA) {i : Int} (hi : 0 ≤ i ∧ i + 6 ≤ L) (hI : Inv σ) (hc0 : cells ≤ room_1.cells) (hs0 : slots ≤ room_1.slots) (K : ∀ τ, Inv τ → lwR p l e s m below meth c b ad D cA 1485 (lvL b ad i) [] τ cells slots) : lwR p l e s m below meth c b ad D cA 737 (lvL b ad i) [] σ cells slots := by
  refine l_aload C (dc dkL6 31 rfl) rfl (lp 738 rfl ?_)
  refine l_arg (k := 1) C ⟨by omega, by omega, by omega⟩ (dc dkL6 32 rfl) (dc dkL6 33 rfl) (dc dkL6 34 rfl) (dc dkL6 35 rfl) (dc dkL6 36 rfl) (lp 744 rfl ?_)
  refine l_ag (as := [vI (sc xs (i + 1))]) (pc2 := 754) (pc3 := 757) (tgt := 1485) C hc0 hs0 (ag_formAt hI (sc_R _ _)) (dc dkL6 37 rfl) mlL_85 ceX12_formAt (by decide) rfl rfl rfl (dc dkL6 44 rfl) mlL_88 ceX13_formAt (by decide) rfl (dc dkL6 45 rfl) rfl (by decide) (fun v τ Kx => ?_) (fun τ hτ => ?_)
  · refine lp 747 rfl ?_
    refine l_aload C (dc dkL6 38 rfl) rfl (lp 748 rfl ?_)
    refine l_arg (k := 1) C ⟨by omega, by omega, by omega⟩ (dc dkL6 39 rfl) (dc dkL6 40 rfl) (dc dkL6 41 rfl) (dc dkL6 42 rfl) (dc dkL6 43 rfl) (lp 754 rfl ?_)
    exact Kx
  ·
    exact K τ hτ
theorem lc_move (C : lC p s m meth c b L xs ad D cA) {i : Int} (hi : 0 ≤ i ∧ i + 6 ≤ L) (hI : Inv σ) (hc0 : cells ≤ room_1.cells) (hs0 : slots ≤ room_1.slots) (K : ∀ τ, Inv τ → lwR p l e s m below meth c b ad D cA 1485 (lvL b ad i) [] τ cells slots) : lwR p l e s m below meth c b ad D cA 762 (lvL b ad i) [] σ cells slots := by
  refine l_aload C (dc dkL6 48 rfl) rfl (lp 763 rfl ?_)
  refine l_arg (k := 1) C ⟨by omega, by omega, by omega⟩ (dc dkL6 49 rfl) (dc dkL6 50 rfl) (dc dkL6 51 rfl) (dc dkL6 52 rfl) (dc dkL6 53 rfl) (lp 769 rfl ?_)
  refine l_arg (k := 2) C ⟨by omega, by omega, by omega⟩ (dc dkL6 54 rfl) (dc dkL6 55 rfl) (dc dkL6 56 rfl) (dc dkL6 57 rfl) (dc dkL6 58 rfl) (lp 775 rfl ?_)
  refine l_arg (k := 3) C ⟨by omega, by omega, by omega⟩ (dc dkL6 59 rfl) (dc dkL7 0 rfl) (dc dkL7 1 rfl) (dc dkL7 2 rfl) (dc dkL7 3 rfl) (lp 781 rfl ?_)
  refine l_ag (as := [vI (sc xs (i + 1)), vI (sc xs (i + 2)), vI (sc xs (i + 3))]) (pc2 := 803) (pc3 := 806) (tgt := 1485) C hc0 hs0 (ag_move hI (sc_R _ _) (sc_R _ _) (sc_R _ _)) (dc dkL7 4 rfl) mlL_89 ceX12_move (by decide) rfl rfl rfl (dc dkL7 21 rfl) mlL_92 ceX13_move (by decide) rfl (dc dkL7 22 rfl) rfl (by decide) (fun v τ Kx => ?_) (fun τ hτ => ?_)
  · refine lp 784 rfl ?_
    refine l_aload C (dc dkL7 5 rfl) rfl (lp 785 rfl ?_)
    refine l_arg (k := 1) C ⟨by omega, by omega, by omega⟩ (dc dkL7 6 rfl) (dc dkL7 7 rfl) (dc dkL7 8 rfl) (dc dkL7 9 rfl) (dc dkL7 10 rfl) (lp 791 rfl ?_)
    refine l_arg (k := 2) C ⟨by omega, by omega, by omega⟩ (dc dkL7 11 rfl) (dc dkL7 12 rfl) (dc dkL7 13 rfl) (dc dkL7 14 rfl) (dc dkL7 15 rfl) (lp 797 rfl ?_)
    refine l_arg (k := 3) C ⟨by omega, by omega, by omega⟩ (dc dkL7 16 rfl) (dc dkL7 17 rfl) (dc dkL7 18 rfl) (dc dkL7 19 rfl) (dc dkL7 20 rfl) (lp 803 rfl ?_)
    exact Kx
  ·
    exact K τ hτ
theorem lc_slide (C : lC p s m meth c b L xs ad D cA) {i : Int} (hi : 0 ≤ i ∧ i + 6 ≤ L) (hI : Inv σ) (hc0 : cells ≤ room_1.cells) (hs0 : slots ≤ room_1.slots) (K : ∀ τ, Inv τ → lwR p l e s m below meth c b ad D cA 1485 (lvL b ad i) [] τ cells slots) : lwR p l e s m below meth c b ad D cA 811 (lvL b ad i) [] σ cells slots := by
  refine l_aload C (dc dkL7 25 rfl) rfl (lp 812 rfl ?_)
  refine l_arg (k := 1) C ⟨by omega, by omega, by omega⟩ (dc dkL7 26 rfl) (dc dkL7 27 rfl) (dc dkL7 28 rfl) (dc dkL7 29 rfl) (dc dkL7 30 rfl) (lp 818 rfl ?_)
  refine l_arg (k := 2) C ⟨by omega, by omega, by omega⟩ (dc dkL7 31 rfl) (dc dkL7 32 rfl) (dc dkL7 33 rfl) (dc dkL7 34 rfl) (dc dkL7 35 rfl) (lp 824 rfl ?_)
  refine l_arg (k := 3) C ⟨by omega, by omega, by omega⟩ (dc dkL7 36 rfl) (dc dkL7 37 rfl) (dc dkL7 38 rfl) (dc dkL7 39 rfl) (dc dkL7 40 rfl) (lp 830 rfl ?_)
  refine l_ag (as := [vI (sc xs (i + 1)), vI (sc xs (i + 2)), vI (sc xs (i + 3))]) (pc2 := 852) (pc3 := 855) (tgt := 1485) C hc0 hs0 (ag_slide hI (sc_R _ _) (sc_R _ _) (sc_R _ _)) (dc dkL7 41 rfl) mlL_93 ceX12_slide (by decide) rfl rfl rfl (dc dkL7 58 rfl) mlL_96 ceX13_slide (by decide) rfl (dc dkL7 59 rfl) rfl (by decide) (fun v τ Kx => ?_) (fun τ hτ => ?_)
  · refine lp 833 rfl ?_
    refine l_aload C (dc dkL7 42 rfl) rfl (lp 834 rfl ?_)
    refine l_arg (k := 1) C ⟨by omega, by omega, by omega⟩ (dc dkL7 43 rfl) (dc dkL7 44 rfl) (dc dkL7 45 rfl) (dc dkL7 46 rfl) (dc dkL7 47 rfl) (lp 840 rfl ?_)
    refine l_arg (k := 2) C ⟨by omega, by omega, by omega⟩ (dc dkL7 48 rfl) (dc dkL7 49 rfl) (dc dkL7 50 rfl) (dc dkL7 51 rfl) (dc dkL7 52 rfl) (lp 846 rfl ?_)
    refine l_arg (k := 3) C ⟨by omega, by omega, by omega⟩ (dc dkL7 53 rfl) (dc dkL7 54 rfl) (dc dkL7 55 rfl) (dc dkL7 56 rfl) (dc dkL7 57 rfl) (lp 852 rfl ?_)
    exact Kx
  ·
    exact K τ hτ
theorem lc_snap (C : lC p s m meth c b L xs ad D cA) {i : Int} (hi : 0 ≤ i ∧ i + 6 ≤ L) (hI : Inv σ) (hc0 : cells ≤ room_1.cells) (hs0 : slots ≤ room_1.slots) (K : ∀ τ, Inv τ → lwR p l e s m below meth c b ad D cA 1485 (lvL b ad i) [] τ cells slots) : lwR p l e s m below meth c b ad D cA 860 (lvL b ad i) [] σ cells slots := by
  refine l_aload C (dc dkL8 2 rfl) rfl (lp 861 rfl ?_)
  refine l_arg (k := 1) C ⟨by omega, by omega, by omega⟩ (dc dkL8 3 rfl) (dc dkL8 4 rfl) (dc dkL8 5 rfl) (dc dkL8 6 rfl) (dc dkL8 7 rfl) (lp 867 rfl ?_)
  refine l_ag (as := [vI (sc xs (i + 1))]) (pc2 := 877) (pc3 := 880) (tgt := 1485) C hc0 hs0 (ag_snap hI (sc_R _ _)) (dc dkL8 8 rfl) mlL_97 ceX12_snap (by decide) rfl rfl rfl (dc dkL8 15 rfl) mlL_100 ceX13_snap (by decide) rfl (dc dkL8 16 rfl) rfl (by decide) (fun v τ Kx => ?_) (fun τ hτ => ?_)
  · refine lp 870 rfl ?_
    refine l_aload C (dc dkL8 9 rfl) rfl (lp 871 rfl ?_)
    refine l_arg (k := 1) C ⟨by omega, by omega, by omega⟩ (dc dkL8 10 rfl) (dc dkL8 11 rfl) (dc dkL8 12 rfl) (dc dkL8 13 rfl) (dc dkL8 14 rfl) (lp 877 rfl ?_)
    exact Kx
  ·
    exact K τ hτ
theorem lc_undo (C : lC p s m meth c b L xs ad D cA) {i : Int} (hi : 0 ≤ i ∧ i + 6 ≤ L) (hI : Inv σ) (hc0 : cells ≤ room_1.cells) (hs0 : slots ≤ room_1.slots) (K : ∀ τ, Inv τ → lwR p l e s m below meth c b ad D cA 1485 (lvL b ad i) [] τ cells slots) : lwR p l e s m below meth c b ad D cA 885 (lvL b ad i) [] σ cells slots := by
  refine l_aload C (dc dkL8 19 rfl) rfl (lp 886 rfl ?_)
  refine l_ag (as := []) (pc2 := 890) (pc3 := 893) (tgt := 1485) C hc0 hs0 (ag_undo hI) (dc dkL8 20 rfl) mlL_101 ceX12_undo (by decide) rfl rfl rfl (dc dkL8 22 rfl) mlL_104 ceX13_undo (by decide) rfl (dc dkL8 23 rfl) rfl (by decide) (fun v τ Kx => ?_) (fun τ hτ => ?_)
  · refine lp 889 rfl ?_
    refine l_aload C (dc dkL8 21 rfl) rfl (lp 890 rfl ?_)
    exact Kx
  ·
    exact K τ hτ
theorem lc_free (C : lC p s m meth c b L xs ad D cA) {i : Int} (hi : 0 ≤ i ∧ i + 6 ≤ L) (hI : Inv σ) (hc0 : cells ≤ room_1.cells) (hs0 : slots ≤ room_1.slots) (K : ∀ τ, Inv τ → lwR p l e s m below meth c b ad D cA 1485 (lvL b ad i) [] τ cells slots) : lwR p l e s m below meth c b ad D cA 898 (lvL b ad i) [] σ cells slots := by
  refine l_aload C (dc dkL8 26 rfl) rfl (lp 899 rfl ?_)
  refine l_ag (as := []) (pc2 := 903) (pc3 := 906) (tgt := 1485) C hc0 hs0 (ag_free hI) (dc dkL8 27 rfl) mlL_105 ceX12_free (by decide) rfl rfl rfl (dc dkL8 29 rfl) mlL_108 ceX13_free (by decide) rfl (dc dkL8 30 rfl) rfl (by decide) (fun v τ Kx => ?_) (fun τ hτ => ?_)
  · refine lp 902 rfl ?_
    refine l_aload C (dc dkL8 28 rfl) rfl (lp 903 rfl ?_)
    exact Kx
  ·
    exact K τ hτ
theorem lc_rim (C : lC p s m meth c b L xs ad D cA) {i : Int} (hi : 0 ≤ i ∧ i + 6 ≤ L) (hI : Inv σ) (hc0 : cells ≤ room_1.cells) (hs0 : slots ≤ room_1.slots) (K : ∀ τ, Inv τ → lwR p l e s m below meth c b ad D cA 1485 (lvL b ad i) [] τ cells slots) : lwR p l e s m below meth c b ad D cA 911 (lvL b ad i) [] σ cells slots := by
  refine l_aload C (dc dkL8 33 rfl) rfl (lp 912 rfl ?_)
  refine l_arg (k := 1) C ⟨by omega, by omega, by omega⟩ (dc dkL8 34 rfl) (dc dkL8 35 rfl) (dc dkL8 36 rfl) (dc dkL8 37 rfl) (dc dkL8 38 rfl) (lp 918 rfl ?_)
  refine l_arg (k := 2) C ⟨by omega, by omega, by omega⟩ (dc dkL8 39 rfl) (dc dkL8 40 rfl) (dc dkL8 41 rfl) (dc dkL8 42 rfl) (dc dkL8 43 rfl) (lp 924 rfl ?_)
  refine l_ag (as := [vI (sc xs (i + 1)), vI (sc xs (i + 2))]) (pc2 := 940) (pc3 := 943) (tgt := 1485) C hc0 hs0 (ag_rim hI (sc_R _ _) (sc_R _ _)) (dc dkL8 44 rfl) mlL_109 ceX12_rim (by decide) rfl rfl rfl (dc dkL8 56 rfl) mlL_112 ceX13_rim (by decide) rfl (dc dkL8 57 rfl) rfl (by decide) (fun v τ Kx => ?_) (fun τ hτ => ?_)
  · refine lp 927 rfl ?_
    refine l_aload C (dc dkL8 45 rfl) rfl (lp 928 rfl ?_)
    refine l_arg (k := 1) C ⟨by omega, by omega, by omega⟩ (dc dkL8 46 rfl) (dc dkL8 47 rfl) (dc dkL8 48 rfl) (dc dkL8 49 rfl) (dc dkL8 50 rfl) (lp 934 rfl ?_)
    refine l_arg (k := 2) C ⟨by omega, by omega, by omega⟩ (dc dkL8 51 rfl) (dc dkL8 52 rfl) (dc dkL8 53 rfl) (dc dkL8 54 rfl) (dc dkL8 55 rfl) (lp 940 rfl ?_)
    exact Kx
  ·
    exact K τ hτ
theorem lc_even (C : lC p s m meth c b L xs ad D cA) {i : Int} (hi : 0 ≤ i ∧ i + 6 ≤ L) (hI : Inv σ) (hc0 : cells ≤ room_1.cells) (hs0 : slots ≤ room_1.slots) (K : ∀ τ, Inv τ → lwR p l e s m below meth c b ad D cA 1485 (lvL b ad i) [] τ cells slots) : lwR p l e s m below meth c b ad D cA 948 (lvL b ad i) [] σ cells slots := by
  refine l_aload C (dc dkL9 0 rfl) rfl (lp 949 rfl ?_)
  refine l_arg (k := 1) C ⟨by omega, by omega, by omega⟩ (dc dkL9 1 rfl) (dc dkL9 2 rfl) (dc dkL9 3 rfl) (dc dkL9 4 rfl) (dc dkL9 5 rfl) (lp 955 rfl ?_)
  refine l_arg (k := 2) C ⟨by omega, by omega, by omega⟩ (dc dkL9 6 rfl) (dc dkL9 7 rfl) (dc dkL9 8 rfl) (dc dkL9 9 rfl) (dc dkL9 10 rfl) (lp 961 rfl ?_)
  refine l_ag (as := [vI (sc xs (i + 1)), vI (sc xs (i + 2))]) (pc2 := 977) (pc3 := 980) (tgt := 1485) C hc0 hs0 (ag_even hI (sc_R _ _) (sc_R _ _)) (dc dkL9 11 rfl) mlL_113 ceX12_even (by decide) rfl rfl rfl (dc dkL9 23 rfl) mlL_116 ceX13_even (by decide) rfl (dc dkL9 24 rfl) rfl (by decide) (fun v τ Kx => ?_) (fun τ hτ => ?_)
  · refine lp 964 rfl ?_
    refine l_aload C (dc dkL9 12 rfl) rfl (lp 965 rfl ?_)
    refine l_arg (k := 1) C ⟨by omega, by omega, by omega⟩ (dc dkL9 13 rfl) (dc dkL9 14 rfl) (dc dkL9 15 rfl) (dc dkL9 16 rfl) (dc dkL9 17 rfl) (lp 971 rfl ?_)
    refine l_arg (k := 2) C ⟨by omega, by omega, by omega⟩ (dc dkL9 18 rfl) (dc dkL9 19 rfl) (dc dkL9 20 rfl) (dc dkL9 21 rfl) (dc dkL9 22 rfl) (lp 977 rfl ?_)
    exact Kx
  ·
    exact K τ hτ
theorem lc_wide (C : lC p s m meth c b L xs ad D cA) {i : Int} (hi : 0 ≤ i ∧ i + 6 ≤ L) (hI : Inv σ) (hc0 : cells ≤ room_1.cells) (hs0 : slots ≤ room_1.slots) (K : ∀ τ, Inv τ → lwR p l e s m below meth c b ad D cA 1485 (lvL b ad i) [] τ cells slots) : lwR p l e s m below meth c b ad D cA 985 (lvL b ad i) [] σ cells slots := by
  refine l_aload C (dc dkL9 27 rfl) rfl (lp 986 rfl ?_)
  refine l_arg (k := 1) C ⟨by omega, by omega, by omega⟩ (dc dkL9 28 rfl) (dc dkL9 29 rfl) (dc dkL9 30 rfl) (dc dkL9 31 rfl) (dc dkL9 32 rfl) (lp 992 rfl ?_)
  refine l_ag (as := [vI (sc xs (i + 1))]) (pc2 := 1002) (pc3 := 1005) (tgt := 1485) C hc0 hs0 (ag_wide hI (sc_R _ _)) (dc dkL9 33 rfl) mlL_117 ceX12_wide (by decide) rfl rfl rfl (dc dkL9 40 rfl) mlL_120 ceX13_wide (by decide) rfl (dc dkL9 41 rfl) rfl (by decide) (fun v τ Kx => ?_) (fun τ hτ => ?_)
  · refine lp 995 rfl ?_
    refine l_aload C (dc dkL9 34 rfl) rfl (lp 996 rfl ?_)
    refine l_arg (k := 1) C ⟨by omega, by omega, by omega⟩ (dc dkL9 35 rfl) (dc dkL9 36 rfl) (dc dkL9 37 rfl) (dc dkL9 38 rfl) (dc dkL9 39 rfl) (lp 1002 rfl ?_)
    exact Kx
  ·
    exact K τ hτ
theorem lc_calls (C : lC p s m meth c b L xs ad D cA) {i : Int} (hi : 0 ≤ i ∧ i + 6 ≤ L) (hI : Inv σ) (hc0 : cells ≤ room_1.cells) (hs0 : slots ≤ room_1.slots) (K : ∀ τ, Inv τ → lwR p l e s m below meth c b ad D cA 1485 (lvL b ad i) [] τ cells slots) : lwR p l e s m below meth c b ad D cA 1010 (lvL b ad i) [] σ cells slots := by
  refine l_aload C (dc dkL9 44 rfl) rfl (lp 1011 rfl ?_)
  refine l_ag (as := []) (pc2 := 1015) (pc3 := 1018) (tgt := 1485) C hc0 hs0 (ag_calls hI) (dc dkL9 45 rfl) mlL_121 ceX12_calls (by decide) rfl rfl rfl (dc dkL9 47 rfl) mlL_124 ceX13_calls (by decide) rfl (dc dkL9 48 rfl) rfl (by decide) (fun v τ Kx => ?_) (fun τ hτ => ?_)
  · refine lp 1014 rfl ?_
    refine l_aload C (dc dkL9 46 rfl) rfl (lp 1015 rfl ?_)
    exact Kx
  ·
    exact K τ hτ
theorem lc_closes (C : lC p s m meth c b L xs ad D cA) {i : Int} (hi : 0 ≤ i ∧ i + 6 ≤ L) (hI : Inv σ) (hc0 : cells ≤ room_1.cells) (hs0 : slots ≤ room_1.slots) (K : ∀ τ, Inv τ → lwR p l e s m below meth c b ad D cA 1485 (lvL b ad i) [] τ cells slots) : lwR p l e s m below meth c b ad D cA 1023 (lvL b ad i) [] σ cells slots := by
  refine l_aload C (dc dkL9 51 rfl) rfl (lp 1024 rfl ?_)
  refine l_ag (as := []) (pc2 := 1028) (pc3 := 1031) (tgt := 1485) C hc0 hs0 (ag_closes hI) (dc dkL9 52 rfl) mlL_125 ceX12_closes (by decide) rfl rfl rfl (dc dkL9 54 rfl) mlL_128 ceX13_closes (by decide) rfl (dc dkL9 55 rfl) rfl (by decide) (fun v τ Kx => ?_) (fun τ hτ => ?_)
  · refine lp 1027 rfl ?_
    refine l_aload C (dc dkL9 53 rfl) rfl (lp 1028 rfl ?_)
    exact Kx
  ·
    exact K τ hτ
theorem lc_mended (C : lC p s m meth c b L xs ad D cA) {i : Int} (hi : 0 ≤ i ∧ i + 6 ≤ L) (hI : Inv σ) (hc0 : cells ≤ room_1.cells) (hs0 : slots ≤ room_1.slots) (K : ∀ τ, Inv τ → lwR p l e s m below meth c b ad D cA 1485 (lvL b ad i) [] τ cells slots) : lwR p l e s m below meth c b ad D cA 1036 (lvL b ad i) [] σ cells slots := by
  refine l_aload C (dc dkL9 58 rfl) rfl (lp 1037 rfl ?_)
  refine l_arg (k := 1) C ⟨by omega, by omega, by omega⟩ (dc dkL9 59 rfl) (dc dkL10 0 rfl) (dc dkL10 1 rfl) (dc dkL10 2 rfl) (dc dkL10 3 rfl) (lp 1043 rfl ?_)
  refine l_ag (as := [vI (sc xs (i + 1))]) (pc2 := 1053) (pc3 := 1056) (tgt := 1485) C hc0 hs0 (ag_mended hI (sc_R _ _)) (dc dkL10 4 rfl) mlL_129 ceX12_mended (by decide) rfl rfl rfl (dc dkL10 11 rfl) mlL_132 ceX13_mended (by decide) rfl (dc dkL10 12 rfl) rfl (by decide) (fun v τ Kx => ?_) (fun τ hτ => ?_)
  · refine lp 1046 rfl ?_
    refine l_aload C (dc dkL10 5 rfl) rfl (lp 1047 rfl ?_)
    refine l_arg (k := 1) C ⟨by omega, by omega, by omega⟩ (dc dkL10 6 rfl) (dc dkL10 7 rfl) (dc dkL10 8 rfl) (dc dkL10 9 rfl) (dc dkL10 10 rfl) (lp 1053 rfl ?_)
    exact Kx
  ·
    exact K τ hτ
theorem lc_lay (C : lC p s m meth c b L xs ad D cA) {i : Int} (hi : 0 ≤ i ∧ i + 6 ≤ L) (hI : Inv σ) (hc0 : cells ≤ room_1.cells) (hs0 : slots ≤ room_1.slots) (K : ∀ τ, Inv τ → lwR p l e s m below meth c b ad D cA 1485 (lvL b ad i) [] τ cells slots) : lwR p l e s m below meth c b ad D cA 1061 (lvL b ad i) [] σ cells slots := by
  refine l_aload C (dc dkL10 15 rfl) rfl (lp 1062 rfl ?_)
  refine l_ag (as := []) (pc2 := 1066) (pc3 := 1069) (tgt := 1485) C hc0 hs0 (ag_lay hI) (dc dkL10 16 rfl) mlL_133 ceX12_lay (by decide) rfl rfl rfl (dc dkL10 18 rfl) mlL_136 ceX13_lay (by decide) rfl (dc dkL10 19 rfl) rfl (by decide) (fun v τ Kx => ?_) (fun τ hτ => ?_)
  · refine lp 1065 rfl ?_
    refine l_aload C (dc dkL10 17 rfl) rfl (lp 1066 rfl ?_)
    exact Kx
  ·
    exact K τ hτ
theorem lc_write (C : lC p s m meth c b L xs ad D cA) {i : Int} (hi : 0 ≤ i ∧ i + 6 ≤ L) (hI : Inv σ) (hc0 : cells ≤ room_1.cells) (hs0 : slots ≤ room_1.slots) (K : ∀ τ, Inv τ → lwR p l e s m below meth c b ad D cA 1485 (lvL b ad i) [] τ cells slots) : lwR p l e s m below meth c b ad D cA 1074 (lvL b ad i) [] σ cells slots := by
  refine l_aload C (dc dkL10 22 rfl) rfl (lp 1075 rfl ?_)
  refine l_arg (k := 1) C ⟨by omega, by omega, by omega⟩ (dc dkL10 23 rfl) (dc dkL10 24 rfl) (dc dkL10 25 rfl) (dc dkL10 26 rfl) (dc dkL10 27 rfl) (lp 1081 rfl ?_)
  refine l_ag (as := [vI (sc xs (i + 1))]) (pc2 := 1091) (pc3 := 1094) (tgt := 1485) C hc0 hs0 (ag_write hI (sc_R _ _)) (dc dkL10 28 rfl) mlL_137 ceX12_write (by decide) rfl rfl rfl (dc dkL10 35 rfl) mlL_140 ceX13_write (by decide) rfl (dc dkL10 36 rfl) rfl (by decide) (fun v τ Kx => ?_) (fun τ hτ => ?_)
  · refine lp 1084 rfl ?_
    refine l_aload C (dc dkL10 29 rfl) rfl (lp 1085 rfl ?_)
    refine l_arg (k := 1) C ⟨by omega, by omega, by omega⟩ (dc dkL10 30 rfl) (dc dkL10 31 rfl) (dc dkL10 32 rfl) (dc dkL10 33 rfl) (dc dkL10 34 rfl) (lp 1091 rfl ?_)
    exact Kx
  ·
    exact K τ hτ
theorem lc_byteAt (C : lC p s m meth c b L xs ad D cA) {i : Int} (hi : 0 ≤ i ∧ i + 6 ≤ L) (hI : Inv σ) (hc0 : cells ≤ room_1.cells) (hs0 : slots ≤ room_1.slots) (K : ∀ τ, Inv τ → lwR p l e s m below meth c b ad D cA 1485 (lvL b ad i) [] τ cells slots) : lwR p l e s m below meth c b ad D cA 1099 (lvL b ad i) [] σ cells slots := by
  refine l_aload C (dc dkL10 39 rfl) rfl (lp 1100 rfl ?_)
  refine l_arg (k := 1) C ⟨by omega, by omega, by omega⟩ (dc dkL10 40 rfl) (dc dkL10 41 rfl) (dc dkL10 42 rfl) (dc dkL10 43 rfl) (dc dkL10 44 rfl) (lp 1106 rfl ?_)
  refine l_ag (as := [vI (sc xs (i + 1))]) (pc2 := 1116) (pc3 := 1119) (tgt := 1485) C hc0 hs0 (ag_byteAt hI (sc_R _ _)) (dc dkL10 45 rfl) mlL_141 ceX12_byteAt (by decide) rfl rfl rfl (dc dkL10 52 rfl) mlL_144 ceX13_byteAt (by decide) rfl (dc dkL10 53 rfl) rfl (by decide) (fun v τ Kx => ?_) (fun τ hτ => ?_)
  · refine lp 1109 rfl ?_
    refine l_aload C (dc dkL10 46 rfl) rfl (lp 1110 rfl ?_)
    refine l_arg (k := 1) C ⟨by omega, by omega, by omega⟩ (dc dkL10 47 rfl) (dc dkL10 48 rfl) (dc dkL10 49 rfl) (dc dkL10 50 rfl) (dc dkL10 51 rfl) (lp 1116 rfl ?_)
    exact Kx
  ·
    exact K τ hτ
theorem lc_triangles (C : lC p s m meth c b L xs ad D cA) {i : Int} (hi : 0 ≤ i ∧ i + 6 ≤ L) (hI : Inv σ) (hc0 : cells ≤ room_1.cells) (hs0 : slots ≤ room_1.slots) (K : ∀ τ, Inv τ → lwR p l e s m below meth c b ad D cA 1485 (lvL b ad i) [] τ cells slots) : lwR p l e s m below meth c b ad D cA 1124 (lvL b ad i) [] σ cells slots := by
  refine l_aload C (dc dkL10 56 rfl) rfl (lp 1125 rfl ?_)
  refine l_arg (k := 1) C ⟨by omega, by omega, by omega⟩ (dc dkL10 57 rfl) (dc dkL10 58 rfl) (dc dkL10 59 rfl) (dc dkL11 0 rfl) (dc dkL11 1 rfl) (lp 1131 rfl ?_)
  refine l_arg (k := 2) C ⟨by omega, by omega, by omega⟩ (dc dkL11 2 rfl) (dc dkL11 3 rfl) (dc dkL11 4 rfl) (dc dkL11 5 rfl) (dc dkL11 6 rfl) (lp 1137 rfl ?_)
  refine l_arg (k := 3) C ⟨by omega, by omega, by omega⟩ (dc dkL11 7 rfl) (dc dkL11 8 rfl) (dc dkL11 9 rfl) (dc dkL11 10 rfl) (dc dkL11 11 rfl) (lp 1143 rfl ?_)
  refine l_ag (as := [vI (sc xs (i + 1)), vI (sc xs (i + 2)), vI (sc xs (i + 3))]) (pc2 := 1165) (pc3 := 1168) (tgt := 1485) C hc0 hs0 (ag_triangles hI (sc_R _ _) (sc_R _ _) (sc_R _ _)) (dc dkL11 12 rfl) mlL_145 ceX12_triangles (by decide) rfl rfl rfl (dc dkL11 29 rfl) mlL_148 ceX13_triangles (by decide) rfl (dc dkL11 30 rfl) rfl (by decide) (fun v τ Kx => ?_) (fun τ hτ => ?_)
  · refine lp 1146 rfl ?_
    refine l_aload C (dc dkL11 13 rfl) rfl (lp 1147 rfl ?_)
    refine l_arg (k := 1) C ⟨by omega, by omega, by omega⟩ (dc dkL11 14 rfl) (dc dkL11 15 rfl) (dc dkL11 16 rfl) (dc dkL11 17 rfl) (dc dkL11 18 rfl) (lp 1153 rfl ?_)
    refine l_arg (k := 2) C ⟨by omega, by omega, by omega⟩ (dc dkL11 19 rfl) (dc dkL11 20 rfl) (dc dkL11 21 rfl) (dc dkL11 22 rfl) (dc dkL11 23 rfl) (lp 1159 rfl ?_)
    refine l_arg (k := 3) C ⟨by omega, by omega, by omega⟩ (dc dkL11 24 rfl) (dc dkL11 25 rfl) (dc dkL11 26 rfl) (dc dkL11 27 rfl) (dc dkL11 28 rfl) (lp 1165 rfl ?_)
    exact Kx
  ·
    exact K τ hτ
theorem lc_smallest (C : lC p s m meth c b L xs ad D cA) {i : Int} (hi : 0 ≤ i ∧ i + 6 ≤ L) (hI : Inv σ) (hc0 : cells ≤ room_1.cells) (hs0 : slots ≤ room_1.slots) (K : ∀ τ, Inv τ → lwR p l e s m below meth c b ad D cA 1485 (lvL b ad i) [] τ cells slots) : lwR p l e s m below meth c b ad D cA 1173 (lvL b ad i) [] σ cells slots := by
  refine l_aload C (dc dkL11 33 rfl) rfl (lp 1174 rfl ?_)
  refine l_arg (k := 1) C ⟨by omega, by omega, by omega⟩ (dc dkL11 34 rfl) (dc dkL11 35 rfl) (dc dkL11 36 rfl) (dc dkL11 37 rfl) (dc dkL11 38 rfl) (lp 1180 rfl ?_)
  refine l_arg (k := 2) C ⟨by omega, by omega, by omega⟩ (dc dkL11 39 rfl) (dc dkL11 40 rfl) (dc dkL11 41 rfl) (dc dkL11 42 rfl) (dc dkL11 43 rfl) (lp 1186 rfl ?_)
  refine l_ag (as := [vI (sc xs (i + 1)), vI (sc xs (i + 2))]) (pc2 := 1202) (pc3 := 1205) (tgt := 1485) C hc0 hs0 (ag_smallest hI (sc_R _ _) (sc_R _ _)) (dc dkL11 44 rfl) mlL_149 ceX12_smallest (by decide) rfl rfl rfl (dc dkL11 56 rfl) mlL_152 ceX13_smallest (by decide) rfl (dc dkL11 57 rfl) rfl (by decide) (fun v τ Kx => ?_) (fun τ hτ => ?_)
  · refine lp 1189 rfl ?_
    refine l_aload C (dc dkL11 45 rfl) rfl (lp 1190 rfl ?_)
    refine l_arg (k := 1) C ⟨by omega, by omega, by omega⟩ (dc dkL11 46 rfl) (dc dkL11 47 rfl) (dc dkL11 48 rfl) (dc dkL11 49 rfl) (dc dkL11 50 rfl) (lp 1196 rfl ?_)
    refine l_arg (k := 2) C ⟨by omega, by omega, by omega⟩ (dc dkL11 51 rfl) (dc dkL11 52 rfl) (dc dkL11 53 rfl) (dc dkL11 54 rfl) (dc dkL11 55 rfl) (lp 1202 rfl ?_)
    exact Kx
  ·
    exact K τ hτ
theorem lc_cuts (C : lC p s m meth c b L xs ad D cA) {i : Int} (hi : 0 ≤ i ∧ i + 6 ≤ L) (hI : Inv σ) (hc0 : cells ≤ room_1.cells) (hs0 : slots ≤ room_1.slots) (K : ∀ τ, Inv τ → lwR p l e s m below meth c b ad D cA 1485 (lvL b ad i) [] τ cells slots) : lwR p l e s m below meth c b ad D cA 1210 (lvL b ad i) [] σ cells slots := by
  refine l_aload C (dc dkL12 0 rfl) rfl (lp 1211 rfl ?_)
  refine l_arg (k := 1) C ⟨by omega, by omega, by omega⟩ (dc dkL12 1 rfl) (dc dkL12 2 rfl) (dc dkL12 3 rfl) (dc dkL12 4 rfl) (dc dkL12 5 rfl) (lp 1217 rfl ?_)
  refine l_arg (k := 2) C ⟨by omega, by omega, by omega⟩ (dc dkL12 6 rfl) (dc dkL12 7 rfl) (dc dkL12 8 rfl) (dc dkL12 9 rfl) (dc dkL12 10 rfl) (lp 1223 rfl ?_)
  refine l_ag (as := [vI (sc xs (i + 1)), vI (sc xs (i + 2))]) (pc2 := 1239) (pc3 := 1242) (tgt := 1485) C hc0 hs0 (ag_cuts hI (sc_R _ _) (sc_R _ _)) (dc dkL12 11 rfl) mlL_153 ceX12_cuts (by decide) rfl rfl rfl (dc dkL12 23 rfl) mlL_156 ceX13_cuts (by decide) rfl (dc dkL12 24 rfl) rfl (by decide) (fun v τ Kx => ?_) (fun τ hτ => ?_)
  · refine lp 1226 rfl ?_
    refine l_aload C (dc dkL12 12 rfl) rfl (lp 1227 rfl ?_)
    refine l_arg (k := 1) C ⟨by omega, by omega, by omega⟩ (dc dkL12 13 rfl) (dc dkL12 14 rfl) (dc dkL12 15 rfl) (dc dkL12 16 rfl) (dc dkL12 17 rfl) (lp 1233 rfl ?_)
    refine l_arg (k := 2) C ⟨by omega, by omega, by omega⟩ (dc dkL12 18 rfl) (dc dkL12 19 rfl) (dc dkL12 20 rfl) (dc dkL12 21 rfl) (dc dkL12 22 rfl) (lp 1239 rfl ?_)
    exact Kx
  ·
    exact K τ hτ
theorem lc_moved (C : lC p s m meth c b L xs ad D cA) {i : Int} (hi : 0 ≤ i ∧ i + 6 ≤ L) (hI : Inv σ) (hc0 : cells ≤ room_1.cells) (hs0 : slots ≤ room_1.slots) (K : ∀ τ, Inv τ → lwR p l e s m below meth c b ad D cA 1485 (lvL b ad i) [] τ cells slots) : lwR p l e s m below meth c b ad D cA 1247 (lvL b ad i) [] σ cells slots := by
  refine l_aload C (dc dkL12 27 rfl) rfl (lp 1248 rfl ?_)
  refine l_arg (k := 1) C ⟨by omega, by omega, by omega⟩ (dc dkL12 28 rfl) (dc dkL12 29 rfl) (dc dkL12 30 rfl) (dc dkL12 31 rfl) (dc dkL12 32 rfl) (lp 1254 rfl ?_)
  refine l_arg (k := 2) C ⟨by omega, by omega, by omega⟩ (dc dkL12 33 rfl) (dc dkL12 34 rfl) (dc dkL12 35 rfl) (dc dkL12 36 rfl) (dc dkL12 37 rfl) (lp 1260 rfl ?_)
  refine l_ag (as := [vI (sc xs (i + 1)), vI (sc xs (i + 2))]) (pc2 := 1276) (pc3 := 1279) (tgt := 1485) C hc0 hs0 (ag_moved hI (sc_R _ _) (sc_R _ _)) (dc dkL12 38 rfl) mlL_157 ceX12_moved (by decide) rfl rfl rfl (dc dkL12 50 rfl) mlL_160 ceX13_moved (by decide) rfl (dc dkL12 51 rfl) rfl (by decide) (fun v τ Kx => ?_) (fun τ hτ => ?_)
  · refine lp 1263 rfl ?_
    refine l_aload C (dc dkL12 39 rfl) rfl (lp 1264 rfl ?_)
    refine l_arg (k := 1) C ⟨by omega, by omega, by omega⟩ (dc dkL12 40 rfl) (dc dkL12 41 rfl) (dc dkL12 42 rfl) (dc dkL12 43 rfl) (dc dkL12 44 rfl) (lp 1270 rfl ?_)
    refine l_arg (k := 2) C ⟨by omega, by omega, by omega⟩ (dc dkL12 45 rfl) (dc dkL12 46 rfl) (dc dkL12 47 rfl) (dc dkL12 48 rfl) (dc dkL12 49 rfl) (lp 1276 rfl ?_)
    exact Kx
  ·
    exact K τ hτ
theorem lc_line (C : lC p s m meth c b L xs ad D cA) {i : Int} (hi : 0 ≤ i ∧ i + 6 ≤ L) (hI : Inv σ) (hc0 : cells ≤ room_1.cells) (hs0 : slots ≤ room_1.slots) (K : ∀ τ, Inv τ → lwR p l e s m below meth c b ad D cA 1485 (lvL b ad i) [] τ cells slots) : lwR p l e s m below meth c b ad D cA 1284 (lvL b ad i) [] σ cells slots := by
  refine l_aload C (dc dkL12 54 rfl) rfl (lp 1285 rfl ?_)
  refine l_arg (k := 1) C ⟨by omega, by omega, by omega⟩ (dc dkL12 55 rfl) (dc dkL12 56 rfl) (dc dkL12 57 rfl) (dc dkL12 58 rfl) (dc dkL12 59 rfl) (lp 1291 rfl ?_)
  refine l_arg (k := 2) C ⟨by omega, by omega, by omega⟩ (dc dkL13 0 rfl) (dc dkL13 1 rfl) (dc dkL13 2 rfl) (dc dkL13 3 rfl) (dc dkL13 4 rfl) (lp 1297 rfl ?_)
  refine l_ag (as := [vI (sc xs (i + 1)), vI (sc xs (i + 2))]) (pc2 := 1313) (pc3 := 1316) (tgt := 1485) C hc0 hs0 (ag_line hI (sc_R _ _) (sc_R _ _)) (dc dkL13 5 rfl) mlL_161 ceX12_line (by decide) rfl rfl rfl (dc dkL13 17 rfl) mlL_165 ceX13_line (by decide) rfl (dc dkL13 18 rfl) rfl (by decide) (fun v τ Kx => ?_) (fun τ hτ => ?_)
  · refine lp 1300 rfl ?_
    refine l_aload C (dc dkL13 6 rfl) rfl (lp 1301 rfl ?_)
    refine l_arg (k := 1) C ⟨by omega, by omega, by omega⟩ (dc dkL13 7 rfl) (dc dkL13 8 rfl) (dc dkL13 9 rfl) (dc dkL13 10 rfl) (dc dkL13 11 rfl) (lp 1307 rfl ?_)
    refine l_arg (k := 2) C ⟨by omega, by omega, by omega⟩ (dc dkL13 12 rfl) (dc dkL13 13 rfl) (dc dkL13 14 rfl) (dc dkL13 15 rfl) (dc dkL13 16 rfl) (lp 1313 rfl ?_)
    exact Kx
  ·
    exact K τ hτ
theorem lc_lines (C : lC p s m meth c b L xs ad D cA) {i : Int} (hi : 0 ≤ i ∧ i + 6 ≤ L) (hI : Inv σ) (hc0 : cells ≤ room_1.cells) (hs0 : slots ≤ room_1.slots) (K : ∀ τ, Inv τ → lwR p l e s m below meth c b ad D cA 1485 (lvL b ad i) [] τ cells slots) : lwR p l e s m below meth c b ad D cA 1321 (lvL b ad i) [] σ cells slots := by
  refine l_aload C (dc dkL13 21 rfl) rfl (lp 1322 rfl ?_)
  refine l_arg (k := 1) C ⟨by omega, by omega, by omega⟩ (dc dkL13 22 rfl) (dc dkL13 23 rfl) (dc dkL13 24 rfl) (dc dkL13 25 rfl) (dc dkL13 26 rfl) (lp 1328 rfl ?_)
  refine l_ag (as := [vI (sc xs (i + 1))]) (pc2 := 1338) (pc3 := 1341) (tgt := 1485) C hc0 hs0 (ag_lines hI (sc_R _ _)) (dc dkL13 27 rfl) mlL_166 ceX12_lines (by decide) rfl rfl rfl (dc dkL13 34 rfl) mlL_169 ceX13_lines (by decide) rfl (dc dkL13 35 rfl) rfl (by decide) (fun v τ Kx => ?_) (fun τ hτ => ?_)
  · refine lp 1331 rfl ?_
    refine l_aload C (dc dkL13 28 rfl) rfl (lp 1332 rfl ?_)
    refine l_arg (k := 1) C ⟨by omega, by omega, by omega⟩ (dc dkL13 29 rfl) (dc dkL13 30 rfl) (dc dkL13 31 rfl) (dc dkL13 32 rfl) (dc dkL13 33 rfl) (lp 1338 rfl ?_)
    exact Kx
  ·
    exact K τ hτ
theorem lc_wins (C : lC p s m meth c b L xs ad D cA) {i : Int} (hi : 0 ≤ i ∧ i + 6 ≤ L) (hI : Inv σ) (hc0 : cells ≤ room_1.cells) (hs0 : slots ≤ room_1.slots) (K : ∀ τ, Inv τ → lwR p l e s m below meth c b ad D cA 1485 (lvL b ad i) [] τ cells slots) : lwR p l e s m below meth c b ad D cA 1346 (lvL b ad i) [] σ cells slots := by
  refine l_aload C (dc dkL13 38 rfl) rfl (lp 1347 rfl ?_)
  refine l_ag (as := []) (pc2 := 1351) (pc3 := 1354) (tgt := 1485) C hc0 hs0 (ag_wins hI) (dc dkL13 39 rfl) mlL_170 ceX12_wins (by decide) rfl rfl rfl (dc dkL13 41 rfl) mlL_173 ceX13_wins (by decide) rfl (dc dkL13 42 rfl) rfl (by decide) (fun v τ Kx => ?_) (fun τ hτ => ?_)
  · refine lp 1350 rfl ?_
    refine l_aload C (dc dkL13 40 rfl) rfl (lp 1351 rfl ?_)
    exact Kx
  ·
    exact K τ hτ
theorem lc_again (C : lC p s m meth c b L xs ad D cA) {i : Int} (hi : 0 ≤ i ∧ i + 6 ≤ L) (hI : Inv σ) (hc0 : cells ≤ room_1.cells) (hs0 : slots ≤ room_1.slots) (K : ∀ τ, Inv τ → lwR p l e s m below meth c b ad D cA 1485 (lvL b ad i) [] τ cells slots) : lwR p l e s m below meth c b ad D cA 1359 (lvL b ad i) [] σ cells slots := by
  refine l_aload C (dc dkL13 45 rfl) rfl (lp 1360 rfl ?_)
  refine l_ag (as := []) (pc2 := 1364) (pc3 := 1367) (tgt := 1485) C hc0 hs0 (ag_again hI) (dc dkL13 46 rfl) mlL_174 ceX12_again (by decide) rfl rfl rfl (dc dkL13 48 rfl) mlL_177 ceX13_again (by decide) rfl (dc dkL13 49 rfl) rfl (by decide) (fun v τ Kx => ?_) (fun τ hτ => ?_)
  · refine lp 1363 rfl ?_
    refine l_aload C (dc dkL13 47 rfl) rfl (lp 1364 rfl ?_)
    exact Kx
  ·
    exact K τ hτ
theorem lc_sentence (C : lC p s m meth c b L xs ad D cA) {i : Int} (hi : 0 ≤ i ∧ i + 6 ≤ L) (hI : Inv σ) (hc0 : cells ≤ room_1.cells) (hs0 : slots ≤ room_1.slots) (K : ∀ τ, Inv τ → lwR p l e s m below meth c b ad D cA 1485 (lvL b ad i) [] τ cells slots) : lwR p l e s m below meth c b ad D cA 1372 (lvL b ad i) [] σ cells slots := by
  refine l_aload C (dc dkL13 52 rfl) rfl (lp 1373 rfl ?_)
  refine l_ag (as := []) (pc2 := 1377) (pc3 := 1380) (tgt := 1485) C hc0 hs0 (ag_sentence hI) (dc dkL13 53 rfl) mlL_178 ceX12_sentence (by decide) rfl rfl rfl (dc dkL13 55 rfl) mlL_181 ceX13_sentence (by decide) rfl (dc dkL13 56 rfl) rfl (by decide) (fun v τ Kx => ?_) (fun τ hτ => ?_)
  · refine lp 1376 rfl ?_
    refine l_aload C (dc dkL13 54 rfl) rfl (lp 1377 rfl ?_)
    exact Kx
  ·
    exact K τ hτ
theorem lc_said (C : lC p s m meth c b L xs ad D cA) {i : Int} (hi : 0 ≤ i ∧ i + 6 ≤ L) (hI : Inv σ) (hc0 : cells ≤ room_1.cells) (hs0 : slots ≤ room_1.slots) (K : ∀ τ, Inv τ → lwR p l e s m below meth c b ad D cA 1485 (lvL b ad i) [] τ cells slots) : lwR p l e s m below meth c b ad D cA 1385 (lvL b ad i) [] σ cells slots := by
  refine l_aload C (dc dkL13 59 rfl) rfl (lp 1386 rfl ?_)
  refine l_arg (k := 1) C ⟨by omega, by omega, by omega⟩ (dc dkL14 0 rfl) (dc dkL14 1 rfl) (dc dkL14 2 rfl) (dc dkL14 3 rfl) (dc dkL14 4 rfl) (lp 1392 rfl ?_)
  refine l_ag (as := [vI (sc xs (i + 1))]) (pc2 := 1402) (pc3 := 1405) (tgt := 1485) C hc0 hs0 (ag_said hI (sc_R _ _)) (dc dkL14 5 rfl) mlL_182 ceX12_said (by decide) rfl rfl rfl (dc dkL14 12 rfl) mlL_185 ceX13_said (by decide) rfl (dc dkL14 13 rfl) rfl (by decide) (fun v τ Kx => ?_) (fun τ hτ => ?_)
  · refine lp 1395 rfl ?_
    refine l_aload C (dc dkL14 6 rfl) rfl (lp 1396 rfl ?_)
    refine l_arg (k := 1) C ⟨by omega, by omega, by omega⟩ (dc dkL14 7 rfl) (dc dkL14 8 rfl) (dc dkL14 9 rfl) (dc dkL14 10 rfl) (dc dkL14 11 rfl) (lp 1402 rfl ?_)
    exact Kx
  ·
    exact K τ hτ
theorem lc_image (C : lC p s m meth c b L xs ad D cA) {i : Int} (hi : 0 ≤ i ∧ i + 6 ≤ L) (hI : Inv σ) (hc0 : cells ≤ room_1.cells) (hs0 : slots ≤ room_1.slots) (K : ∀ τ, Inv τ → lwR p l e s m below meth c b ad D cA 1485 (lvL b ad i) [] τ cells slots) : lwR p l e s m below meth c b ad D cA 1410 (lvL b ad i) [] σ cells slots := by
  refine l_aload C (dc dkL14 16 rfl) rfl (lp 1411 rfl ?_)
  refine l_arg (k := 1) C ⟨by omega, by omega, by omega⟩ (dc dkL14 17 rfl) (dc dkL14 18 rfl) (dc dkL14 19 rfl) (dc dkL14 20 rfl) (dc dkL14 21 rfl) (lp 1417 rfl ?_)
  refine l_ag (as := [vI (sc xs (i + 1))]) (pc2 := 1427) (pc3 := 1430) (tgt := 1485) C hc0 hs0 (ag_image hI (sc_R _ _)) (dc dkL14 22 rfl) mlL_186 ceX12_image (by decide) rfl rfl rfl (dc dkL14 29 rfl) mlL_189 ceX13_image (by decide) rfl (dc dkL14 30 rfl) rfl (by decide) (fun v τ Kx => ?_) (fun τ hτ => ?_)
  · refine lp 1420 rfl ?_
    refine l_aload C (dc dkL14 23 rfl) rfl (lp 1421 rfl ?_)
    refine l_arg (k := 1) C ⟨by omega, by omega, by omega⟩ (dc dkL14 24 rfl) (dc dkL14 25 rfl) (dc dkL14 26 rfl) (dc dkL14 27 rfl) (dc dkL14 28 rfl) (lp 1427 rfl ?_)
    exact Kx
  ·
    exact K τ hτ
theorem lc_restore (C : lC p s m meth c b L xs ad D cA) {i : Int} (hi : 0 ≤ i ∧ i + 6 ≤ L) (hI : Inv σ) (hc0 : cells ≤ room_1.cells) (hs0 : slots ≤ room_1.slots) (K : ∀ τ, Inv τ → lwR p l e s m below meth c b ad D cA 1485 (lvL b ad i) [] τ cells slots) : lwR p l e s m below meth c b ad D cA 1435 (lvL b ad i) [] σ cells slots := by
  refine l_aload C (dc dkL14 33 rfl) rfl (lp 1436 rfl ?_)
  refine l_arg (k := 1) C ⟨by omega, by omega, by omega⟩ (dc dkL14 34 rfl) (dc dkL14 35 rfl) (dc dkL14 36 rfl) (dc dkL14 37 rfl) (dc dkL14 38 rfl) (lp 1442 rfl ?_)
  refine l_ag (as := [vI (sc xs (i + 1))]) (pc2 := 1452) (pc3 := 1455) (tgt := 1485) C hc0 hs0 (ag_restore hI (sc_R _ _)) (dc dkL14 39 rfl) mlL_190 ceX12_restore (by decide) rfl rfl rfl (dc dkL14 46 rfl) mlL_193 ceX13_restore (by decide) rfl (dc dkL14 47 rfl) rfl (by decide) (fun v τ Kx => ?_) (fun τ hτ => ?_)
  · refine lp 1445 rfl ?_
    refine l_aload C (dc dkL14 40 rfl) rfl (lp 1446 rfl ?_)
    refine l_arg (k := 1) C ⟨by omega, by omega, by omega⟩ (dc dkL14 41 rfl) (dc dkL14 42 rfl) (dc dkL14 43 rfl) (dc dkL14 44 rfl) (dc dkL14 45 rfl) (lp 1452 rfl ?_)
    exact Kx
  ·
    exact K τ hτ
theorem lc_count (C : lC p s m meth c b L xs ad D cA) {i : Int} (hi : 0 ≤ i ∧ i + 6 ≤ L) (hI : Inv σ) (hc0 : cells ≤ room_1.cells) (hs0 : slots ≤ room_1.slots) (K : ∀ τ, Inv τ → lwR p l e s m below meth c b ad D cA 1485 (lvL b ad i) [] τ cells slots) : lwR p l e s m below meth c b ad D cA 1460 (lvL b ad i) [] σ cells slots := by
  refine l_aload C (dc dkL14 50 rfl) rfl (lp 1461 rfl ?_)
  refine l_arg (k := 1) C ⟨by omega, by omega, by omega⟩ (dc dkL14 51 rfl) (dc dkL14 52 rfl) (dc dkL14 53 rfl) (dc dkL14 54 rfl) (dc dkL14 55 rfl) (lp 1467 rfl ?_)
  refine l_ag (as := [vI (sc xs (i + 1))]) (pc2 := 1477) (pc3 := 1480) (tgt := 1485) C hc0 hs0 (ag_count hI (sc_R _ _)) (dc dkL14 56 rfl) mlL_194 ceX12_count (by decide) rfl rfl rfl (dc dkL15 3 rfl) mlL_197 ceX13_count (by decide) rfl (dc dkL15 4 rfl) rfl (by decide) (fun v τ Kx => ?_) (fun τ hτ => ?_)
  · refine lp 1470 rfl ?_
    refine l_aload C (dc dkL14 57 rfl) rfl (lp 1471 rfl ?_)
    refine l_arg (k := 1) C ⟨by omega, by omega, by omega⟩ (dc dkL14 58 rfl) (dc dkL14 59 rfl) (dc dkL15 0 rfl) (dc dkL15 1 rfl) (dc dkL15 2 rfl) (lp 1477 rfl ?_)
    exact Kx
  ·
    exact K τ hτ
end LC
