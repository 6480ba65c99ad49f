theorem flX12_10 : jFL RX12 10 11 0 := ⟨(RX12, TX12, 15), rfl, by decide, gm2 100 (by decide +kernel), rfl⟩
theorem flX12_16 : jFL RX12 16 7 0 := ⟨(RX8, TX8, 9), rfl, by decide, gm1 61 (by decide +kernel), rfl⟩
theorem flX12_20 : jFL RX12 20 11 1 := ⟨(RX12, TX12, 15), rfl, by decide, gm2 101 (by decide +kernel), rfl⟩
theorem flX12_24 : jFL RX12 24 11 2 := ⟨(RX12, TX12, 15), rfl, by decide, gm2 102 (by decide +kernel), rfl⟩
theorem flX12_28 : jFL RX12 28 11 3 := ⟨(RX12, TX12, 15), rfl, by decide, gm2 103 (by decide +kernel), rfl⟩
theorem flX12_31 : jFL RX12 31 11 4 := ⟨(RX12, TX12, 15), rfl, by decide, gm2 104 (by decide +kernel), rfl⟩
theorem flX12_37 : jFL RX12 37 11 5 := ⟨(RX12, TX12, 15), rfl, by decide, gm2 105 (by decide +kernel), rfl⟩
theorem flX12_41 : jFL RX12 41 11 6 := ⟨(RX12, TX12, 15), rfl, by decide, gm2 106 (by decide +kernel), rfl⟩
theorem fpX12_41 : jFP RX12 41 11 6 .int := ⟨(RX12, TX12, 15), rfl, by decide, gm2 106 (by decide +kernel), rfl, rfl, by decide +kernel⟩
theorem flX12_45 : jFL RX12 45 11 7 := ⟨(RX12, TX12, 15), rfl, by decide, gm2 107 (by decide +kernel), rfl⟩
theorem flX12_52 : jFL RX12 52 11 8 := ⟨(RX12, TX12, 15), rfl, by decide, gm2 108 (by decide +kernel), rfl⟩
theorem flX12_61 : jFL RX12 61 11 9 := ⟨(RX12, TX12, 15), rfl, by decide, gm2 109 (by decide +kernel), rfl⟩
theorem flX12_67 : jFL RX12 67 11 10 := ⟨(RX12, TX12, 15), rfl, by decide, gm2 110 (by decide +kernel), rfl⟩
theorem flX12_74 : jFL RX12 74 11 11 := ⟨(RX12, TX12, 15), rfl, by decide, gm2 111 (by decide +kernel), rfl⟩
theorem flX12_81 : jFL RX12 81 11 12 := ⟨(RX12, TX12, 15), rfl, by decide, gm2 112 (by decide +kernel), rfl⟩
theorem flX12_85 : jFL RX12 85 11 13 := ⟨(RX12, TX12, 15), rfl, by decide, gm2 113 (by decide +kernel), rfl⟩
theorem fpX12_85 : jFP RX12 85 11 13 .int := ⟨(RX12, TX12, 15), rfl, by decide, gm2 113 (by decide +kernel), rfl, rfl, by decide +kernel⟩
theorem flX12_88 : jFL RX12 88 11 14 := ⟨(RX12, TX12, 15), rfl, by decide, gm2 114 (by decide +kernel), rfl⟩
theorem fpX12_88 : jFP RX12 88 11 14 .int := ⟨(RX12, TX12, 15), rfl, by decide, gm2 114 (by decide +kernel), rfl, rfl, by decide +kernel⟩
theorem flX12_99 : jFL RX12 99 2 1 := ⟨(RX2, TX2, 2), rfl, by decide, gm1 51 (by decide +kernel), rfl⟩
theorem fpX12_99 : jFP RX12 99 2 1 .int := ⟨(RX2, TX2, 2), rfl, by decide, gm1 51 (by decide +kernel), rfl, rfl, by decide +kernel⟩
theorem flX12_105 : jFL RX12 105 10 1 := ⟨(RX11, TX11, 6), rfl, by decide, gm1 223 (by decide +kernel), rfl⟩
theorem flX12_119 : jFL RX12 119 7 4 := ⟨(RX8, TX8, 9), rfl, by decide, gm1 67 (by decide +kernel), rfl⟩
theorem fpX12_119 : jFP RX12 119 7 4 .int := ⟨(RX8, TX8, 9), rfl, by decide, gm1 67 (by decide +kernel), rfl, rfl, by decide +kernel⟩
theorem flX12_126 : jFL RX12 126 7 7 := ⟨(RX8, TX8, 9), rfl, by decide, gm1 77 (by decide +kernel), rfl⟩
theorem fpX12_126 : jFP RX12 126 7 7 .int := ⟨(RX8, TX8, 9), rfl, by decide, gm1 77 (by decide +kernel), rfl, rfl, by decide +kernel⟩
theorem flX12_129 : jFL RX12 129 1 7 := ⟨(RX1, TX1, 10), rfl, by decide, gm1 152 (by decide +kernel), rfl⟩
theorem fpX12_129 : jFP RX12 129 1 7 .int := ⟨(RX1, TX1, 10), rfl, by decide, gm1 152 (by decide +kernel), rfl, rfl, by decide +kernel⟩
theorem flX12_135 : jFL RX12 135 7 8 := ⟨(RX8, TX8, 9), rfl, by decide, gm1 79 (by decide +kernel), rfl⟩
theorem fpX12_135 : jFP RX12 135 7 8 .int := ⟨(RX8, TX8, 9), rfl, by decide, gm1 79 (by decide +kernel), rfl, rfl, by decide +kernel⟩
theorem flX12_142 : jFL RX12 142 10 2 := ⟨(RX11, TX11, 6), rfl, by decide, gm1 225 (by decide +kernel), rfl⟩
theorem flX12_146 : jFL RX12 146 3 0 := ⟨(RX3, TX3, 5), rfl, by decide, gm1 186 (by decide +kernel), rfl⟩
theorem fpX12_146 : jFP RX12 146 3 0 .int := ⟨(RX3, TX3, 5), rfl, by decide, gm1 186 (by decide +kernel), rfl, rfl, by decide +kernel⟩
theorem flX12_151 : jFL RX12 151 10 3 := ⟨(RX11, TX11, 6), rfl, by decide, gm1 227 (by decide +kernel), rfl⟩
theorem fpX12_151 : jFP RX12 151 10 3 .int := ⟨(RX11, TX11, 6), rfl, by decide, gm1 227 (by decide +kernel), rfl, rfl, by decide +kernel⟩
theorem flX12_154 : jFL RX12 154 10 5 := ⟨(RX11, TX11, 6), rfl, by decide, gm1 232 (by decide +kernel), rfl⟩
theorem flX12_167 : jFL RX12 167 1 9 := ⟨(RX1, TX1, 10), rfl, by decide, gm1 157 (by decide +kernel), rfl⟩
theorem flX12_198 : jFL RX12 198 0 0 := ⟨(RX0, TX0, 4), rfl, by decide, gm1 118 (by decide +kernel), rfl⟩
theorem fpX12_198 : jFP RX12 198 0 0 .int := ⟨(RX0, TX0, 4), rfl, by decide, gm1 118 (by decide +kernel), rfl, rfl, by decide +kernel⟩
theorem flX12_233 : jFL RX12 233 9 1 := ⟨(RX10, TX10, 6), rfl, by decide, gm2 18 (by decide +kernel), rfl⟩
theorem fpX12_233 : jFP RX12 233 9 1 .int := ⟨(RX10, TX10, 6), rfl, by decide, gm2 18 (by decide +kernel), rfl, rfl, by decide +kernel⟩
theorem flX12_236 : jFL RX12 236 9 0 := ⟨(RX10, TX10, 6), rfl, by decide, gm2 16 (by decide +kernel), rfl⟩
theorem flX12_377 : jFL RX12 377 8 1 := ⟨(RX9, TX9, 3), rfl, by decide, gm1 211 (by decide +kernel), rfl⟩
theorem fpX12_377 : jFP RX12 377 8 1 .int := ⟨(RX9, TX9, 3), rfl, by decide, gm1 211 (by decide +kernel), rfl, rfl, by decide +kernel⟩
theorem flX12_380 : jFL RX12 380 8 0 := ⟨(RX9, TX9, 3), rfl, by decide, gm1 209 (by decide +kernel), rfl⟩
theorem fpX12_380 : jFP RX12 380 8 0 .int := ⟨(RX9, TX9, 3), rfl, by decide, gm1 209 (by decide +kernel), rfl, rfl, by decide +kernel⟩
theorem flX12_390 : jFL RX12 390 10 0 := ⟨(RX11, TX11, 6), rfl, by decide, gm1 221 (by decide +kernel), rfl⟩
theorem fpX12_390 : jFP RX12 390 10 0 .boolean := ⟨(RX11, TX11, 6), rfl, by decide, gm1 221 (by decide +kernel), rfl, rfl, by decide +kernel⟩
theorem flX12_394 : jFL RX12 394 1 0 := ⟨(RX1, TX1, 10), rfl, by decide, gm1 138 (by decide +kernel), rfl⟩
theorem fpX12_394 : jFP RX12 394 1 0 .int := ⟨(RX1, TX1, 10), rfl, by decide, gm1 138 (by decide +kernel), rfl, rfl, by decide +kernel⟩
theorem flX12_397 : jFL RX12 397 1 1 := ⟨(RX1, TX1, 10), rfl, by decide, gm1 143 (by decide +kernel), rfl⟩
theorem fpX12_397 : jFP RX12 397 1 1 .int := ⟨(RX1, TX1, 10), rfl, by decide, gm1 143 (by decide +kernel), rfl, rfl, by decide +kernel⟩
theorem flX12_400 : jFL RX12 400 1 3 := ⟨(RX1, TX1, 10), rfl, by decide, gm1 147 (by decide +kernel), rfl⟩
theorem fpX12_400 : jFP RX12 400 1 3 .int := ⟨(RX1, TX1, 10), rfl, by decide, gm1 147 (by decide +kernel), rfl, rfl, by decide +kernel⟩
theorem flX12_403 : jFL RX12 403 1 2 := ⟨(RX1, TX1, 10), rfl, by decide, gm1 145 (by decide +kernel), rfl⟩
theorem fpX12_403 : jFP RX12 403 1 2 .boolean := ⟨(RX1, TX1, 10), rfl, by decide, gm1 145 (by decide +kernel), rfl, rfl, by decide +kernel⟩
theorem flX0_9 : jFL RX0 9 0 0 := ⟨(RX0, TX0, 4), rfl, by decide, gm1 117 (by decide +kernel), rfl⟩
theorem fpX0_9 : jFP RX0 9 0 0 .int := ⟨(RX0, TX0, 4), rfl, by decide, gm1 117 (by decide +kernel), rfl, rfl, by decide +kernel⟩
theorem flX0_15 : jFL RX0 15 0 1 := ⟨(RX0, TX0, 4), rfl, by decide, gm1 120 (by decide +kernel), rfl⟩
theorem flX0_19 : jFL RX0 19 0 2 := ⟨(RX0, TX0, 4), rfl, by decide, gm1 121 (by decide +kernel), rfl⟩
theorem flX0_22 : jFL RX0 22 0 3 := ⟨(RX0, TX0, 4), rfl, by decide, gm1 122 (by decide +kernel), rfl⟩
theorem flX1_9 : jFL RX1 9 1 0 := ⟨(RX1, TX1, 10), rfl, by decide, gm1 134 (by decide +kernel), rfl⟩
theorem fpX1_9 : jFP RX1 9 1 0 .int := ⟨(RX1, TX1, 10), rfl, by decide, gm1 134 (by decide +kernel), rfl, rfl, by decide +kernel⟩
theorem flX1_15 : jFL RX1 15 1 1 := ⟨(RX1, TX1, 10), rfl, by decide, gm1 139 (by decide +kernel), rfl⟩
theorem fpX1_15 : jFP RX1 15 1 1 .int := ⟨(RX1, TX1, 10), rfl, by decide, gm1 139 (by decide +kernel), rfl, rfl, by decide +kernel⟩
theorem flX1_18 : jFL RX1 18 1 2 := ⟨(RX1, TX1, 10), rfl, by decide, gm1 144 (by decide +kernel), rfl⟩
theorem fpX1_18 : jFP RX1 18 1 2 .boolean := ⟨(RX1, TX1, 10), rfl, by decide, gm1 144 (by decide +kernel), rfl, rfl, by decide +kernel⟩
theorem flX1_22 : jFL RX1 22 1 3 := ⟨(RX1, TX1, 10), rfl, by decide, gm1 146 (by decide +kernel), rfl⟩
theorem fpX1_22 : jFP RX1 22 1 3 .int := ⟨(RX1, TX1, 10), rfl, by decide, gm1 146 (by decide +kernel), rfl, rfl, by decide +kernel⟩
theorem flX1_25 : jFL RX1 25 1 4 := ⟨(RX1, TX1, 10), rfl, by decide, gm1 148 (by decide +kernel), rfl⟩
theorem fpX1_25 : jFP RX1 25 1 4 .long := ⟨(RX1, TX1, 10), rfl, by decide, gm1 148 (by decide +kernel), rfl, rfl, by decide +kernel⟩
theorem flX1_29 : jFL RX1 29 1 5 := ⟨(RX1, TX1, 10), rfl, by decide, gm1 149 (by decide +kernel), rfl⟩
theorem fpX1_29 : jFP RX1 29 1 5 .long := ⟨(RX1, TX1, 10), rfl, by decide, gm1 149 (by decide +kernel), rfl, rfl, by decide +kernel⟩
theorem flX1_32 : jFL RX1 32 1 6 := ⟨(RX1, TX1, 10), rfl, by decide, gm1 150 (by decide +kernel), rfl⟩
theorem fpX1_32 : jFP RX1 32 1 6 .int := ⟨(RX1, TX1, 10), rfl, by decide, gm1 150 (by decide +kernel), rfl, rfl, by decide +kernel⟩
theorem flX1_35 : jFL RX1 35 1 7 := ⟨(RX1, TX1, 10), rfl, by decide, gm1 151 (by decide +kernel), rfl⟩
theorem fpX1_35 : jFP RX1 35 1 7 .int := ⟨(RX1, TX1, 10), rfl, by decide, gm1 151 (by decide +kernel), rfl, rfl, by decide +kernel⟩
theorem flX1_38 : jFL RX1 38 1 8 := ⟨(RX1, TX1, 10), rfl, by decide, gm1 153 (by decide +kernel), rfl⟩
theorem flX1_45 : jFL RX1 45 1 9 := ⟨(RX1, TX1, 10), rfl, by decide, gm1 154 (by decide +kernel), rfl⟩
theorem flX1_91 : jFL RX1 91 0 0 := ⟨(RX0, TX0, 4), rfl, by decide, gm1 119 (by decide +kernel), rfl⟩
theorem fpX1_91 : jFP RX1 91 0 0 .int := ⟨(RX0, TX0, 4), rfl, by decide, gm1 119 (by decide +kernel), rfl, rfl, by decide +kernel⟩
theorem flX1_110 : jFL RX1 110 7 4 := ⟨(RX8, TX8, 9), rfl, by decide, gm1 69 (by decide +kernel), rfl⟩
theorem fpX1_110 : jFP RX1 110 7 4 .int := ⟨(RX8, TX8, 9), rfl, by decide, gm1 69 (by decide +kernel), rfl, rfl, by decide +kernel⟩
theorem flX1_135 : jFL RX1 135 7 5 := ⟨(RX8, TX8, 9), rfl, by decide, gm1 72 (by decide +kernel), rfl⟩
theorem fpX1_135 : jFP RX1 135 7 5 .int := ⟨(RX8, TX8, 9), rfl, by decide, gm1 72 (by decide +kernel), rfl, rfl, by decide +kernel⟩
theorem flX1_163 : jFL RX1 163 7 6 := ⟨(RX8, TX8, 9), rfl, by decide, gm1 75 (by decide +kernel), rfl⟩
theorem fpX1_163 : jFP RX1 163 7 6 .long := ⟨(RX8, TX8, 9), rfl, by decide, gm1 75 (by decide +kernel), rfl, rfl, by decide +kernel⟩
theorem flX2_9 : jFL RX2 9 2 1 := ⟨(RX2, TX2, 2), rfl, by decide, gm1 50 (by decide +kernel), rfl⟩
theorem fpX2_9 : jFP RX2 9 2 1 .int := ⟨(RX2, TX2, 2), rfl, by decide, gm1 50 (by decide +kernel), rfl, rfl, by decide +kernel⟩
theorem flX2_21 : jFL RX2 21 2 0 := ⟨(RX2, TX2, 2), rfl, by decide, gm1 49 (by decide +kernel), rfl⟩
theorem flX3_9 : jFL RX3 9 3 0 := ⟨(RX3, TX3, 5), rfl, by decide, gm1 185 (by decide +kernel), rfl⟩
theorem fpX3_9 : jFP RX3 9 3 0 .int := ⟨(RX3, TX3, 5), rfl, by decide, gm1 185 (by decide +kernel), rfl, rfl, by decide +kernel⟩
theorem flX3_15 : jFL RX3 15 3 1 := ⟨(RX3, TX3, 5), rfl, by decide, gm1 187 (by decide +kernel), rfl⟩
theorem fpX3_15 : jFP RX3 15 3 1 .int := ⟨(RX3, TX3, 5), rfl, by decide, gm1 187 (by decide +kernel), rfl, rfl, by decide +kernel⟩
theorem flX3_18 : jFL RX3 18 3 2 := ⟨(RX3, TX3, 5), rfl, by decide, gm1 188 (by decide +kernel), rfl⟩
theorem fpX3_18 : jFP RX3 18 3 2 .int := ⟨(RX3, TX3, 5), rfl, by decide, gm1 188 (by decide +kernel), rfl, rfl, by decide +kernel⟩
theorem flX3_21 : jFL RX3 21 3 3 := ⟨(RX3, TX3, 5), rfl, by decide, gm1 189 (by decide +kernel), rfl⟩
theorem flX3_25 : jFL RX3 25 3 4 := ⟨(RX3, TX3, 5), rfl, by decide, gm1 190 (by decide +kernel), rfl⟩
theorem flX3_40 : jFL RX3 40 1 0 := ⟨(RX1, TX1, 10), rfl, by decide, gm1 136 (by decide +kernel), rfl⟩
theorem fpX3_40 : jFP RX3 40 1 0 .int := ⟨(RX1, TX1, 10), rfl, by decide, gm1 136 (by decide +kernel), rfl, rfl, by decide +kernel⟩
theorem flX3_49 : jFL RX3 49 1 1 := ⟨(RX1, TX1, 10), rfl, by decide, gm1 142 (by decide +kernel), rfl⟩
theorem fpX3_49 : jFP RX3 49 1 1 .int := ⟨(RX1, TX1, 10), rfl, by decide, gm1 142 (by decide +kernel), rfl, rfl, by decide +kernel⟩
theorem flX3_56 : jFL RX3 56 7 4 := ⟨(RX8, TX8, 9), rfl, by decide, gm1 66 (by decide +kernel), rfl⟩
theorem fpX3_56 : jFP RX3 56 7 4 .int := ⟨(RX8, TX8, 9), rfl, by decide, gm1 66 (by decide +kernel), rfl, rfl, by decide +kernel⟩
theorem flX3_104 : jFL RX3 104 2 1 := ⟨(RX2, TX2, 2), rfl, by decide, gm1 53 (by decide +kernel), rfl⟩
theorem fpX3_104 : jFP RX3 104 2 1 .int := ⟨(RX2, TX2, 2), rfl, by decide, gm1 53 (by decide +kernel), rfl, rfl, by decide +kernel⟩
theorem flX4_9 : jFL RX4 9 4 0 := ⟨(RX4, TX4, 4), rfl, by decide, gm2 86 (by decide +kernel), rfl⟩
theorem flX4_15 : jFL RX4 15 4 1 := ⟨(RX4, TX4, 4), rfl, by decide, gm2 87 (by decide +kernel), rfl⟩
theorem flX4_18 : jFL RX4 18 4 2 := ⟨(RX4, TX4, 4), rfl, by decide, gm2 88 (by decide +kernel), rfl⟩
theorem flX4_22 : jFL RX4 22 4 3 := ⟨(RX4, TX4, 4), rfl, by decide, gm2 89 (by decide +kernel), rfl⟩
theorem fpX4_22 : jFP RX4 22 4 3 .int := ⟨(RX4, TX4, 4), rfl, by decide, gm2 89 (by decide +kernel), rfl, rfl, by decide +kernel⟩
theorem flX4_49 : jFL RX4 49 10 3 := ⟨(RX11, TX11, 6), rfl, by decide, gm1 228 (by decide +kernel), rfl⟩
theorem fpX4_49 : jFP RX4 49 10 3 .int := ⟨(RX11, TX11, 6), rfl, by decide, gm1 228 (by decide +kernel), rfl, rfl, by decide +kernel⟩
theorem flX4_54 : jFL RX4 54 10 4 := ⟨(RX11, TX11, 6), rfl, by decide, gm1 230 (by decide +kernel), rfl⟩
theorem flX5_11 : jFL RX5 11 5 0 := ⟨(RX5, TX5, 7), rfl, by decide, gm2 57 (by decide +kernel), rfl⟩
theorem flX5_15 : jFL RX5 15 5 1 := ⟨(RX5, TX5, 7), rfl, by decide, gm2 58 (by decide +kernel), rfl⟩
theorem flX5_18 : jFL RX5 18 5 2 := ⟨(RX5, TX5, 7), rfl, by decide, gm2 59 (by decide +kernel), rfl⟩
theorem flX5_21 : jFL RX5 21 5 3 := ⟨(RX5, TX5, 7), rfl, by decide, gm2 60 (by decide +kernel), rfl⟩
theorem flX5_25 : jFL RX5 25 5 4 := ⟨(RX5, TX5, 7), rfl, by decide, gm2 61 (by decide +kernel), rfl⟩
theorem flX5_29 : jFL RX5 29 5 5 := ⟨(RX5, TX5, 7), rfl, by decide, gm2 62 (by decide +kernel), rfl⟩
theorem fpX5_29 : jFP RX5 29 5 5 .int := ⟨(RX5, TX5, 7), rfl, by decide, gm2 62 (by decide +kernel), rfl, rfl, by decide +kernel⟩
theorem flX5_33 : jFL RX5 33 5 6 := ⟨(RX5, TX5, 7), rfl, by decide, gm2 63 (by decide +kernel), rfl⟩
theorem fpX5_33 : jFP RX5 33 5 6 .int := ⟨(RX5, TX5, 7), rfl, by decide, gm2 63 (by decide +kernel), rfl, rfl, by decide +kernel⟩
theorem flX5_36 : jFL RX5 36 1 0 := ⟨(RX1, TX1, 10), rfl, by decide, gm1 135 (by decide +kernel), rfl⟩
theorem fpX5_36 : jFP RX5 36 1 0 .int := ⟨(RX1, TX1, 10), rfl, by decide, gm1 135 (by decide +kernel), rfl, rfl, by decide +kernel⟩
theorem flX5_39 : jFL RX5 39 1 1 := ⟨(RX1, TX1, 10), rfl, by decide, gm1 140 (by decide +kernel), rfl⟩
theorem fpX5_39 : jFP RX5 39 1 1 .int := ⟨(RX1, TX1, 10), rfl, by decide, gm1 140 (by decide +kernel), rfl, rfl, by decide +kernel⟩
theorem flX5_46 : jFL RX5 46 1 9 := ⟨(RX1, TX1, 10), rfl, by decide, gm1 155 (by decide +kernel), rfl⟩
theorem flX6_9 : jFL RX6 9 6 0 := ⟨(RX6, TX6, 2), rfl, by decide, gm2 44 (by decide +kernel), rfl⟩
theorem flX6_15 : jFL RX6 15 6 1 := ⟨(RX6, TX6, 2), rfl, by decide, gm2 45 (by decide +kernel), rfl⟩
theorem fpX6_15 : jFP RX6 15 6 1 .int := ⟨(RX6, TX6, 2), rfl, by decide, gm2 45 (by decide +kernel), rfl, rfl, by decide +kernel⟩
theorem flX6_27 : jFL RX6 27 1 0 := ⟨(RX1, TX1, 10), rfl, by decide, gm1 137 (by decide +kernel), rfl⟩
theorem fpX6_27 : jFP RX6 27 1 0 .int := ⟨(RX1, TX1, 10), rfl, by decide, gm1 137 (by decide +kernel), rfl, rfl, by decide +kernel⟩
theorem flX6_32 : jFL RX6 32 1 1 := ⟨(RX1, TX1, 10), rfl, by decide, gm1 141 (by decide +kernel), rfl⟩
theorem fpX6_32 : jFP RX6 32 1 1 .int := ⟨(RX1, TX1, 10), rfl, by decide, gm1 141 (by decide +kernel), rfl, rfl, by decide +kernel⟩
theorem flX8_14 : jFL RX8 14 7 0 := ⟨(RX8, TX8, 9), rfl, by decide, gm1 60 (by decide +kernel), rfl⟩
theorem flX8_20 : jFL RX8 20 7 1 := ⟨(RX8, TX8, 9), rfl, by decide, gm1 62 (by decide +kernel), rfl⟩
theorem fpX8_20 : jFP RX8 20 7 1 .int := ⟨(RX8, TX8, 9), rfl, by decide, gm1 62 (by decide +kernel), rfl, rfl, by decide +kernel⟩
theorem flX8_24 : jFL RX8 24 7 2 := ⟨(RX8, TX8, 9), rfl, by decide, gm1 63 (by decide +kernel), rfl⟩
theorem fpX8_24 : jFP RX8 24 7 2 .int := ⟨(RX8, TX8, 9), rfl, by decide, gm1 63 (by decide +kernel), rfl, rfl, by decide +kernel⟩
theorem flX8_27 : jFL RX8 27 7 3 := ⟨(RX8, TX8, 9), rfl, by decide, gm1 64 (by decide +kernel), rfl⟩
theorem fpX8_27 : jFP RX8 27 7 3 .int := ⟨(RX8, TX8, 9), rfl, by decide, gm1 64 (by decide +kernel), rfl, rfl, by decide +kernel⟩
theorem flX8_30 : jFL RX8 30 7 4 := ⟨(RX8, TX8, 9), rfl, by decide, gm1 65 (by decide +kernel), rfl⟩
theorem fpX8_30 : jFP RX8 30 7 4 .int := ⟨(RX8, TX8, 9), rfl, by decide, gm1 65 (by decide +kernel), rfl, rfl, by decide +kernel⟩
theorem flX8_33 : jFL RX8 33 7 5 := ⟨(RX8, TX8, 9), rfl, by decide, gm1 70 (by decide +kernel), rfl⟩
theorem fpX8_33 : jFP RX8 33 7 5 .int := ⟨(RX8, TX8, 9), rfl, by decide, gm1 70 (by decide +kernel), rfl, rfl, by decide +kernel⟩
theorem flX8_36 : jFL RX8 36 7 6 := ⟨(RX8, TX8, 9), rfl, by decide, gm1 73 (by decide +kernel), rfl⟩
theorem fpX8_36 : jFP RX8 36 7 6 .long := ⟨(RX8, TX8, 9), rfl, by decide, gm1 73 (by decide +kernel), rfl, rfl, by decide +kernel⟩
theorem flX8_40 : jFL RX8 40 7 7 := ⟨(RX8, TX8, 9), rfl, by decide, gm1 76 (by decide +kernel), rfl⟩
theorem fpX8_40 : jFP RX8 40 7 7 .int := ⟨(RX8, TX8, 9), rfl, by decide, gm1 76 (by decide +kernel), rfl, rfl, by decide +kernel⟩
theorem flX8_43 : jFL RX8 43 7 8 := ⟨(RX8, TX8, 9), rfl, by decide, gm1 78 (by decide +kernel), rfl⟩
theorem fpX8_43 : jFP RX8 43 7 8 .int := ⟨(RX8, TX8, 9), rfl, by decide, gm1 78 (by decide +kernel), rfl, rfl, by decide +kernel⟩
theorem flX8_52 : jFL RX8 52 2 1 := ⟨(RX2, TX2, 2), rfl, by decide, gm1 52 (by decide +kernel), rfl⟩
theorem fpX8_52 : jFP RX8 52 2 1 .int := ⟨(RX2, TX2, 2), rfl, by decide, gm1 52 (by decide +kernel), rfl, rfl, by decide +kernel⟩
theorem flX9_9 : jFL RX9 9 8 0 := ⟨(RX9, TX9, 3), rfl, by decide, gm1 208 (by decide +kernel), rfl⟩
theorem fpX9_9 : jFP RX9 9 8 0 .int := ⟨(RX9, TX9, 3), rfl, by decide, gm1 208 (by decide +kernel), rfl, rfl, by decide +kernel⟩
theorem flX9_15 : jFL RX9 15 8 1 := ⟨(RX9, TX9, 3), rfl, by decide, gm1 210 (by decide +kernel), rfl⟩
theorem fpX9_15 : jFP RX9 15 8 1 .int := ⟨(RX9, TX9, 3), rfl, by decide, gm1 210 (by decide +kernel), rfl, rfl, by decide +kernel⟩
theorem flX9_18 : jFL RX9 18 8 2 := ⟨(RX9, TX9, 3), rfl, by decide, gm1 212 (by decide +kernel), rfl⟩
theorem flX9_48 : jFL RX9 48 7 4 := ⟨(RX8, TX8, 9), rfl, by decide, gm1 68 (by decide +kernel), rfl⟩
theorem fpX9_48 : jFP RX9 48 7 4 .int := ⟨(RX8, TX8, 9), rfl, by decide, gm1 68 (by decide +kernel), rfl, rfl, by decide +kernel⟩
theorem flX9_72 : jFL RX9 72 7 6 := ⟨(RX8, TX8, 9), rfl, by decide, gm1 74 (by decide +kernel), rfl⟩
theorem fpX9_72 : jFP RX9 72 7 6 .long := ⟨(RX8, TX8, 9), rfl, by decide, gm1 74 (by decide +kernel), rfl, rfl, by decide +kernel⟩
theorem flX9_82 : jFL RX9 82 1 9 := ⟨(RX1, TX1, 10), rfl, by decide, gm1 156 (by decide +kernel), rfl⟩
theorem flX9_92 : jFL RX9 92 7 5 := ⟨(RX8, TX8, 9), rfl, by decide, gm1 71 (by decide +kernel), rfl⟩
theorem fpX9_92 : jFP RX9 92 7 5 .int := ⟨(RX8, TX8, 9), rfl, by decide, gm1 71 (by decide +kernel), rfl, rfl, by decide +kernel⟩
theorem flX10_11 : jFL RX10 11 9 0 := ⟨(RX10, TX10, 6), rfl, by decide, gm2 15 (by decide +kernel), rfl⟩
theorem flX10_15 : jFL RX10 15 9 1 := ⟨(RX10, TX10, 6), rfl, by decide, gm2 17 (by decide +kernel), rfl⟩
theorem fpX10_15 : jFP RX10 15 9 1 .int := ⟨(RX10, TX10, 6), rfl, by decide, gm2 17 (by decide +kernel), rfl, rfl, by decide +kernel⟩
theorem flX10_19 : jFL RX10 19 9 2 := ⟨(RX10, TX10, 6), rfl, by decide, gm2 19 (by decide +kernel), rfl⟩
theorem flX10_22 : jFL RX10 22 9 3 := ⟨(RX10, TX10, 6), rfl, by decide, gm2 20 (by decide +kernel), rfl⟩
theorem flX10_25 : jFL RX10 25 9 4 := ⟨(RX10, TX10, 6), rfl, by decide, gm2 21 (by decide +kernel), rfl⟩
theorem flX10_28 : jFL RX10 28 9 5 := ⟨(RX10, TX10, 6), rfl, by decide, gm2 22 (by decide +kernel), rfl⟩
theorem flX11_9 : jFL RX11 9 10 0 := ⟨(RX11, TX11, 6), rfl, by decide, gm1 220 (by decide +kernel), rfl⟩
theorem fpX11_9 : jFP RX11 9 10 0 .boolean := ⟨(RX11, TX11, 6), rfl, by decide, gm1 220 (by decide +kernel), rfl, rfl, by decide +kernel⟩
theorem flX11_18 : jFL RX11 18 10 1 := ⟨(RX11, TX11, 6), rfl, by decide, gm1 222 (by decide +kernel), rfl⟩
theorem flX11_25 : jFL RX11 25 10 2 := ⟨(RX11, TX11, 6), rfl, by decide, gm1 224 (by decide +kernel), rfl⟩
theorem flX11_29 : jFL RX11 29 10 3 := ⟨(RX11, TX11, 6), rfl, by decide, gm1 226 (by decide +kernel), rfl⟩
theorem fpX11_29 : jFP RX11 29 10 3 .int := ⟨(RX11, TX11, 6), rfl, by decide, gm1 226 (by decide +kernel), rfl, rfl, by decide +kernel⟩
theorem flX11_33 : jFL RX11 33 10 4 := ⟨(RX11, TX11, 6), rfl, by decide, gm1 229 (by decide +kernel), rfl⟩
theorem flX11_40 : jFL RX11 40 10 5 := ⟨(RX11, TX11, 6), rfl, by decide, gm1 231 (by decide +kernel), rfl⟩
theorem flX13_7 : jFL RX13 7 12 1 := ⟨(RX13, TX13, 51), rfl, by decide, gm6 103 (by decide +kernel), rfl⟩
theorem flX13_13 : jFL RX13 13 12 15 := ⟨(RX13, TX13, 51), rfl, by decide, gm6 117 (by decide +kernel), rfl⟩
theorem flX13_16 : jFL RX13 16 12 16 := ⟨(RX13, TX13, 51), rfl, by decide, gm6 118 (by decide +kernel), rfl⟩
theorem flX13_19 : jFL RX13 19 12 17 := ⟨(RX13, TX13, 51), rfl, by decide, gm6 119 (by decide +kernel), rfl⟩
theorem flX13_22 : jFL RX13 22 12 18 := ⟨(RX13, TX13, 51), rfl, by decide, gm6 120 (by decide +kernel), rfl⟩
theorem flX13_25 : jFL RX13 25 12 19 := ⟨(RX13, TX13, 51), rfl, by decide, gm6 121 (by decide +kernel), rfl⟩
theorem flX13_28 : jFL RX13 28 12 20 := ⟨(RX13, TX13, 51), rfl, by decide, gm6 122 (by decide +kernel), rfl⟩
theorem flX13_32 : jFL RX13 32 12 21 := ⟨(RX13, TX13, 51), rfl, by decide, gm6 123 (by decide +kernel), rfl⟩
theorem flX13_35 : jFL RX13 35 12 22 := ⟨(RX13, TX13, 51), rfl, by decide, gm6 124 (by decide +kernel), rfl⟩
theorem flX13_38 : jFL RX13 38 12 23 := ⟨(RX13, TX13, 51), rfl, by decide, gm6 125 (by decide +kernel), rfl⟩
theorem flX13_41 : jFL RX13 41 12 24 := ⟨(RX13, TX13, 51), rfl, by decide, gm6 126 (by decide +kernel), rfl⟩
theorem flX13_44 : jFL RX13 44 12 25 := ⟨(RX13, TX13, 51), rfl, by decide, gm6 127 (by decide +kernel), rfl⟩
theorem flX13_47 : jFL RX13 47 12 26 := ⟨(RX13, TX13, 51), rfl, by decide, gm6 128 (by decide +kernel), rfl⟩
theorem flX13_51 : jFL RX13 51 12 28 := ⟨(RX13, TX13, 51), rfl, by decide, gm6 130 (by decide +kernel), rfl⟩
theorem flX13_54 : jFL RX13 54 12 29 := ⟨(RX13, TX13, 51), rfl, by decide, gm6 131 (by decide +kernel), rfl⟩
theorem flX13_57 : jFL RX13 57 12 30 := ⟨(RX13, TX13, 51), rfl, by decide, gm6 132 (by decide +kernel), rfl⟩
theorem flX13_60 : jFL RX13 60 12 31 := ⟨(RX13, TX13, 51), rfl, by decide, gm6 133 (by decide +kernel), rfl⟩
theorem flX13_63 : jFL RX13 63 12 32 := ⟨(RX13, TX13, 51), rfl, by decide, gm6 134 (by decide +kernel), rfl⟩
theorem flX13_66 : jFL RX13 66 12 35 := ⟨(RX13, TX13, 51), rfl, by decide, gm6 137 (by decide +kernel), rfl⟩
theorem flX13_69 : jFL RX13 69 12 38 := ⟨(RX13, TX13, 51), rfl, by decide, gm6 140 (by decide +kernel), rfl⟩
theorem flX13_72 : jFL RX13 72 12 39 := ⟨(RX13, TX13, 51), rfl, by decide, gm6 141 (by decide +kernel), rfl⟩
theorem flX13_75 : jFL RX13 75 12 40 := ⟨(RX13, TX13, 51), rfl, by decide, gm6 142 (by decide +kernel), rfl⟩
theorem flX13_79 : jFL RX13 79 12 41 := ⟨(RX13, TX13, 51), rfl, by decide, gm6 143 (by decide +kernel), rfl⟩
theorem flX13_82 : jFL RX13 82 12 42 := ⟨(RX13, TX13, 51), rfl, by decide, gm6 144 (by decide +kernel), rfl⟩
theorem flX13_85 : jFL RX13 85 12 43 := ⟨(RX13, TX13, 51), rfl, by decide, gm6 145 (by decide +kernel), rfl⟩
theorem flX13_88 : jFL RX13 88 12 44 := ⟨(RX13, TX13, 51), rfl, by decide, gm6 146 (by decide +kernel), rfl⟩
theorem flX13_91 : jFL RX13 91 12 45 := ⟨(RX13, TX13, 51), rfl, by decide, gm6 147 (by decide +kernel), rfl⟩
theorem flX13_94 : jFL RX13 94 12 0 := ⟨(RX13, TX13, 51), rfl, by decide, gm6 102 (by decide +kernel), rfl⟩
theorem fpX13_94 : jFP RX13 94 12 0 .int := ⟨(RX13, TX13, 51), rfl, by decide, gm6 102 (by decide +kernel), rfl, rfl, by decide +kernel⟩
theorem flX13_98 : jFL RX13 98 12 2 := ⟨(RX13, TX13, 51), rfl, by decide, gm6 104 (by decide +kernel), rfl⟩
theorem fpX13_98 : jFP RX13 98 12 2 .int := ⟨(RX13, TX13, 51), rfl, by decide, gm6 104 (by decide +kernel), rfl, rfl, by decide +kernel⟩
theorem flX13_109 : jFL RX13 109 12 3 := ⟨(RX13, TX13, 51), rfl, by decide, gm6 105 (by decide +kernel), rfl⟩
theorem fpX13_109 : jFP RX13 109 12 3 .int := ⟨(RX13, TX13, 51), rfl, by decide, gm6 105 (by decide +kernel), rfl, rfl, by decide +kernel⟩
theorem flX13_111 : jFL RX13 111 12 5 := ⟨(RX13, TX13, 51), rfl, by decide, gm6 107 (by decide +kernel), rfl⟩
theorem fpX13_111 : jFP RX13 111 12 5 .int := ⟨(RX13, TX13, 51), rfl, by decide, gm6 107 (by decide +kernel), rfl, rfl, by decide +kernel⟩
theorem flX13_114 : jFL RX13 114 12 6 := ⟨(RX13, TX13, 51), rfl, by decide, gm6 108 (by decide +kernel), rfl⟩
theorem fpX13_114 : jFP RX13 114 12 6 .int := ⟨(RX13, TX13, 51), rfl, by decide, gm6 108 (by decide +kernel), rfl, rfl, by decide +kernel⟩
theorem flX13_117 : jFL RX13 117 12 4 := ⟨(RX13, TX13, 51), rfl, by decide, gm6 106 (by decide +kernel), rfl⟩
theorem fpX13_117 : jFP RX13 117 12 4 .int := ⟨(RX13, TX13, 51), rfl, by decide, gm6 106 (by decide +kernel), rfl, rfl, by decide +kernel⟩
theorem flX13_120 : jFL RX13 120 12 7 := ⟨(RX13, TX13, 51), rfl, by decide, gm6 109 (by decide +kernel), rfl⟩
theorem fpX13_120 : jFP RX13 120 12 7 .int := ⟨(RX13, TX13, 51), rfl, by decide, gm6 109 (by decide +kernel), rfl, rfl, by decide +kernel⟩
theorem flX13_130 : jFL RX13 130 12 9 := ⟨(RX13, TX13, 51), rfl, by decide, gm6 111 (by decide +kernel), rfl⟩
theorem fpX13_130 : jFP RX13 130 12 9 .int := ⟨(RX13, TX13, 51), rfl, by decide, gm6 111 (by decide +kernel), rfl, rfl, by decide +kernel⟩
theorem flX13_133 : jFL RX13 133 12 13 := ⟨(RX13, TX13, 51), rfl, by decide, gm6 115 (by decide +kernel), rfl⟩
theorem fpX13_133 : jFP RX13 133 12 13 .long := ⟨(RX13, TX13, 51), rfl, by decide, gm6 115 (by decide +kernel), rfl, rfl, by decide +kernel⟩
theorem flX13_137 : jFL RX13 137 12 8 := ⟨(RX13, TX13, 51), rfl, by decide, gm6 110 (by decide +kernel), rfl⟩
theorem fpX13_137 : jFP RX13 137 12 8 .int := ⟨(RX13, TX13, 51), rfl, by decide, gm6 110 (by decide +kernel), rfl, rfl, by decide +kernel⟩
theorem flX13_159 : jFL RX13 159 12 10 := ⟨(RX13, TX13, 51), rfl, by decide, gm6 112 (by decide +kernel), rfl⟩
theorem fpX13_159 : jFP RX13 159 12 10 .int := ⟨(RX13, TX13, 51), rfl, by decide, gm6 112 (by decide +kernel), rfl, rfl, by decide +kernel⟩
theorem flX13_162 : jFL RX13 162 12 11 := ⟨(RX13, TX13, 51), rfl, by decide, gm6 113 (by decide +kernel), rfl⟩
theorem fpX13_162 : jFP RX13 162 12 11 .int := ⟨(RX13, TX13, 51), rfl, by decide, gm6 113 (by decide +kernel), rfl, rfl, by decide +kernel⟩
theorem flX13_172 : jFL RX13 172 12 14 := ⟨(RX13, TX13, 51), rfl, by decide, gm6 116 (by decide +kernel), rfl⟩
theorem fpX13_172 : jFP RX13 172 12 14 .int := ⟨(RX13, TX13, 51), rfl, by decide, gm6 116 (by decide +kernel), rfl, rfl, by decide +kernel⟩
theorem flX13_249 : jFL RX13 249 12 12 := ⟨(RX13, TX13, 51), rfl, by decide, gm6 114 (by decide +kernel), rfl⟩
theorem fpX13_249 : jFP RX13 249 12 12 .int := ⟨(RX13, TX13, 51), rfl, by decide, gm6 114 (by decide +kernel), rfl, rfl, by decide +kernel⟩
theorem flX13_273 : jFL RX13 273 12 27 := ⟨(RX13, TX13, 51), rfl, by decide, gm6 129 (by decide +kernel), rfl⟩
theorem fpX13_273 : jFP RX13 273 12 27 .int := ⟨(RX13, TX13, 51), rfl, by decide, gm6 129 (by decide +kernel), rfl, rfl, by decide +kernel⟩
theorem flX13_355 : jFL RX13 355 12 33 := ⟨(RX13, TX13, 51), rfl, by decide, gm6 135 (by decide +kernel), rfl⟩
theorem fpX13_355 : jFP RX13 355 12 33 .int := ⟨(RX13, TX13, 51), rfl, by decide, gm6 135 (by decide +kernel), rfl, rfl, by decide +kernel⟩
theorem flX13_377 : jFL RX13 377 12 34 := ⟨(RX13, TX13, 51), rfl, by decide, gm6 136 (by decide +kernel), rfl⟩
theorem fpX13_377 : jFP RX13 377 12 34 .int := ⟨(RX13, TX13, 51), rfl, by decide, gm6 136 (by decide +kernel), rfl, rfl, by decide +kernel⟩
theorem flX13_399 : jFL RX13 399 12 36 := ⟨(RX13, TX13, 51), rfl, by decide, gm6 138 (by decide +kernel), rfl⟩
theorem fpX13_399 : jFP RX13 399 12 36 .int := ⟨(RX13, TX13, 51), rfl, by decide, gm6 138 (by decide +kernel), rfl, rfl, by decide +kernel⟩
theorem flX13_408 : jFL RX13 408 12 37 := ⟨(RX13, TX13, 51), rfl, by decide, gm6 139 (by decide +kernel), rfl⟩
theorem fpX13_408 : jFP RX13 408 12 37 .int := ⟨(RX13, TX13, 51), rfl, by decide, gm6 139 (by decide +kernel), rfl, rfl, by decide +kernel⟩
theorem flX13_447 : jFL RX13 447 12 46 := ⟨(RX13, TX13, 51), rfl, by decide, gm6 148 (by decide +kernel), rfl⟩
theorem fpX13_447 : jFP RX13 447 12 46 .int := ⟨(RX13, TX13, 51), rfl, by decide, gm6 148 (by decide +kernel), rfl, rfl, by decide +kernel⟩
theorem flX13_453 : jFL RX13 453 12 49 := ⟨(RX13, TX13, 51), rfl, by decide, gm6 151 (by decide +kernel), rfl⟩
theorem fpX13_453 : jFP RX13 453 12 49 .int := ⟨(RX13, TX13, 51), rfl, by decide, gm6 151 (by decide +kernel), rfl, rfl, by decide +kernel⟩
theorem flX13_463 : jFL RX13 463 12 47 := ⟨(RX13, TX13, 51), rfl, by decide, gm6 149 (by decide +kernel), rfl⟩
theorem fpX13_463 : jFP RX13 463 12 47 .int := ⟨(RX13, TX13, 51), rfl, by decide, gm6 149 (by decide +kernel), rfl, rfl, by decide +kernel⟩
theorem flX13_466 : jFL RX13 466 12 48 := ⟨(RX13, TX13, 51), rfl, by decide, gm6 150 (by decide +kernel), rfl⟩
theorem fpX13_466 : jFP RX13 466 12 48 .int := ⟨(RX13, TX13, 51), rfl, by decide, gm6 150 (by decide +kernel), rfl, rfl, by decide +kernel⟩
theorem flX13_483 : jFL RX13 483 12 50 := ⟨(RX13, TX13, 51), rfl, by decide, gm6 152 (by decide +kernel), rfl⟩
theorem fpX13_483 : jFP RX13 483 12 50 .int := ⟨(RX13, TX13, 51), rfl, by decide, gm6 152 (by decide +kernel), rfl, rfl, by decide +kernel⟩
theorem mlX12_92 : Cond.methodLink RX12 92 yX2_hasRoom ∈ lw_good := gm2 150 (by decide +kernel)
theorem mlX12_96 : Cond.methodLink RX12 96 yX2_putFour ∈ lw_good := gm2 154 (by decide +kernel)
theorem mlX12_102 : Cond.methodLink RX12 102 yX8_open ∈ lw_good := gm2 170 (by decide +kernel)
theorem mlX12_109 : Cond.methodLink RX12 109 yX1_readSize ∈ lw_good := gm3 12 (by decide +kernel)
theorem mlX12_115 : Cond.methodLink RX12 115 yX8_isFine ∈ lw_good := gm3 36 (by decide +kernel)
theorem mlX12_122 : Cond.methodLink RX12 122 yX1_readLine ∈ lw_good := gm3 40 (by decide +kernel)
theorem mlX12_132 : Cond.methodLink RX12 132 yX12_hasFault ∈ lw_good := gm3 127 (by decide +kernel)
theorem mlX12_138 : Cond.methodLink RX12 138 yX1_copyFrom ∈ lw_good := gm3 131 (by decide +kernel)
theorem mlX12_158 : Cond.methodLink RX12 158 yX9_clear ∈ lw_good := gm3 143 (by decide +kernel)
theorem mlX12_163 : Cond.methodLink RX12 163 yX1_pegAt ∈ lw_good := gm3 159 (by decide +kernel)
theorem mlX12_171 : Cond.methodLink RX12 171 yX0_has ∈ lw_good := gm3 206 (by decide +kernel)
theorem mlX12_177 : Cond.methodLink RX12 177 yX0_sizeOf ∈ lw_good := gm5 44 (by decide +kernel)
theorem mlX12_180 : Cond.methodLink RX12 180 yX0_areaOf ∈ lw_good := gm6 86 (by decide +kernel)
theorem mlX12_183 : Cond.methodLink RX12 183 yX0_placesOn ∈ lw_good := gm6 87 (by decide +kernel)
theorem mlX12_186 : Cond.methodLink RX12 186 yX0_placesWithin ∈ lw_good := gm6 88 (by decide +kernel)
theorem mlX12_189 : Cond.methodLink RX12 189 yX0_bentIn ∈ lw_good := gm6 89 (by decide +kernel)
theorem mlX12_192 : Cond.methodLink RX12 192 yX0_rightOnes ∈ lw_good := gm6 90 (by decide +kernel)
theorem mlX12_195 : Cond.methodLink RX12 195 yX12_crossingsOfAll ∈ lw_good := gm6 91 (by decide +kernel)
theorem mlX12_199 : Cond.methodLink RX12 199 yX0_meetings ∈ lw_good := gm3 207 (by decide +kernel)
theorem mlX12_203 : Cond.methodLink RX12 203 yX0_hasCorner ∈ lw_good := gm3 164 (by decide +kernel)
theorem mlX12_207 : Cond.methodLink RX12 207 yX0_at ∈ lw_good := gm3 173 (by decide +kernel)
theorem mlX12_211 : Cond.methodLink RX12 211 yX7_square ∈ lw_good := gm3 178 (by decide +kernel)
theorem mlX12_216 : Cond.methodLink RX12 216 yX0_holdsWithin ∈ lw_good := gm3 185 (by decide +kernel)
theorem mlX12_219 : Cond.methodLink RX12 219 yX0_holdsOn ∈ lw_good := gm3 201 (by decide +kernel)
theorem mlX12_222 : Cond.methodLink RX12 222 yX0_liesIn ∈ lw_good := gm3 216 (by decide +kernel)
theorem mlX12_225 : Cond.methodLink RX12 225 yX10_areAlike ∈ lw_good := gm3 226 (by decide +kernel)
theorem mlX12_229 : Cond.methodLink RX12 229 yX10_tell ∈ lw_good := gm4 29 (by decide +kernel)
theorem mlX12_238 : Cond.methodLink RX12 238 yX0_rimOf ∈ lw_good := gm4 41 (by decide +kernel)
theorem mlX12_241 : Cond.methodLink RX12 241 yX10_isEven ∈ lw_good := gm4 51 (by decide +kernel)
theorem mlX12_245 : Cond.methodLink RX12 245 yX0_widest ∈ lw_good := gm4 59 (by decide +kernel)
theorem mlX12_248 : Cond.methodLink RX12 248 yX0_anyHolds ∈ lw_good := gm4 68 (by decide +kernel)
theorem mlX12_251 : Cond.methodLink RX12 251 yX0_fill ∈ lw_good := gm4 80 (by decide +kernel)
theorem mlX12_255 : Cond.methodLink RX12 255 yX12_putAnew ∈ lw_good := gm4 84 (by decide +kernel)
theorem mlX12_260 : Cond.methodLink RX12 260 yX1_place ∈ lw_good := gm4 100 (by decide +kernel)
theorem mlX12_263 : Cond.methodLink RX12 263 yX1_wrongOf ∈ lw_good := gm4 88 (by decide +kernel)
theorem mlX12_267 : Cond.methodLink RX12 267 yX12_keepPast ∈ lw_good := gm4 89 (by decide +kernel)
theorem mlX12_270 : Cond.methodLink RX12 270 yX0_put ∈ lw_good := gm4 94 (by decide +kernel)
theorem mlX12_274 : Cond.methodLink RX12 274 yX0_holds ∈ lw_good := gm4 105 (by decide +kernel)
theorem mlX12_277 : Cond.methodLink RX12 277 yX0_remove ∈ lw_good := gm4 106 (by decide +kernel)
theorem mlX12_280 : Cond.methodLink RX12 280 yX0_copyFrom ∈ lw_good := gm4 93 (by decide +kernel)
theorem mlX12_283 : Cond.methodLink RX12 283 yX3_readFrom ∈ lw_good := gm4 118 (by decide +kernel)
theorem mlX12_287 : Cond.methodLink RX12 287 yX3_copyFrom ∈ lw_good := gm4 137 (by decide +kernel)
theorem mlX12_290 : Cond.methodLink RX12 290 yX3_isClosed ∈ lw_good := gm4 146 (by decide +kernel)
theorem mlX12_293 : Cond.methodLink RX12 293 yX3_layOut ∈ lw_good := gm4 162 (by decide +kernel)
theorem mlX12_297 : Cond.methodLink RX12 297 yX1_wrongAlone ∈ lw_good := gm4 167 (by decide +kernel)
theorem mlX12_301 : Cond.methodLink RX12 301 yX0_add ∈ lw_good := gm4 172 (by decide +kernel)
theorem mlX12_304 : Cond.methodLink RX12 304 yX3_takeShortest ∈ lw_good := gm4 177 (by decide +kernel)
theorem mlX12_308 : Cond.methodLink RX12 308 yX3_tell ∈ lw_good := gm4 192 (by decide +kernel)
theorem mlX12_311 : Cond.methodLink RX12 311 yX2_at ∈ lw_good := gm4 208 (by decide +kernel)
theorem mlX12_313 : Cond.methodLink RX12 313 yX12_isCount ∈ lw_good := gm4 213 (by decide +kernel)
theorem mlX12_316 : Cond.methodLink RX12 316 yX1_isTold ∈ lw_good := gm4 216 (by decide +kernel)
theorem mlX12_319 : Cond.methodLink RX12 319 yX6_findTriangle ∈ lw_good := gm4 220 (by decide +kernel)
theorem mlX12_323 : Cond.methodLink RX12 323 yX6_areaWith ∈ lw_good := gm5 3 (by decide +kernel)
theorem mlX12_326 : Cond.methodLink RX12 326 yX6_findCut ∈ lw_good := gm5 8 (by decide +kernel)
theorem mlX12_330 : Cond.methodLink RX12 330 yX5_fewest ∈ lw_good := gm5 45 (by decide +kernel)
theorem mlX12_334 : Cond.methodLink RX12 334 yX4_begin ∈ lw_good := gm5 91 (by decide +kernel)
theorem mlX12_338 : Cond.methodLink RX12 338 yJ9_min_7cf53 ∈ lw_good := gm5 103 (by decide +kernel)
theorem mlX12_343 : Cond.methodLink RX12 343 yJ9_max_7cf53 ∈ lw_good := gm5 104 (by decide +kernel)
theorem mlX12_346 : Cond.methodLink RX12 346 yX4_pairOf ∈ lw_good := gm5 105 (by decide +kernel)
theorem mlX12_349 : Cond.methodLink RX12 349 yX4_openOn ∈ lw_good := gm5 109 (by decide +kernel)
theorem mlX12_353 : Cond.methodLink RX12 353 yX4_codeOf ∈ lw_good := gm5 115 (by decide +kernel)
theorem mlX12_356 : Cond.methodLink RX12 356 yX11_addLine ∈ lw_good := gm5 119 (by decide +kernel)
theorem mlX12_359 : Cond.methodLink RX12 359 yX4_choice ∈ lw_good := gm5 127 (by decide +kernel)
theorem mlX12_363 : Cond.methodLink RX12 363 yX4_winning ∈ lw_good := gm5 135 (by decide +kernel)
theorem mlX12_367 : Cond.methodLink RX12 367 yX9_readAny ∈ lw_good := gm5 152 (by decide +kernel)
theorem mlX12_371 : Cond.methodLink RX12 371 yX8_fail ∈ lw_good := gm5 187 (by decide +kernel)
theorem mlX12_374 : Cond.methodLink RX12 374 yX9_copyFrom ∈ lw_good := gm5 188 (by decide +kernel)
theorem mlX12_383 : Cond.methodLink RX12 383 yX9_holdsOf ∈ lw_good := gm5 197 (by decide +kernel)
theorem mlX12_387 : Cond.methodLink RX12 387 yX11_copyFrom ∈ lw_good := gm6 1 (by decide +kernel)
theorem cpX0_25 : jCopyW RX0 25 := ⟨gm3 142 (by decide +kernel), gm3 137 (by decide +kernel), gm3 136 (by decide +kernel), gm1 20 (by decide +kernel)⟩
theorem mlX0_31 : Cond.methodLink RX0 31 yX0_has ∈ lw_good := gm3 168 (by decide +kernel)
theorem mlX0_35 : Cond.methodLink RX0 35 yX0_sizeOf ∈ lw_good := gm3 172 (by decide +kernel)
theorem mlX0_39 : Cond.methodLink RX0 39 yX0_at ∈ lw_good := gm3 193 (by decide +kernel)
theorem mlX0_43 : Cond.methodLink RX0 43 yX0_put ∈ lw_good := gm3 123 (by decide +kernel)
theorem mlX0_47 : Cond.methodLink RX0 47 yX7_shoelace ∈ lw_good := gm5 22 (by decide +kernel)
theorem mlX0_52 : Cond.methodLink RX0 52 yX0_signedArea ∈ lw_good := gm5 210 (by decide +kernel)
theorem mlX0_55 : Cond.methodLink RX0 55 yJ9_abs_0f7a4 ∈ lw_good := gm5 219 (by decide +kernel)
theorem mlX0_60 : Cond.methodLink RX0 60 yX7_parts ∈ lw_good := gm5 224 (by decide +kernel)
theorem mlX0_63 : Cond.methodLink RX0 63 yX0_areaOf ∈ lw_good := gm5 229 (by decide +kernel)
theorem mlX0_66 : Cond.methodLink RX0 66 yX0_placesOn ∈ lw_good := gm5 230 (by decide +kernel)
theorem mlX0_69 : Cond.methodLink RX0 69 yX7_turn ∈ lw_good := gm5 211 (by decide +kernel)
theorem mlX0_73 : Cond.methodLink RX0 73 yX7_along ∈ lw_good := gm5 236 (by decide +kernel)
theorem mlX0_76 : Cond.methodLink RX0 76 yX7_isOn ∈ lw_good := gm3 194 (by decide +kernel)
theorem mlX0_80 : Cond.methodLink RX0 80 yX0_holdsOn ∈ lw_good := gm3 189 (by decide +kernel)
theorem mlX0_84 : Cond.methodLink RX0 84 yX0_encloses ∈ lw_good := gm3 197 (by decide +kernel)
theorem mlX0_87 : Cond.methodLink RX0 87 yX0_holds ∈ lw_good := gm4 72 (by decide +kernel)
theorem mlX0_90 : Cond.methodLink RX0 90 yX7_meet ∈ lw_good := gm3 211 (by decide +kernel)
theorem mlX0_94 : Cond.methodLink RX0 94 yX0_meetings ∈ lw_good := gm3 220 (by decide +kernel)
theorem mlX0_97 : Cond.methodLink RX0 97 yX0_holdsWithin ∈ lw_good := gm3 221 (by decide +kernel)
theorem mlX0_100 : Cond.methodLink RX0 100 yJ9_min_7cf53 ∈ lw_good := gm4 45 (by decide +kernel)
theorem mlX0_103 : Cond.methodLink RX0 103 yJ9_max_7cf53 ∈ lw_good := gm4 46 (by decide +kernel)
theorem mlX0_106 : Cond.methodLink RX0 106 yX7_square ∈ lw_good := gm4 63 (by decide +kernel)
theorem cpX1_49 : jCopyW RX1 49 := ⟨gm3 135 (by decide +kernel), gm3 137 (by decide +kernel), gm3 136 (by decide +kernel), gm1 20 (by decide +kernel)⟩
theorem mlX1_55 : Cond.methodLink RX1 55 yX0_copyFrom ∈ lw_good := gm3 138 (by decide +kernel)
theorem mlX1_59 : Cond.methodLink RX1 59 yX1_isOut ∈ lw_good := gm3 61 (by decide +kernel)
theorem mlX1_65 : Cond.methodLink RX1 65 yX1_wrongAlone ∈ lw_good := gm3 90 (by decide +kernel)
theorem mlX1_69 : Cond.methodLink RX1 69 yX1_meetsOthers ∈ lw_good := gm3 107 (by decide +kernel)
theorem mlX1_73 : Cond.methodLink RX1 73 yX1_pegAt ∈ lw_good := gm3 57 (by decide +kernel)
theorem mlX1_77 : Cond.methodLink RX1 77 yX7_turn ∈ lw_good := gm3 94 (by decide +kernel)
theorem mlX1_83 : Cond.methodLink RX1 83 yX1_isKnotted ∈ lw_good := gm3 97 (by decide +kernel)
theorem mlX1_87 : Cond.methodLink RX1 87 yX7_meet ∈ lw_good := gm3 100 (by decide +kernel)
theorem mlX1_94 : Cond.methodLink RX1 94 yX0_sizeOf ∈ lw_good := gm3 111 (by decide +kernel)
theorem mlX1_97 : Cond.methodLink RX1 97 yX0_at ∈ lw_good := gm3 115 (by decide +kernel)
theorem mlX1_101 : Cond.methodLink RX1 101 yX8_expect ∈ lw_good := gm3 16 (by decide +kernel)
theorem mlX1_107 : Cond.methodLink RX1 107 yX8_number ∈ lw_good := gm3 28 (by decide +kernel)
theorem mlX1_113 : Cond.methodLink RX1 113 yX8_fail ∈ lw_good := gm3 44 (by decide +kernel)
theorem mlX1_116 : Cond.methodLink RX1 116 yX8_step ∈ lw_good := gm3 45 (by decide +kernel)
theorem mlX1_119 : Cond.methodLink RX1 119 yX1_readOut ∈ lw_good := gm3 46 (by decide +kernel)
theorem mlX1_123 : Cond.methodLink RX1 123 yX1_readBand ∈ lw_good := gm3 69 (by decide +kernel)
theorem mlX1_127 : Cond.methodLink RX1 127 yX8_checkNumber ∈ lw_good := gm3 50 (by decide +kernel)
theorem mlX1_131 : Cond.methodLink RX1 131 yX8_isFine ∈ lw_good := gm3 51 (by decide +kernel)
theorem mlX1_138 : Cond.methodLink RX1 138 yX1_place ∈ lw_good := gm3 52 (by decide +kernel)
theorem mlX1_142 : Cond.methodLink RX1 142 yX1_takeOut ∈ lw_good := gm3 65 (by decide +kernel)
theorem mlX1_145 : Cond.methodLink RX1 145 yX1_readName ∈ lw_good := gm3 73 (by decide +kernel)
theorem mlX1_148 : Cond.methodLink RX1 148 yX1_readCorners ∈ lw_good := gm3 82 (by decide +kernel)
theorem mlX1_152 : Cond.methodLink RX1 152 yX8_sees ∈ lw_good := gm3 77 (by decide +kernel)
theorem mlX1_155 : Cond.methodLink RX1 155 yX1_wrongOf ∈ lw_good := gm3 86 (by decide +kernel)
theorem mlX1_159 : Cond.methodLink RX1 159 yX0_add ∈ lw_good := gm3 119 (by decide +kernel)
theorem mlX1_166 : Cond.methodLink RX1 166 yX1_idOf ∈ lw_good := gm3 78 (by decide +kernel)
theorem mlX2_15 : Cond.methodLink RX2 15 yJ9_max_7cf53 ∈ lw_good := gm1 46 (by decide +kernel)
theorem mlX2_25 : Cond.methodLink RX2 25 yX2_put ∈ lw_good := gm2 158 (by decide +kernel)
theorem mlX2_29 : Cond.methodLink RX2 29 yJ9_abs_0f7a4 ∈ lw_good := gm4 201 (by decide +kernel)
theorem cpX3_28 : jCopyW RX3 28 := ⟨gm4 141 (by decide +kernel), gm3 137 (by decide +kernel), gm3 136 (by decide +kernel), gm1 20 (by decide +kernel)⟩
theorem mlX3_34 : Cond.methodLink RX3 34 yX8_expect ∈ lw_good := gm4 122 (by decide +kernel)
theorem mlX3_45 : Cond.methodLink RX3 45 yX8_number ∈ lw_good := gm4 123 (by decide +kernel)
theorem mlX3_52 : Cond.methodLink RX3 52 yX8_isFine ∈ lw_good := gm4 124 (by decide +kernel)
theorem mlX3_59 : Cond.methodLink RX3 59 yX3_readBy ∈ lw_good := gm4 125 (by decide +kernel)
theorem mlX3_63 : Cond.methodLink RX3 63 yX8_sees ∈ lw_good := gm4 129 (by decide +kernel)
theorem mlX3_67 : Cond.methodLink RX3 67 yX8_fail ∈ lw_good := gm4 130 (by decide +kernel)
theorem mlX3_70 : Cond.methodLink RX3 70 yX8_step ∈ lw_good := gm4 131 (by decide +kernel)
theorem mlX3_73 : Cond.methodLink RX3 73 yX8_signedDigit ∈ lw_good := gm4 132 (by decide +kernel)
theorem mlX3_77 : Cond.methodLink RX3 77 yX3_sumX ∈ lw_good := gm4 150 (by decide +kernel)
theorem mlX3_80 : Cond.methodLink RX3 80 yX3_sumY ∈ lw_good := gm4 154 (by decide +kernel)
theorem mlX3_83 : Cond.methodLink RX3 83 yX3_take ∈ lw_good := gm4 181 (by decide +kernel)
theorem mlX3_87 : Cond.methodLink RX3 87 yX3_signs ∈ lw_good := gm4 188 (by decide +kernel)
theorem mlX3_90 : Cond.methodLink RX3 90 yX0_sizeOf ∈ lw_good := gm4 185 (by decide +kernel)
theorem mlX3_96 : Cond.methodLink RX3 96 yJ9_min_7cf53 ∈ lw_good := gm4 186 (by decide +kernel)
theorem mlX3_101 : Cond.methodLink RX3 101 yX0_at ∈ lw_good := gm4 187 (by decide +kernel)
theorem mlX3_109 : Cond.methodLink RX3 109 yX2_put ∈ lw_good := gm4 196 (by decide +kernel)
theorem mlX3_112 : Cond.methodLink RX3 112 yX2_putNumber ∈ lw_good := gm4 197 (by decide +kernel)
theorem mlX3_115 : Cond.methodLink RX3 115 yX1_place ∈ lw_good := gm4 166 (by decide +kernel)
theorem mlX4_26 : Cond.methodLink RX4 26 yX1_pegAt ∈ lw_good := gm5 95 (by decide +kernel)
theorem mlX4_32 : Cond.methodLink RX4 32 yX7_parts ∈ lw_good := gm5 96 (by decide +kernel)
theorem mlX4_38 : Cond.methodLink RX4 38 yX4_findHindered ∈ lw_good := gm5 97 (by decide +kernel)
theorem mlX4_41 : Cond.methodLink RX4 41 yX1_isTold ∈ lw_good := gm5 102 (by decide +kernel)
theorem mlX4_45 : Cond.methodLink RX4 45 yX7_meet ∈ lw_good := gm5 101 (by decide +kernel)
theorem mlX4_57 : Cond.methodLink RX4 57 yX4_pairOf ∈ lw_good := gm5 113 (by decide +kernel)
theorem mlX4_62 : Cond.methodLink RX4 62 yX4_winningPair ∈ lw_good := gm5 139 (by decide +kernel)
theorem mlX4_66 : Cond.methodLink RX4 66 yX4_codeOf ∈ lw_good := gm5 143 (by decide +kernel)
theorem mlX5_42 : Cond.methodLink RX5 42 yX1_pegAt ∈ lw_good := gm5 49 (by decide +kernel)
theorem mlX5_50 : Cond.methodLink RX5 50 yX5_numberOf ∈ lw_good := gm5 50 (by decide +kernel)
theorem mlX5_54 : Cond.methodLink RX5 54 yJ7_fill_d0a16 ∈ lw_good := gm5 64 (by decide +kernel)
theorem mlX5_60 : Cond.methodLink RX5 60 yX5_mark ∈ lw_good := gm5 67 (by decide +kernel)
theorem mlX5_64 : Cond.methodLink RX5 64 yX5_isMarked ∈ lw_good := gm5 70 (by decide +kernel)
theorem mlX5_68 : Cond.methodLink RX5 68 yX5_spread ∈ lw_good := gm5 73 (by decide +kernel)
theorem mlX5_72 : Cond.methodLink RX5 72 yX0_at ∈ lw_good := gm5 54 (by decide +kernel)
theorem mlX5_78 : Cond.methodLink RX5 78 yX5_indexOf ∈ lw_good := gm5 55 (by decide +kernel)
theorem mlX5_81 : Cond.methodLink RX5 81 yX5_number ∈ lw_good := gm5 59 (by decide +kernel)
theorem mlX5_85 : Cond.methodLink RX5 85 yJ9_max_7cf53 ∈ lw_good := gm5 62 (by decide +kernel)
theorem mlX5_90 : Cond.methodLink RX5 90 yJ9_min_7cf53 ∈ lw_good := gm5 63 (by decide +kernel)
theorem mlX5_93 : Cond.methodLink RX5 93 yX5_moveFirst ∈ lw_good := gm5 77 (by decide +kernel)
theorem cpX5_97 : jCopyW RX5 97 := ⟨gm5 86 (by decide +kernel), gm3 137 (by decide +kernel), gm3 136 (by decide +kernel), gm1 20 (by decide +kernel)⟩
theorem mlX5_103 : Cond.methodLink RX5 103 yX5_reach ∈ lw_good := gm5 81 (by decide +kernel)
theorem mlX5_106 : Cond.methodLink RX5 106 yX7_turn ∈ lw_good := gm5 85 (by decide +kernel)
theorem mlX6_19 : Cond.methodLink RX6 19 yX6_takePegs ∈ lw_good := gm4 224 (by decide +kernel)
theorem mlX6_23 : Cond.methodLink RX6 23 yX6_areaWith ∈ lw_good := gm4 229 (by decide +kernel)
theorem mlX6_35 : Cond.methodLink RX6 35 yX6_placesOn ∈ lw_good := gm4 232 (by decide +kernel)
theorem mlX6_39 : Cond.methodLink RX6 39 yX7_parts ∈ lw_good := gm4 235 (by decide +kernel)
theorem mlX6_44 : Cond.methodLink RX6 44 yX1_pegAt ∈ lw_good := gm4 228 (by decide +kernel)
theorem mlX6_48 : Cond.methodLink RX6 48 yX6_takeAlong ∈ lw_good := gm5 12 (by decide +kernel)
theorem mlX6_52 : Cond.methodLink RX6 52 yX0_signedArea ∈ lw_good := gm5 18 (by decide +kernel)
theorem mlX6_57 : Cond.methodLink RX6 57 yX7_shoelace ∈ lw_good := gm5 25 (by decide +kernel)
theorem mlX6_60 : Cond.methodLink RX6 60 yX6_runsInside ∈ lw_good := gm5 26 (by decide +kernel)
theorem mlX6_64 : Cond.methodLink RX6 64 yX0_sizeOf ∈ lw_good := gm5 16 (by decide +kernel)
theorem mlX6_67 : Cond.methodLink RX6 67 yX0_at ∈ lw_good := gm5 17 (by decide +kernel)
theorem mlX6_70 : Cond.methodLink RX6 70 yX6_isStopped ∈ lw_good := gm5 29 (by decide +kernel)
theorem mlX6_74 : Cond.methodLink RX6 74 yX0_encloses ∈ lw_good := gm5 39 (by decide +kernel)
theorem mlX6_78 : Cond.methodLink RX6 78 yX7_isOn ∈ lw_good := gm5 32 (by decide +kernel)
theorem mlX6_81 : Cond.methodLink RX6 81 yX6_leadsAlong ∈ lw_good := gm5 33 (by decide +kernel)
theorem mlX6_84 : Cond.methodLink RX6 84 yX7_meet ∈ lw_good := gm5 38 (by decide +kernel)
theorem mlX6_88 : Cond.methodLink RX6 88 yX7_turn ∈ lw_good := gm5 36 (by decide +kernel)
theorem mlX6_91 : Cond.methodLink RX6 91 yX7_along ∈ lw_good := gm5 37 (by decide +kernel)
theorem mlX7_9 : Cond.methodLink RX7 9 yX7_along ∈ lw_good := gm3 104 (by decide +kernel)
theorem mlX7_15 : Cond.methodLink RX7 15 yJ9_abs_0f7a4 ∈ lw_good := gm4 238 (by decide +kernel)
theorem mlX7_21 : Cond.methodLink RX7 21 yX7_turn ∈ lw_good := gm3 103 (by decide +kernel)
theorem mlX8_46 : Cond.methodLink RX8 46 yX8_step ∈ lw_good := gm2 174 (by decide +kernel)
theorem mlX8_49 : Cond.methodLink RX8 49 yX8_skipBlanks ∈ lw_good := gm2 178 (by decide +kernel)
theorem mlX8_55 : Cond.methodLink RX8 55 yX2_at ∈ lw_good := gm2 182 (by decide +kernel)
theorem mlX8_59 : Cond.methodLink RX8 59 yX8_isLetter ∈ lw_good := gm2 186 (by decide +kernel)
theorem mlX8_63 : Cond.methodLink RX8 63 yX8_isDigit ∈ lw_good := gm2 189 (by decide +kernel)
theorem mlX8_66 : Cond.methodLink RX8 66 yX8_readRun ∈ lw_good := gm2 192 (by decide +kernel)
theorem mlX8_69 : Cond.methodLink RX8 69 yX8_isSign ∈ lw_good := gm3 9 (by decide +kernel)
theorem mlX8_74 : Cond.methodLink RX8 74 yX8_kindOf ∈ lw_good := gm2 197 (by decide +kernel)
theorem mlX8_89 : Cond.methodLink RX8 89 yX8_sees ∈ lw_good := gm3 20 (by decide +kernel)
theorem mlX8_92 : Cond.methodLink RX8 92 yX8_fail ∈ lw_good := gm3 24 (by decide +kernel)
theorem mlX8_95 : Cond.methodLink RX8 95 yX8_checkNumber ∈ lw_good := gm3 32 (by decide +kernel)
theorem mlX8_99 : Cond.methodLink RX8 99 yX8_number ∈ lw_good := gm4 136 (by decide +kernel)
theorem cpX9_22 : jCopyW RX9 22 := ⟨gm5 192 (by decide +kernel), gm3 137 (by decide +kernel), gm3 136 (by decide +kernel), gm1 20 (by decide +kernel)⟩
theorem mlX9_28 : Cond.methodLink RX9 28 yX9_readAll ∈ lw_good := gm5 156 (by decide +kernel)
theorem mlX9_32 : Cond.methodLink RX9 32 yX8_sees ∈ lw_good := gm5 177 (by decide +kernel)
theorem mlX9_38 : Cond.methodLink RX9 38 yX8_step ∈ lw_good := gm5 166 (by decide +kernel)
theorem mlX9_41 : Cond.methodLink RX9 41 yX9_put ∈ lw_good := gm5 167 (by decide +kernel)
theorem mlX9_45 : Cond.methodLink RX9 45 yX9_readOne ∈ lw_good := gm5 160 (by decide +kernel)
theorem mlX9_51 : Cond.methodLink RX9 51 yX8_fail ∈ lw_good := gm5 164 (by decide +kernel)
theorem mlX9_55 : Cond.methodLink RX9 55 yX8_isFine ∈ lw_good := gm5 165 (by decide +kernel)
theorem mlX9_59 : Cond.methodLink RX9 59 yX9_readAny ∈ lw_good := gm5 171 (by decide +kernel)
theorem mlX9_62 : Cond.methodLink RX9 62 yX8_expect ∈ lw_good := gm5 172 (by decide +kernel)
theorem mlX9_65 : Cond.methodLink RX9 65 yX9_readBandName ∈ lw_good := gm5 173 (by decide +kernel)
theorem mlX9_68 : Cond.methodLink RX9 68 yX9_readMeasure ∈ lw_good := gm5 183 (by decide +kernel)
theorem mlX9_76 : Cond.methodLink RX9 76 yX1_idOf ∈ lw_good := gm5 178 (by decide +kernel)
theorem mlX9_86 : Cond.methodLink RX9 86 yX0_withId ∈ lw_good := gm5 179 (by decide +kernel)
theorem mlX9_95 : Cond.methodLink RX9 95 yX9_fitsOne ∈ lw_good := gm5 201 (by decide +kernel)
theorem mlX9_99 : Cond.methodLink RX9 99 yX0_liesIn ∈ lw_good := gm5 204 (by decide +kernel)
theorem mlX9_103 : Cond.methodLink RX9 103 yX10_areAlike ∈ lw_good := gm5 205 (by decide +kernel)
theorem mlX9_109 : Cond.methodLink RX9 109 yX0_bentIn ∈ lw_good := gm5 206 (by decide +kernel)
theorem mlX9_112 : Cond.methodLink RX9 112 yX9_measureOf ∈ lw_good := gm5 212 (by decide +kernel)
theorem mlX9_116 : Cond.methodLink RX9 116 yX0_areaOf ∈ lw_good := gm5 215 (by decide +kernel)
theorem mlX9_119 : Cond.methodLink RX9 119 yX0_placesOn ∈ lw_good := gm5 220 (by decide +kernel)
theorem mlX9_122 : Cond.methodLink RX9 122 yX0_placesWithin ∈ lw_good := gm5 225 (by decide +kernel)
theorem mlX9_125 : Cond.methodLink RX9 125 yX0_sizeOf ∈ lw_good := gm5 231 (by decide +kernel)
theorem mlX9_128 : Cond.methodLink RX9 128 yX0_rightOnes ∈ lw_good := gm5 232 (by decide +kernel)
theorem mlX10_31 : Cond.methodLink RX10 31 yX10_lastPose ∈ lw_good := gm3 230 (by decide +kernel)
theorem mlX10_35 : Cond.methodLink RX10 35 yX10_least ∈ lw_good := gm3 233 (by decide +kernel)
theorem mlX10_39 : Cond.methodLink RX10 39 yX10_areSame ∈ lw_good := gm4 21 (by decide +kernel)
theorem mlX10_43 : Cond.methodLink RX10 43 yX0_sizeOf ∈ lw_good := gm3 237 (by decide +kernel)
theorem mlX10_48 : Cond.methodLink RX10 48 yJ9_min_7cf53 ∈ lw_good := gm3 238 (by decide +kernel)
theorem mlX10_54 : Cond.methodLink RX10 54 yX10_takePose ∈ lw_good := gm4 1 (by decide +kernel)
theorem mlX10_58 : Cond.methodLink RX10 58 yX10_isLess ∈ lw_good := gm4 6 (by decide +kernel)
theorem mlX10_62 : Cond.methodLink RX10 62 yX10_fill ∈ lw_good := gm4 17 (by decide +kernel)
theorem mlX10_66 : Cond.methodLink RX10 66 yX0_at ∈ lw_good := gm4 5 (by decide +kernel)
theorem mlX10_69 : Cond.methodLink RX10 69 yJ9_floorMod_7cf53 ∈ lw_good := gm4 14 (by decide +kernel)
theorem mlX10_72 : Cond.methodLink RX10 72 yX10_numberAt ∈ lw_good := gm4 10 (by decide +kernel)
theorem mlX11_44 : Cond.methodLink RX11 44 yX1_copyFrom ∈ lw_good := gm6 5 (by decide +kernel)
theorem mlX11_48 : Cond.methodLink RX11 48 yX3_copyFrom ∈ lw_good := gm6 6 (by decide +kernel)
theorem cpX11_51 : jCopyW RX11 51 := ⟨gm6 7 (by decide +kernel), gm3 137 (by decide +kernel), gm3 136 (by decide +kernel), gm1 20 (by decide +kernel)⟩
theorem mlX11_57 : Cond.methodLink RX11 57 yX9_copyFrom ∈ lw_good := gm6 8 (by decide +kernel)
theorem mlX13_101 : Cond.methodLink RX13 101 yX13_come ∈ lw_good := gm7 24 (by decide +kernel)
theorem mlX13_105 : Cond.methodLink RX13 105 yX13_size ∈ lw_good := gm7 213 (by decide +kernel)
theorem mlX13_123 : Cond.methodLink RX13 123 yX13_isLetter ∈ lw_good := gm7 48 (by decide +kernel)
theorem mlX13_127 : Cond.methodLink RX13 127 yX13_isDigit ∈ lw_good := gm7 51 (by decide +kernel)
theorem mlX13_140 : Cond.methodLink RX13 140 yX13_tapeAt ∈ lw_good := gm7 54 (by decide +kernel)
theorem mlX13_147 : Cond.methodLink RX13 147 yX13_spelt ∈ lw_good := gm7 71 (by decide +kernel)
theorem mlX13_151 : Cond.methodLink RX13 151 yX13_on ∈ lw_good := gm7 74 (by decide +kernel)
theorem mlX13_155 : Cond.methodLink RX13 155 yX13_wordOf ∈ lw_good := gm7 68 (by decide +kernel)
theorem mlX13_165 : Cond.methodLink RX13 165 yX13_bad ∈ lw_good := gm7 77 (by decide +kernel)
theorem mlX13_168 : Cond.methodLink RX13 168 yX13_isIn ∈ lw_good := gm7 89 (by decide +kernel)
theorem mlX13_175 : Cond.methodLink RX13 175 yX13_isNumber ∈ lw_good := gm7 85 (by decide +kernel)
theorem mlX13_179 : Cond.methodLink RX13 179 yX13_go ∈ lw_good := gm7 44 (by decide +kernel)
theorem mlX13_182 : Cond.methodLink RX13 182 yX13_isSign ∈ lw_good := gm7 96 (by decide +kernel)
theorem mlX13_185 : Cond.methodLink RX13 185 yX13_take ∈ lw_good := gm7 40 (by decide +kernel)
theorem mlX13_189 : Cond.methodLink RX13 189 yX13_sign ∈ lw_good := gm7 143 (by decide +kernel)
theorem mlX13_192 : Cond.methodLink RX13 192 yX13_turn ∈ lw_good := gm7 140 (by decide +kernel)
theorem mlX13_196 : Cond.methodLink RX13 196 yX13_isBetween ∈ lw_good := gm7 155 (by decide +kernel)
theorem mlX13_199 : Cond.methodLink RX13 199 yX13_isOnSide ∈ lw_good := gm7 152 (by decide +kernel)
theorem mlX13_203 : Cond.methodLink RX13 203 yX13_cornersOf ∈ lw_good := gm7 122 (by decide +kernel)
theorem mlX13_207 : Cond.methodLink RX13 207 yX13_xOf ∈ lw_good := gm7 125 (by decide +kernel)
theorem mlX13_211 : Cond.methodLink RX13 211 yX13_yOf ∈ lw_good := gm7 128 (by decide +kernel)
theorem mlX13_214 : Cond.methodLink RX13 214 yX13_meet ∈ lw_good := gm7 149 (by decide +kernel)
theorem mlX13_218 : Cond.methodLink RX13 218 yX13_isPlace ∈ lw_good := gm7 134 (by decide +kernel)
theorem mlX13_222 : Cond.methodLink RX13 222 yX13_meetSides ∈ lw_good := gm7 146 (by decide +kernel)
theorem mlX13_226 : Cond.methodLink RX13 226 yX13_isPeg ∈ lw_good := gm7 131 (by decide +kernel)
theorem mlX13_229 : Cond.methodLink RX13 229 yX13_turnAt ∈ lw_good := gm7 137 (by decide +kernel)
theorem mlX13_232 : Cond.methodLink RX13 232 yX13_meetsOther ∈ lw_good := gm7 158 (by decide +kernel)
theorem mlX13_235 : Cond.methodLink RX13 235 yX13_readNumber ∈ lw_good := gm7 81 (by decide +kernel)
theorem mlX13_238 : Cond.methodLink RX13 238 yX13_isName ∈ lw_good := gm7 112 (by decide +kernel)
theorem mlX13_242 : Cond.methodLink RX13 242 yX13_findIn ∈ lw_good := gm7 116 (by decide +kernel)
theorem mlX13_246 : Cond.methodLink RX13 246 yX13_wrong ∈ lw_good := gm7 119 (by decide +kernel)
theorem mlX13_252 : Cond.methodLink RX13 252 yX13_isWord ∈ lw_good := gm7 64 (by decide +kernel)
theorem mlX13_255 : Cond.methodLink RX13 255 yX13_readEnd ∈ lw_good := gm7 92 (by decide +kernel)
theorem mlX13_258 : Cond.methodLink RX13 258 yX13_begin ∈ lw_good := gm7 36 (by decide +kernel)
theorem mlX13_261 : Cond.methodLink RX13 261 yX13_readHead ∈ lw_good := gm7 60 (by decide +kernel)
theorem mlX13_264 : Cond.methodLink RX13 264 yX13_readBell ∈ lw_good := gm7 100 (by decide +kernel)
theorem mlX13_267 : Cond.methodLink RX13 267 yX13_readOut ∈ lw_good := gm7 104 (by decide +kernel)
theorem mlX13_270 : Cond.methodLink RX13 270 yX13_readBand ∈ lw_good := gm7 108 (by decide +kernel)
theorem mlX13_276 : Cond.methodLink RX13 276 yX13_bands ∈ lw_good := gm7 185 (by decide +kernel)
theorem mlX13_279 : Cond.methodLink RX13 279 yX13_corners ∈ lw_good := gm7 193 (by decide +kernel)
theorem mlX13_282 : Cond.methodLink RX13 282 yX13_isAt ∈ lw_good := gm7 173 (by decide +kernel)
theorem mlX13_285 : Cond.methodLink RX13 285 yX13_x ∈ lw_good := gm7 205 (by decide +kernel)
theorem mlX13_289 : Cond.methodLink RX13 289 yX13_y ∈ lw_good := gm7 209 (by decide +kernel)
theorem mlX13_292 : Cond.methodLink RX13 292 yX13_signedArea ∈ lw_good := gm7 201 (by decide +kernel)
theorem mlX13_295 : Cond.methodLink RX13 295 yX13_common ∈ lw_good := gm7 220 (by decide +kernel)
theorem mlX13_298 : Cond.methodLink RX13 298 yX13_area ∈ lw_good := gm7 197 (by decide +kernel)
theorem mlX13_301 : Cond.methodLink RX13 301 yX13_onMany ∈ lw_good := gm7 216 (by decide +kernel)
theorem mlX13_304 : Cond.methodLink RX13 304 yX13_isBand ∈ lw_good := gm7 181 (by decide +kernel)
theorem mlX13_307 : Cond.methodLink RX13 307 yX13_refuse ∈ lw_good := gm7 189 (by decide +kernel)
theorem mlX13_310 : Cond.methodLink RX13 310 yX13_within ∈ lw_good := gm7 223 (by decide +kernel)
theorem mlX13_313 : Cond.methodLink RX13 313 yX13_bent ∈ lw_good := gm7 227 (by decide +kernel)
theorem mlX13_316 : Cond.methodLink RX13 316 yX13_right ∈ lw_good := gm7 231 (by decide +kernel)
theorem mlX13_319 : Cond.methodLink RX13 319 yX13_crossings ∈ lw_good := gm7 235 (by decide +kernel)
theorem mlX13_323 : Cond.methodLink RX13 323 yX13_isOn ∈ lw_good := gm8 15 (by decide +kernel)
theorem mlX13_326 : Cond.methodLink RX13 326 yX13_encloses ∈ lw_good := gm8 19 (by decide +kernel)
theorem mlX13_330 : Cond.methodLink RX13 330 yX13_isWithin ∈ lw_good := gm8 11 (by decide +kernel)
theorem mlX13_333 : Cond.methodLink RX13 333 yX13_liesIn ∈ lw_good := gm8 31 (by decide +kernel)
theorem mlX13_336 : Cond.methodLink RX13 336 yX13_compare ∈ lw_good := gm8 63 (by decide +kernel)
theorem mlX13_340 : Cond.methodLink RX13 340 yX13_turnBand ∈ lw_good := gm8 55 (by decide +kernel)
theorem mlX13_344 : Cond.methodLink RX13 344 yX13_leastRow ∈ lw_good := gm8 59 (by decide +kernel)
theorem mlX13_348 : Cond.methodLink RX13 348 yX13_layForm ∈ lw_good := gm8 51 (by decide +kernel)
theorem mlX13_352 : Cond.methodLink RX13 352 yX13_areAlike ∈ lw_good := gm8 47 (by decide +kernel)
theorem mlX13_358 : Cond.methodLink RX13 358 yX13_isSame ∈ lw_good := gm8 78 (by decide +kernel)
theorem mlX13_362 : Cond.methodLink RX13 362 yX13_snapShot ∈ lw_good := gm8 98 (by decide +kernel)
theorem mlX13_365 : Cond.methodLink RX13 365 yX13_layRead ∈ lw_good := gm8 90 (by decide +kernel)
theorem mlX13_368 : Cond.methodLink RX13 368 yX13_change ∈ lw_good := gm8 94 (by decide +kernel)
theorem mlX13_371 : Cond.methodLink RX13 371 yX13_isFree ∈ lw_good := gm8 114 (by decide +kernel)
theorem mlX13_374 : Cond.methodLink RX13 374 yX13_freeMany ∈ lw_good := gm8 110 (by decide +kernel)
theorem mlX13_380 : Cond.methodLink RX13 380 yX13_readSigned ∈ lw_good := gm8 134 (by decide +kernel)
theorem mlX13_383 : Cond.methodLink RX13 383 yX13_readAt ∈ lw_good := gm8 126 (by decide +kernel)
theorem mlX13_386 : Cond.methodLink RX13 386 yX13_readBy ∈ lw_good := gm8 130 (by decide +kernel)
theorem mlX13_389 : Cond.methodLink RX13 389 yX13_sum ∈ lw_good := gm8 146 (by decide +kernel)
theorem mlX13_392 : Cond.methodLink RX13 392 yX13_doClose ∈ lw_good := gm8 142 (by decide +kernel)
theorem mlX13_395 : Cond.methodLink RX13 395 yX13_layCalls ∈ lw_good := gm8 154 (by decide +kernel)
theorem mlX13_402 : Cond.methodLink RX13 402 yX13_put ∈ lw_good := gm8 166 (by decide +kernel)
theorem mlX13_405 : Cond.methodLink RX13 405 yX13_putSigned ∈ lw_good := gm8 170 (by decide +kernel)
theorem mlX13_411 : Cond.methodLink RX13 411 yX13_goTriangles ∈ lw_good := gm8 182 (by decide +kernel)
theorem mlX13_414 : Cond.methodLink RX13 414 yX13_layAlong ∈ lw_good := gm8 194 (by decide +kernel)
theorem mlX13_417 : Cond.methodLink RX13 417 yX13_isCut ∈ lw_good := gm8 198 (by decide +kernel)
theorem mlX13_420 : Cond.methodLink RX13 420 yX13_placeOf ∈ lw_good := gm8 210 (by decide +kernel)
theorem mlX13_423 : Cond.methodLink RX13 423 yX13_stateOf ∈ lw_good := gm8 206 (by decide +kernel)
theorem mlX13_426 : Cond.methodLink RX13 426 yX13_setOf ∈ lw_good := gm8 214 (by decide +kernel)
theorem mlX13_429 : Cond.methodLink RX13 429 yX13_bends ∈ lw_good := gm8 217 (by decide +kernel)
theorem mlX13_432 : Cond.methodLink RX13 432 yX13_isFreeEnd ∈ lw_good := gm8 233 (by decide +kernel)
theorem mlX13_435 : Cond.methodLink RX13 435 yX13_isSmall ∈ lw_good := gm8 225 (by decide +kernel)
theorem mlX13_438 : Cond.methodLink RX13 438 yX13_mayLay ∈ lw_good := gm8 229 (by decide +kernel)
theorem mlX13_441 : Cond.methodLink RX13 441 yX13_layLine ∈ lw_good := gm8 237 (by decide +kernel)
theorem mlX13_444 : Cond.methodLink RX13 444 yX13_winning ∈ lw_good := gm9 9 (by decide +kernel)
theorem mlX13_450 : Cond.methodLink RX13 450 yX13_readAnd ∈ lw_good := gm9 25 (by decide +kernel)
theorem mlX13_456 : Cond.methodLink RX13 456 yX13_lays ∈ lw_good := gm9 41 (by decide +kernel)
theorem mlX13_460 : Cond.methodLink RX13 460 yX13_readOne ∈ lw_good := gm9 29 (by decide +kernel)
theorem mlX13_468 : Cond.methodLink RX13 468 yX13_readBracket ∈ lw_good := gm9 33 (by decide +kernel)
theorem mlX13_471 : Cond.methodLink RX13 471 yX13_readNot ∈ lw_good := gm9 37 (by decide +kernel)
theorem mlX13_474 : Cond.methodLink RX13 474 yX13_readNamed ∈ lw_good := gm9 45 (by decide +kernel)
theorem mlX13_477 : Cond.methodLink RX13 477 yX13_readCompare ∈ lw_good := gm9 49 (by decide +kernel)
theorem mlX13_480 : Cond.methodLink RX13 480 yX13_readOr ∈ lw_good := gm9 21 (by decide +kernel)
theorem mlX13_486 : Cond.methodLink RX13 486 yX13_holds ∈ lw_good := gm9 57 (by decide +kernel)
theorem seJ7_fill_d0a16 : jSE miJ7_fill_d0a16 2 := ⟨gm5 65 (by decide +kernel), gm1 25 (by decide +kernel), gm5 66 ⟨rfl, rfl⟩, ⟨by decide +kernel, by decide +kernel, by decide +kernel⟩, by decide⟩
theorem seJ9_abs_0f7a4 : jSE miJ9_abs_0f7a4 1 := ⟨gm4 202 (by decide +kernel), gm1 4 (by decide +kernel), gm4 203 ⟨rfl, rfl⟩, ⟨by decide +kernel, by decide +kernel, by decide +kernel⟩, by decide⟩
theorem seJ9_floorMod_7cf53 : jSE miJ9_floorMod_7cf53 2 := ⟨gm4 15 (by decide +kernel), gm1 4 (by decide +kernel), gm4 16 ⟨rfl, rfl⟩, ⟨by decide +kernel, by decide +kernel, by decide +kernel⟩, by decide⟩
theorem seJ9_max_7cf53 : jSE miJ9_max_7cf53 2 := ⟨gm1 47 (by decide +kernel), gm1 4 (by decide +kernel), gm1 48 ⟨rfl, rfl⟩, ⟨by decide +kernel, by decide +kernel, by decide +kernel⟩, by decide⟩
theorem seJ9_min_7cf53 : jSE miJ9_min_7cf53 2 := ⟨gm3 239 (by decide +kernel), gm1 4 (by decide +kernel), gm4 0 ⟨rfl, rfl⟩, ⟨by decide +kernel, by decide +kernel, by decide +kernel⟩, by decide⟩
theorem ceX0_add : jCE miX0_add 0 3 := ⟨gm3 120 (by decide +kernel), gm3 121 (by decide +kernel), gm1 7 (by decide +kernel), gm3 122 ⟨rfl, rfl⟩, ⟨(RX0, TX0, 4), rfl, rfl⟩, ⟨by decide +kernel, by decide +kernel, by decide +kernel⟩, by decide⟩
theorem ceX0_anyHolds : jCE miX0_anyHolds 0 2 := ⟨gm4 69 (by decide +kernel), gm4 70 (by decide +kernel), gm1 7 (by decide +kernel), gm4 71 ⟨rfl, rfl⟩, ⟨(RX0, TX0, 4), rfl, rfl⟩, ⟨by decide +kernel, by decide +kernel, by decide +kernel⟩, by decide⟩
theorem ceX0_areaOf : jCE miX0_areaOf 0 1 := ⟨gm5 216 (by decide +kernel), gm5 217 (by decide +kernel), gm1 7 (by decide +kernel), gm5 218 ⟨rfl, rfl⟩, ⟨(RX0, TX0, 4), rfl, rfl⟩, ⟨by decide +kernel, by decide +kernel, by decide +kernel⟩, by decide⟩
theorem ceX0_at : jCE miX0_at 0 2 := ⟨gm3 116 (by decide +kernel), gm3 117 (by decide +kernel), gm1 7 (by decide +kernel), gm3 118 ⟨rfl, rfl⟩, ⟨(RX0, TX0, 4), rfl, rfl⟩, ⟨by decide +kernel, by decide +kernel, by decide +kernel⟩, by decide⟩
theorem ceX0_bentIn : jCE miX0_bentIn 0 1 := ⟨gm5 207 (by decide +kernel), gm5 208 (by decide +kernel), gm1 7 (by decide +kernel), gm5 209 ⟨rfl, rfl⟩, ⟨(RX0, TX0, 4), rfl, rfl⟩, ⟨by decide +kernel, by decide +kernel, by decide +kernel⟩, by decide⟩
theorem ceX0_copyFrom : jCE miX0_copyFrom 0 1 := ⟨gm3 139 (by decide +kernel), gm3 140 (by decide +kernel), gm1 7 (by decide +kernel), gm3 141 ⟨rfl, rfl⟩, ⟨(RX0, TX0, 4), rfl, rfl⟩, ⟨by decide +kernel, by decide +kernel, by decide +kernel⟩, by decide⟩
theorem ceX0_encloses : jCE miX0_encloses 0 3 := ⟨gm3 198 (by decide +kernel), gm3 199 (by decide +kernel), gm1 7 (by decide +kernel), gm3 200 ⟨rfl, rfl⟩, ⟨(RX0, TX0, 4), rfl, rfl⟩, ⟨by decide +kernel, by decide +kernel, by decide +kernel⟩, by decide⟩
theorem ceX0_fill : jCE miX0_fill 0 2 := ⟨gm4 81 (by decide +kernel), gm4 82 (by decide +kernel), gm1 7 (by decide +kernel), gm4 83 ⟨rfl, rfl⟩, ⟨(RX0, TX0, 4), rfl, rfl⟩, ⟨by decide +kernel, by decide +kernel, by decide +kernel⟩, by decide⟩
theorem ceX0_has : jCE miX0_has 0 1 := ⟨gm3 169 (by decide +kernel), gm3 170 (by decide +kernel), gm1 7 (by decide +kernel), gm3 171 ⟨rfl, rfl⟩, ⟨(RX0, TX0, 4), rfl, rfl⟩, ⟨by decide +kernel, by decide +kernel, by decide +kernel⟩, by decide⟩
theorem ceX0_hasCorner : jCE miX0_hasCorner 0 2 := ⟨gm3 165 (by decide +kernel), gm3 166 (by decide +kernel), gm1 7 (by decide +kernel), gm3 167 ⟨rfl, rfl⟩, ⟨(RX0, TX0, 4), rfl, rfl⟩, ⟨by decide +kernel, by decide +kernel, by decide +kernel⟩, by decide⟩
theorem ceX0_holds : jCE miX0_holds 0 2 := ⟨gm4 73 (by decide +kernel), gm4 74 (by decide +kernel), gm1 7 (by decide +kernel), gm4 75 ⟨rfl, rfl⟩, ⟨(RX0, TX0, 4), rfl, rfl⟩, ⟨by decide +kernel, by decide +kernel, by decide +kernel⟩, by decide⟩
theorem ceX0_holdsOn : jCE miX0_holdsOn 0 2 := ⟨gm3 190 (by decide +kernel), gm3 191 (by decide +kernel), gm1 7 (by decide +kernel), gm3 192 ⟨rfl, rfl⟩, ⟨(RX0, TX0, 4), rfl, rfl⟩, ⟨by decide +kernel, by decide +kernel, by decide +kernel⟩, by decide⟩
theorem ceX0_holdsWithin : jCE miX0_holdsWithin 0 2 := ⟨gm3 186 (by decide +kernel), gm3 187 (by decide +kernel), gm1 7 (by decide +kernel), gm3 188 ⟨rfl, rfl⟩, ⟨(RX0, TX0, 4), rfl, rfl⟩, ⟨by decide +kernel, by decide +kernel, by decide +kernel⟩, by decide⟩
theorem ceX0_liesIn : jCE miX0_liesIn 0 2 := ⟨gm3 217 (by decide +kernel), gm3 218 (by decide +kernel), gm1 7 (by decide +kernel), gm3 219 ⟨rfl, rfl⟩, ⟨(RX0, TX0, 4), rfl, rfl⟩, ⟨by decide +kernel, by decide +kernel, by decide +kernel⟩, by decide⟩
theorem ceX0_meetings : jCE miX0_meetings 0 3 := ⟨gm3 208 (by decide +kernel), gm3 209 (by decide +kernel), gm1 7 (by decide +kernel), gm3 210 ⟨rfl, rfl⟩, ⟨(RX0, TX0, 4), rfl, rfl⟩, ⟨by decide +kernel, by decide +kernel, by decide +kernel⟩, by decide⟩
theorem ceX0_placesOn : jCE miX0_placesOn 0 1 := ⟨gm5 221 (by decide +kernel), gm5 222 (by decide +kernel), gm1 7 (by decide +kernel), gm5 223 ⟨rfl, rfl⟩, ⟨(RX0, TX0, 4), rfl, rfl⟩, ⟨by decide +kernel, by decide +kernel, by decide +kernel⟩, by decide⟩
theorem ceX0_placesWithin : jCE miX0_placesWithin 0 1 := ⟨gm5 226 (by decide +kernel), gm5 227 (by decide +kernel), gm1 7 (by decide +kernel), gm5 228 ⟨rfl, rfl⟩, ⟨(RX0, TX0, 4), rfl, rfl⟩, ⟨by decide +kernel, by decide +kernel, by decide +kernel⟩, by decide⟩
theorem ceX0_put : jCE miX0_put 0 3 := ⟨gm3 124 (by decide +kernel), gm3 125 (by decide +kernel), gm1 7 (by decide +kernel), gm3 126 ⟨rfl, rfl⟩, ⟨(RX0, TX0, 4), rfl, rfl⟩, ⟨by decide +kernel, by decide +kernel, by decide +kernel⟩, by decide⟩
theorem ceX0_remove : jCE miX0_remove 0 1 := ⟨gm4 107 (by decide +kernel), gm4 108 (by decide +kernel), gm1 7 (by decide +kernel), gm4 109 ⟨rfl, rfl⟩, ⟨(RX0, TX0, 4), rfl, rfl⟩, ⟨by decide +kernel, by decide +kernel, by decide +kernel⟩, by decide⟩
theorem ceX0_rightOnes : jCE miX0_rightOnes 0 1 := ⟨gm5 233 (by decide +kernel), gm5 234 (by decide +kernel), gm1 7 (by decide +kernel), gm5 235 ⟨rfl, rfl⟩, ⟨(RX0, TX0, 4), rfl, rfl⟩, ⟨by decide +kernel, by decide +kernel, by decide +kernel⟩, by decide⟩
theorem ceX0_rimOf : jCE miX0_rimOf 0 2 := ⟨gm4 42 (by decide +kernel), gm4 43 (by decide +kernel), gm1 7 (by decide +kernel), gm4 44 ⟨rfl, rfl⟩, ⟨(RX0, TX0, 4), rfl, rfl⟩, ⟨by decide +kernel, by decide +kernel, by decide +kernel⟩, by decide⟩
theorem ceX0_signedArea : jCE miX0_signedArea 0 1 := ⟨gm5 19 (by decide +kernel), gm5 20 (by decide +kernel), gm1 7 (by decide +kernel), gm5 21 ⟨rfl, rfl⟩, ⟨(RX0, TX0, 4), rfl, rfl⟩, ⟨by decide +kernel, by decide +kernel, by decide +kernel⟩, by decide⟩
theorem ceX0_sizeOf : jCE miX0_sizeOf 0 1 := ⟨gm3 112 (by decide +kernel), gm3 113 (by decide +kernel), gm1 7 (by decide +kernel), gm3 114 ⟨rfl, rfl⟩, ⟨(RX0, TX0, 4), rfl, rfl⟩, ⟨by decide +kernel, by decide +kernel, by decide +kernel⟩, by decide⟩
theorem ceX0_widest : jCE miX0_widest 0 1 := ⟨gm4 60 (by decide +kernel), gm4 61 (by decide +kernel), gm1 7 (by decide +kernel), gm4 62 ⟨rfl, rfl⟩, ⟨(RX0, TX0, 4), rfl, rfl⟩, ⟨by decide +kernel, by decide +kernel, by decide +kernel⟩, by decide⟩
theorem ceX0_withId : jCE miX0_withId 0 1 := ⟨gm5 180 (by decide +kernel), gm5 181 (by decide +kernel), gm1 7 (by decide +kernel), gm5 182 ⟨rfl, rfl⟩, ⟨(RX0, TX0, 4), rfl, rfl⟩, ⟨by decide +kernel, by decide +kernel, by decide +kernel⟩, by decide⟩
theorem ceX10_areAlike : jCE miX10_areAlike 9 4 := ⟨gm3 227 (by decide +kernel), gm3 228 (by decide +kernel), gm1 10 (by decide +kernel), gm3 229 ⟨rfl, rfl⟩, ⟨(RX10, TX10, 6), rfl, rfl⟩, ⟨by decide +kernel, by decide +kernel, by decide +kernel⟩, by decide⟩
theorem ceX10_areSame : jCE miX10_areSame 9 1 := ⟨gm4 23 (by decide +kernel), gmp 15 (n := 6) (by decide +kernel), gm1 10 (by decide +kernel), gm4 24 ⟨rfl, rfl⟩, ⟨(RX10, TX10, 6), rfl, rfl⟩, ⟨by decide +kernel, by decide +kernel, by decide +kernel⟩, by decide⟩
theorem ceX10_fill : jCE miX10_fill 9 4 := ⟨gm4 19 (by decide +kernel), gmp 14 (n := 6) (by decide +kernel), gm1 10 (by decide +kernel), gm4 20 ⟨rfl, rfl⟩, ⟨(RX10, TX10, 6), rfl, rfl⟩, ⟨by decide +kernel, by decide +kernel, by decide +kernel⟩, by decide⟩
theorem ceX10_isEven : jCE miX10_isEven 9 3 := ⟨gm4 52 (by decide +kernel), gm4 53 (by decide +kernel), gm1 10 (by decide +kernel), gm4 54 ⟨rfl, rfl⟩, ⟨(RX10, TX10, 6), rfl, rfl⟩, ⟨by decide +kernel, by decide +kernel, by decide +kernel⟩, by decide⟩
theorem ceX10_isLess : jCE miX10_isLess 9 4 := ⟨gm4 8 (by decide +kernel), gmp 12 (n := 6) (by decide +kernel), gm1 10 (by decide +kernel), gm4 9 ⟨rfl, rfl⟩, ⟨(RX10, TX10, 6), rfl, rfl⟩, ⟨by decide +kernel, by decide +kernel, by decide +kernel⟩, by decide⟩
theorem seX10_lastPose : jSE miX10_lastPose 1 := ⟨gm3 231 (by decide +kernel), gm1 10 (by decide +kernel), gm3 232 ⟨rfl, rfl⟩, ⟨by decide +kernel, by decide +kernel, by decide +kernel⟩, by decide⟩
theorem ceX10_least : jCE miX10_least 9 5 := ⟨gm3 235 (by decide +kernel), gmp 10 (n := 6) (by decide +kernel), gm1 10 (by decide +kernel), gm3 236 ⟨rfl, rfl⟩, ⟨(RX10, TX10, 6), rfl, rfl⟩, ⟨by decide +kernel, by decide +kernel, by decide +kernel⟩, by decide⟩
theorem ceX10_numberAt : jCE miX10_numberAt 9 4 := ⟨gm4 12 (by decide +kernel), gmp 13 (n := 6) (by decide +kernel), gm1 10 (by decide +kernel), gm4 13 ⟨rfl, rfl⟩, ⟨(RX10, TX10, 6), rfl, rfl⟩, ⟨by decide +kernel, by decide +kernel, by decide +kernel⟩, by decide⟩
theorem ceX10_takePose : jCE miX10_takePose 9 4 := ⟨gm4 3 (by decide +kernel), gmp 11 (n := 6) (by decide +kernel), gm1 10 (by decide +kernel), gm4 4 ⟨rfl, rfl⟩, ⟨(RX10, TX10, 6), rfl, rfl⟩, ⟨by decide +kernel, by decide +kernel, by decide +kernel⟩, by decide⟩
theorem ceX10_tell : jCE miX10_tell 9 3 := ⟨gm4 30 (by decide +kernel), gm4 31 (by decide +kernel), gm1 10 (by decide +kernel), gm4 32 ⟨rfl, rfl⟩, ⟨(RX10, TX10, 6), rfl, rfl⟩, ⟨by decide +kernel, by decide +kernel, by decide +kernel⟩, by decide⟩
theorem ceX11_addLine : jCE miX11_addLine 10 1 := ⟨gm5 120 (by decide +kernel), gm5 121 (by decide +kernel), gm1 5 (by decide +kernel), gm5 122 ⟨rfl, rfl⟩, ⟨(RX11, TX11, 6), rfl, rfl⟩, ⟨by decide +kernel, by decide +kernel, by decide +kernel⟩, by decide⟩
theorem ceX11_copyFrom : jCE miX11_copyFrom 10 1 := ⟨gm6 2 (by decide +kernel), gm6 3 (by decide +kernel), gm1 5 (by decide +kernel), gm6 4 ⟨rfl, rfl⟩, ⟨(RX11, TX11, 6), rfl, rfl⟩, ⟨by decide +kernel, by decide +kernel, by decide +kernel⟩, by decide⟩
theorem ceX12_again : jCE miX12_again 11 0 := ⟨gm5 145 (by decide +kernel), gm5 146 (by decide +kernel), gm1 1 (by decide +kernel), gm5 147 ⟨rfl, rfl⟩, ⟨(RX12, TX12, 15), rfl, rfl⟩, ⟨by decide +kernel, by decide +kernel, by decide +kernel⟩, by decide⟩
theorem ceX12_alike : jCE miX12_alike 11 3 := ⟨gm3 223 (by decide +kernel), gm3 224 (by decide +kernel), gm1 1 (by decide +kernel), gm3 225 ⟨rfl, rfl⟩, ⟨(RX12, TX12, 15), rfl, rfl⟩, ⟨by decide +kernel, by decide +kernel, by decide +kernel⟩, by decide⟩
theorem ceX12_band : jCE miX12_band 11 2 := ⟨gm6 22 (by decide +kernel), gm6 23 (by decide +kernel), gm1 1 (by decide +kernel), gm6 24 ⟨rfl, rfl⟩, ⟨(RX12, TX12, 15), rfl, rfl⟩, ⟨by decide +kernel, by decide +kernel, by decide +kernel⟩, by decide⟩
theorem ceX12_board : jCE miX12_board 11 0 := ⟨gm2 167 (by decide +kernel), gm2 168 (by decide +kernel), gm1 1 (by decide +kernel), gm2 169 ⟨rfl, rfl⟩, ⟨(RX12, TX12, 15), rfl, rfl⟩, ⟨by decide +kernel, by decide +kernel, by decide +kernel⟩, by decide⟩
theorem ceX12_byteAt : jCE miX12_byteAt 11 1 := ⟨gm4 205 (by decide +kernel), gm4 206 (by decide +kernel), gm1 1 (by decide +kernel), gm4 207 ⟨rfl, rfl⟩, ⟨(RX12, TX12, 15), rfl, rfl⟩, ⟨by decide +kernel, by decide +kernel, by decide +kernel⟩, by decide⟩
theorem ceX12_calls : jCE miX12_calls 11 0 := ⟨gm4 115 (by decide +kernel), gm4 116 (by decide +kernel), gm1 1 (by decide +kernel), gm4 117 ⟨rfl, rfl⟩, ⟨(RX12, TX12, 15), rfl, rfl⟩, ⟨by decide +kernel, by decide +kernel, by decide +kernel⟩, by decide⟩
theorem ceX12_closes : jCE miX12_closes 11 0 := ⟨gm4 143 (by decide +kernel), gm4 144 (by decide +kernel), gm1 1 (by decide +kernel), gm4 145 ⟨rfl, rfl⟩, ⟨(RX12, TX12, 15), rfl, rfl⟩, ⟨by decide +kernel, by decide +kernel, by decide +kernel⟩, by decide⟩
theorem ceX12_corner : jCE miX12_corner 11 2 := ⟨gm3 161 (by decide +kernel), gm3 162 (by decide +kernel), gm1 1 (by decide +kernel), gm3 163 ⟨rfl, rfl⟩, ⟨(RX12, TX12, 15), rfl, rfl⟩, ⟨by decide +kernel, by decide +kernel, by decide +kernel⟩, by decide⟩
theorem ceX12_count : jCE miX12_count 11 1 := ⟨gm6 14 (by decide +kernel), gm6 15 (by decide +kernel), gm1 1 (by decide +kernel), gm6 16 ⟨rfl, rfl⟩, ⟨(RX12, TX12, 15), rfl, rfl⟩, ⟨by decide +kernel, by decide +kernel, by decide +kernel⟩, by decide⟩
theorem ceX12_cross : jCE miX12_cross 11 3 := ⟨gm3 203 (by decide +kernel), gm3 204 (by decide +kernel), gm1 1 (by decide +kernel), gm3 205 ⟨rfl, rfl⟩, ⟨(RX12, TX12, 15), rfl, rfl⟩, ⟨by decide +kernel, by decide +kernel, by decide +kernel⟩, by decide⟩
theorem ceX12_crossingsOfAll : jCE miX12_crossingsOfAll 11 1 := ⟨gm6 93 (by decide +kernel), gmp 38 (n := 15) (by decide +kernel), gm1 1 (by decide +kernel), gm6 94 ⟨rfl, rfl⟩, ⟨(RX12, TX12, 15), rfl, rfl⟩, ⟨by decide +kernel, by decide +kernel, by decide +kernel⟩, by decide⟩
theorem ceX12_cuts : jCE miX12_cuts 11 2 := ⟨gm5 5 (by decide +kernel), gm5 6 (by decide +kernel), gm1 1 (by decide +kernel), gm5 7 ⟨rfl, rfl⟩, ⟨(RX12, TX12, 15), rfl, rfl⟩, ⟨by decide +kernel, by decide +kernel, by decide +kernel⟩, by decide⟩
theorem ceX12_end : jCE miX12_end 11 1 := ⟨gm2 163 (by decide +kernel), gm2 164 (by decide +kernel), gm1 1 (by decide +kernel), gm2 165 ⟨rfl, rfl⟩, ⟨(RX12, TX12, 15), rfl, rfl⟩, ⟨by decide +kernel, by decide +kernel, by decide +kernel⟩, by decide⟩
theorem ceX12_even : jCE miX12_even 11 2 := ⟨gm4 48 (by decide +kernel), gm4 49 (by decide +kernel), gm1 1 (by decide +kernel), gm4 50 ⟨rfl, rfl⟩, ⟨(RX12, TX12, 15), rfl, rfl⟩, ⟨by decide +kernel, by decide +kernel, by decide +kernel⟩, by decide⟩
theorem ceX12_fault : jCE miX12_fault 11 0 := ⟨gm3 148 (by decide +kernel), gm3 149 (by decide +kernel), gm1 1 (by decide +kernel), gm3 150 ⟨rfl, rfl⟩, ⟨(RX12, TX12, 15), rfl, rfl⟩, ⟨by decide +kernel, by decide +kernel, by decide +kernel⟩, by decide⟩
theorem ceX12_feed : jCE miX12_feed 11 5 := ⟨gm2 147 (by decide +kernel), gm2 148 (by decide +kernel), gm1 1 (by decide +kernel), gm2 149 ⟨rfl, rfl⟩, ⟨(RX12, TX12, 15), rfl, rfl⟩, ⟨by decide +kernel, by decide +kernel, by decide +kernel⟩, by decide⟩
theorem ceX12_form : jCE miX12_form 11 2 := ⟨gm4 26 (by decide +kernel), gm4 27 (by decide +kernel), gm1 1 (by decide +kernel), gm4 28 ⟨rfl, rfl⟩, ⟨(RX12, TX12, 15), rfl, rfl⟩, ⟨by decide +kernel, by decide +kernel, by decide +kernel⟩, by decide⟩
theorem ceX12_formAt : jCE miX12_formAt 11 1 := ⟨gm4 34 (by decide +kernel), gm4 35 (by decide +kernel), gm1 1 (by decide +kernel), gm4 36 ⟨rfl, rfl⟩, ⟨(RX12, TX12, 15), rfl, rfl⟩, ⟨by decide +kernel, by decide +kernel, by decide +kernel⟩, by decide⟩
theorem ceX12_free : jCE miX12_free 11 0 := ⟨gm4 65 (by decide +kernel), gm4 66 (by decide +kernel), gm1 1 (by decide +kernel), gm4 67 ⟨rfl, rfl⟩, ⟨(RX12, TX12, 15), rfl, rfl⟩, ⟨by decide +kernel, by decide +kernel, by decide +kernel⟩, by decide⟩
theorem ceX12_hasFault : jCE miX12_hasFault 11 0 := ⟨gm3 129 (by decide +kernel), gmp 9 (n := 15) (by decide +kernel), gm1 1 (by decide +kernel), gm3 130 ⟨rfl, rfl⟩, ⟨(RX12, TX12, 15), rfl, rfl⟩, ⟨by decide +kernel, by decide +kernel, by decide +kernel⟩, by decide⟩
theorem ceX12_image : jCE miX12_image 11 1 := ⟨gm5 238 (by decide +kernel), gm5 239 (by decide +kernel), gm1 1 (by decide +kernel), gm6 0 ⟨rfl, rfl⟩, ⟨(RX12, TX12, 15), rfl, rfl⟩, ⟨by decide +kernel, by decide +kernel, by decide +kernel⟩, by decide⟩
theorem ceX12_in : jCE miX12_in 11 2 := ⟨gm3 213 (by decide +kernel), gm3 214 (by decide +kernel), gm1 1 (by decide +kernel), gm3 215 ⟨rfl, rfl⟩, ⟨(RX12, TX12, 15), rfl, rfl⟩, ⟨by decide +kernel, by decide +kernel, by decide +kernel⟩, by decide⟩
theorem seX12_isCount : jSE miX12_isCount 1 := ⟨gm4 214 (by decide +kernel), gm1 1 (by decide +kernel), gm4 215 ⟨rfl, rfl⟩, ⟨by decide +kernel, by decide +kernel, by decide +kernel⟩, by decide⟩
theorem ceX12_keepPast : jCE miX12_keepPast 11 0 := ⟨gm4 91 (by decide +kernel), gmp 17 (n := 15) (by decide +kernel), gm1 1 (by decide +kernel), gm4 92 ⟨rfl, rfl⟩, ⟨(RX12, TX12, 15), rfl, rfl⟩, ⟨by decide +kernel, by decide +kernel, by decide +kernel⟩, by decide⟩
theorem ceX12_lay : jCE miX12_lay 11 0 := ⟨gm4 169 (by decide +kernel), gm4 170 (by decide +kernel), gm1 1 (by decide +kernel), gm4 171 ⟨rfl, rfl⟩, ⟨(RX12, TX12, 15), rfl, rfl⟩, ⟨by decide +kernel, by decide +kernel, by decide +kernel⟩, by decide⟩
theorem ceX12_line : jCE miX12_line 11 2 := ⟨gm5 88 (by decide +kernel), gm5 89 (by decide +kernel), gm1 1 (by decide +kernel), gm5 90 ⟨rfl, rfl⟩, ⟨(RX12, TX12, 15), rfl, rfl⟩, ⟨by decide +kernel, by decide +kernel, by decide +kernel⟩, by decide⟩
theorem ceX12_lines : jCE miX12_lines 11 1 := ⟨gm5 124 (by decide +kernel), gm5 125 (by decide +kernel), gm1 1 (by decide +kernel), gm5 126 ⟨rfl, rfl⟩, ⟨(RX12, TX12, 15), rfl, rfl⟩, ⟨by decide +kernel, by decide +kernel, by decide +kernel⟩, by decide⟩
theorem ceX12_mended : jCE miX12_mended 11 1 := ⟨gm4 159 (by decide +kernel), gm4 160 (by decide +kernel), gm1 1 (by decide +kernel), gm4 161 ⟨rfl, rfl⟩, ⟨(RX12, TX12, 15), rfl, rfl⟩, ⟨by decide +kernel, by decide +kernel, by decide +kernel⟩, by decide⟩
theorem ceX12_move : jCE miX12_move 11 3 := ⟨gm4 77 (by decide +kernel), gm4 78 (by decide +kernel), gm1 1 (by decide +kernel), gm4 79 ⟨rfl, rfl⟩, ⟨(RX12, TX12, 15), rfl, rfl⟩, ⟨by decide +kernel, by decide +kernel, by decide +kernel⟩, by decide⟩
theorem ceX12_moved : jCE miX12_moved 11 2 := ⟨gm5 41 (by decide +kernel), gm5 42 (by decide +kernel), gm1 1 (by decide +kernel), gm5 43 ⟨rfl, rfl⟩, ⟨(RX12, TX12, 15), rfl, rfl⟩, ⟨by decide +kernel, by decide +kernel, by decide +kernel⟩, by decide⟩
theorem ceX12_over : jCE miX12_over 11 2 := ⟨gm3 182 (by decide +kernel), gm3 183 (by decide +kernel), gm1 1 (by decide +kernel), gm3 184 ⟨rfl, rfl⟩, ⟨(RX12, TX12, 15), rfl, rfl⟩, ⟨by decide +kernel, by decide +kernel, by decide +kernel⟩, by decide⟩
theorem ceX12_peg : jCE miX12_peg 11 1 := ⟨gm3 156 (by decide +kernel), gm3 157 (by decide +kernel), gm1 1 (by decide +kernel), gm3 158 ⟨rfl, rfl⟩, ⟨(RX12, TX12, 15), rfl, rfl⟩, ⟨by decide +kernel, by decide +kernel, by decide +kernel⟩, by decide⟩
theorem ceX12_putAnew : jCE miX12_putAnew 11 2 := ⟨gm4 86 (by decide +kernel), gmp 16 (n := 15) (by decide +kernel), gm1 1 (by decide +kernel), gm4 87 ⟨rfl, rfl⟩, ⟨(RX12, TX12, 15), rfl, rfl⟩, ⟨by decide +kernel, by decide +kernel, by decide +kernel⟩, by decide⟩
theorem ceX12_restore : jCE miX12_restore 11 1 := ⟨gm6 10 (by decide +kernel), gm6 11 (by decide +kernel), gm1 1 (by decide +kernel), gm6 12 ⟨rfl, rfl⟩, ⟨(RX12, TX12, 15), rfl, rfl⟩, ⟨by decide +kernel, by decide +kernel, by decide +kernel⟩, by decide⟩
theorem ceX12_rim : jCE miX12_rim 11 2 := ⟨gm4 38 (by decide +kernel), gm4 39 (by decide +kernel), gm1 1 (by decide +kernel), gm4 40 ⟨rfl, rfl⟩, ⟨(RX12, TX12, 15), rfl, rfl⟩, ⟨by decide +kernel, by decide +kernel, by decide +kernel⟩, by decide⟩
theorem ceX12_said : jCE miX12_said 11 1 := ⟨gm5 194 (by decide +kernel), gm5 195 (by decide +kernel), gm1 1 (by decide +kernel), gm5 196 ⟨rfl, rfl⟩, ⟨(RX12, TX12, 15), rfl, rfl⟩, ⟨by decide +kernel, by decide +kernel, by decide +kernel⟩, by decide⟩
theorem ceX12_sentence : jCE miX12_sentence 11 0 := ⟨gm5 149 (by decide +kernel), gm5 150 (by decide +kernel), gm1 1 (by decide +kernel), gm5 151 ⟨rfl, rfl⟩, ⟨(RX12, TX12, 15), rfl, rfl⟩, ⟨by decide +kernel, by decide +kernel, by decide +kernel⟩, by decide⟩
theorem ceX12_side : jCE miX12_side 11 2 := ⟨gm3 175 (by decide +kernel), gm3 176 (by decide +kernel), gm1 1 (by decide +kernel), gm3 177 ⟨rfl, rfl⟩, ⟨(RX12, TX12, 15), rfl, rfl⟩, ⟨by decide +kernel, by decide +kernel, by decide +kernel⟩, by decide⟩
theorem ceX12_slide : jCE miX12_slide 11 3 := ⟨gm4 96 (by decide +kernel), gm4 97 (by decide +kernel), gm1 1 (by decide +kernel), gm4 98 ⟨rfl, rfl⟩, ⟨(RX12, TX12, 15), rfl, rfl⟩, ⟨by decide +kernel, by decide +kernel, by decide +kernel⟩, by decide⟩
theorem ceX12_smallest : jCE miX12_smallest 11 2 := ⟨gm5 0 (by decide +kernel), gm5 1 (by decide +kernel), gm1 1 (by decide +kernel), gm5 2 ⟨rfl, rfl⟩, ⟨(RX12, TX12, 15), rfl, rfl⟩, ⟨by decide +kernel, by decide +kernel, by decide +kernel⟩, by decide⟩
theorem ceX12_snap : jCE miX12_snap 11 1 := ⟨gm4 102 (by decide +kernel), gm4 103 (by decide +kernel), gm1 1 (by decide +kernel), gm4 104 ⟨rfl, rfl⟩, ⟨(RX12, TX12, 15), rfl, rfl⟩, ⟨by decide +kernel, by decide +kernel, by decide +kernel⟩, by decide⟩
theorem ceX12_triangles : jCE miX12_triangles 11 3 := ⟨gm4 210 (by decide +kernel), gm4 211 (by decide +kernel), gm1 1 (by decide +kernel), gm4 212 ⟨rfl, rfl⟩, ⟨(RX12, TX12, 15), rfl, rfl⟩, ⟨by decide +kernel, by decide +kernel, by decide +kernel⟩, by decide⟩
theorem ceX12_undo : jCE miX12_undo 11 0 := ⟨gm4 111 (by decide +kernel), gm4 112 (by decide +kernel), gm1 1 (by decide +kernel), gm4 113 ⟨rfl, rfl⟩, ⟨(RX12, TX12, 15), rfl, rfl⟩, ⟨by decide +kernel, by decide +kernel, by decide +kernel⟩, by decide⟩
theorem ceX12_why : jCE miX12_why 11 0 := ⟨gm3 152 (by decide +kernel), gm3 153 (by decide +kernel), gm1 1 (by decide +kernel), gm3 154 ⟨rfl, rfl⟩, ⟨(RX12, TX12, 15), rfl, rfl⟩, ⟨by decide +kernel, by decide +kernel, by decide +kernel⟩, by decide⟩
theorem ceX12_wide : jCE miX12_wide 11 1 := ⟨gm4 56 (by decide +kernel), gm4 57 (by decide +kernel), gm1 1 (by decide +kernel), gm4 58 ⟨rfl, rfl⟩, ⟨(RX12, TX12, 15), rfl, rfl⟩, ⟨by decide +kernel, by decide +kernel, by decide +kernel⟩, by decide⟩
theorem ceX12_wins : jCE miX12_wins 11 0 := ⟨gm5 132 (by decide +kernel), gm5 133 (by decide +kernel), gm1 1 (by decide +kernel), gm5 134 ⟨rfl, rfl⟩, ⟨(RX12, TX12, 15), rfl, rfl⟩, ⟨by decide +kernel, by decide +kernel, by decide +kernel⟩, by decide⟩
theorem ceX12_write : jCE miX12_write 11 1 := ⟨gm4 174 (by decide +kernel), gm4 175 (by decide +kernel), gm1 1 (by decide +kernel), gm4 176 ⟨rfl, rfl⟩, ⟨(RX12, TX12, 15), rfl, rfl⟩, ⟨by decide +kernel, by decide +kernel, by decide +kernel⟩, by decide⟩
theorem ceX13_again : jCE miX13_again 12 0 := ⟨gm9 14 (by decide +kernel), gm9 15 (by decide +kernel), gm1 14 (by decide +kernel), gm9 16 ⟨rfl, rfl⟩, ⟨(RX13, TX13, 51), rfl, rfl⟩, ⟨by decide +kernel, by decide +kernel, by decide +kernel⟩, by decide⟩
theorem ceX13_alike : jCE miX13_alike 12 3 := ⟨gm8 44 (by decide +kernel), gm8 45 (by decide +kernel), gm1 14 (by decide +kernel), gm8 46 ⟨rfl, rfl⟩, ⟨(RX13, TX13, 51), rfl, rfl⟩, ⟨by decide +kernel, by decide +kernel, by decide +kernel⟩, by decide⟩
theorem ceX13_areAlike : jCE miX13_areAlike 12 3 := ⟨gm8 49 (by decide +kernel), gmp 73 (n := 51) (by decide +kernel), gm1 14 (by decide +kernel), gm8 50 ⟨rfl, rfl⟩, ⟨(RX13, TX13, 51), rfl, rfl⟩, ⟨by decide +kernel, by decide +kernel, by decide +kernel⟩, by decide⟩
theorem ceX13_area : jCE miX13_area 12 1 := ⟨gm7 199 (by decide +kernel), gmp 60 (n := 51) (by decide +kernel), gm1 14 (by decide +kernel), gm7 200 ⟨rfl, rfl⟩, ⟨(RX13, TX13, 51), rfl, rfl⟩, ⟨by decide +kernel, by decide +kernel, by decide +kernel⟩, by decide⟩
theorem ceX13_bad : jCE miX13_bad 12 1 := ⟨gm7 79 (by decide +kernel), gmp 46 (n := 51) (by decide +kernel), gm1 14 (by decide +kernel), gm7 80 ⟨rfl, rfl⟩, ⟨(RX13, TX13, 51), rfl, rfl⟩, ⟨by decide +kernel, by decide +kernel, by decide +kernel⟩, by decide⟩
theorem ceX13_band : jCE miX13_band 12 2 := ⟨gm7 178 (by decide +kernel), gm7 179 (by decide +kernel), gm1 14 (by decide +kernel), gm7 180 ⟨rfl, rfl⟩, ⟨(RX13, TX13, 51), rfl, rfl⟩, ⟨by decide +kernel, by decide +kernel, by decide +kernel⟩, by decide⟩
theorem ceX13_bands : jCE miX13_bands 12 0 := ⟨gm7 187 (by decide +kernel), gmp 57 (n := 51) (by decide +kernel), gm1 14 (by decide +kernel), gm7 188 ⟨rfl, rfl⟩, ⟨(RX13, TX13, 51), rfl, rfl⟩, ⟨by decide +kernel, by decide +kernel, by decide +kernel⟩, by decide⟩
theorem ceX13_begin : jCE miX13_begin 12 1 := ⟨gm7 38 (by decide +kernel), gmp 40 (n := 51) (by decide +kernel), gm1 14 (by decide +kernel), gm7 39 ⟨rfl, rfl⟩, ⟨(RX13, TX13, 51), rfl, rfl⟩, ⟨by decide +kernel, by decide +kernel, by decide +kernel⟩, by decide⟩
theorem ceX13_bends : jCE miX13_bends 12 1 := ⟨gm8 219 (by decide +kernel), gmp 96 (n := 51) (by decide +kernel), gm1 14 (by decide +kernel), gm8 220 ⟨rfl, rfl⟩, ⟨(RX13, TX13, 51), rfl, rfl⟩, ⟨by decide +kernel, by decide +kernel, by decide +kernel⟩, by decide⟩
theorem ceX13_bent : jCE miX13_bent 12 1 := ⟨gm7 229 (by decide +kernel), gmp 66 (n := 51) (by decide +kernel), gm1 14 (by decide +kernel), gm7 230 ⟨rfl, rfl⟩, ⟨(RX13, TX13, 51), rfl, rfl⟩, ⟨by decide +kernel, by decide +kernel, by decide +kernel⟩, by decide⟩
theorem ceX13_board : jCE miX13_board 12 0 := ⟨gm7 33 (by decide +kernel), gm7 34 (by decide +kernel), gm1 14 (by decide +kernel), gm7 35 ⟨rfl, rfl⟩, ⟨(RX13, TX13, 51), rfl, rfl⟩, ⟨by decide +kernel, by decide +kernel, by decide +kernel⟩, by decide⟩
theorem ceX13_byteAt : jCE miX13_byteAt 12 1 := ⟨gm8 175 (by decide +kernel), gm8 176 (by decide +kernel), gm1 14 (by decide +kernel), gm8 177 ⟨rfl, rfl⟩, ⟨(RX13, TX13, 51), rfl, rfl⟩, ⟨by decide +kernel, by decide +kernel, by decide +kernel⟩, by decide⟩
theorem ceX13_calls : jCE miX13_calls 12 0 := ⟨gm8 123 (by decide +kernel), gm8 124 (by decide +kernel), gm1 14 (by decide +kernel), gm8 125 ⟨rfl, rfl⟩, ⟨(RX13, TX13, 51), rfl, rfl⟩, ⟨by decide +kernel, by decide +kernel, by decide +kernel⟩, by decide⟩
theorem ceX13_change : jCE miX13_change 12 1 := ⟨gm8 96 (by decide +kernel), gmp 79 (n := 51) (by decide +kernel), gm1 14 (by decide +kernel), gm8 97 ⟨rfl, rfl⟩, ⟨(RX13, TX13, 51), rfl, rfl⟩, ⟨by decide +kernel, by decide +kernel, by decide +kernel⟩, by decide⟩
theorem ceX13_closes : jCE miX13_closes 12 0 := ⟨gm8 139 (by decide +kernel), gm8 140 (by decide +kernel), gm1 14 (by decide +kernel), gm8 141 ⟨rfl, rfl⟩, ⟨(RX13, TX13, 51), rfl, rfl⟩, ⟨by decide +kernel, by decide +kernel, by decide +kernel⟩, by decide⟩
theorem ceX13_come : jCE miX13_come 12 1 := ⟨gm7 26 (by decide +kernel), gmp 39 (n := 51) (by decide +kernel), gm1 14 (by decide +kernel), gm7 27 ⟨rfl, rfl⟩, ⟨(RX13, TX13, 51), rfl, rfl⟩, ⟨by decide +kernel, by decide +kernel, by decide +kernel⟩, by decide⟩
theorem seX13_common : jSE miX13_common 2 := ⟨gm7 221 (by decide +kernel), gm1 14 (by decide +kernel), gm7 222 ⟨rfl, rfl⟩, ⟨by decide +kernel, by decide +kernel, by decide +kernel⟩, by decide⟩
theorem seX13_compare : jSE miX13_compare 3 := ⟨gm8 64 (by decide +kernel), gm1 14 (by decide +kernel), gm8 65 ⟨rfl, rfl⟩, ⟨by decide +kernel, by decide +kernel, by decide +kernel⟩, by decide⟩
theorem ceX13_corner : jCE miX13_corner 12 2 := ⟨gm8 0 (by decide +kernel), gm8 1 (by decide +kernel), gm1 14 (by decide +kernel), gm8 2 ⟨rfl, rfl⟩, ⟨(RX13, TX13, 51), rfl, rfl⟩, ⟨by decide +kernel, by decide +kernel, by decide +kernel⟩, by decide⟩
theorem ceX13_corners : jCE miX13_corners 12 1 := ⟨gm7 195 (by decide +kernel), gmp 59 (n := 51) (by decide +kernel), gm1 14 (by decide +kernel), gm7 196 ⟨rfl, rfl⟩, ⟨(RX13, TX13, 51), rfl, rfl⟩, ⟨by decide +kernel, by decide +kernel, by decide +kernel⟩, by decide⟩
theorem seX13_cornersOf : jSE miX13_cornersOf 2 := ⟨gm7 123 (by decide +kernel), gm1 14 (by decide +kernel), gm7 124 ⟨rfl, rfl⟩, ⟨by decide +kernel, by decide +kernel, by decide +kernel⟩, by decide⟩
theorem ceX13_count : jCE miX13_count 12 1 := ⟨gm9 70 (by decide +kernel), gm9 71 (by decide +kernel), gm1 14 (by decide +kernel), gm9 72 ⟨rfl, rfl⟩, ⟨(RX13, TX13, 51), rfl, rfl⟩, ⟨by decide +kernel, by decide +kernel, by decide +kernel⟩, by decide⟩
theorem ceX13_cross : jCE miX13_cross 12 3 := ⟨gm8 24 (by decide +kernel), gm8 25 (by decide +kernel), gm1 14 (by decide +kernel), gm8 26 ⟨rfl, rfl⟩, ⟨(RX13, TX13, 51), rfl, rfl⟩, ⟨by decide +kernel, by decide +kernel, by decide +kernel⟩, by decide⟩
theorem ceX13_crossings : jCE miX13_crossings 12 3 := ⟨gm7 237 (by decide +kernel), gmp 68 (n := 51) (by decide +kernel), gm1 14 (by decide +kernel), gm7 238 ⟨rfl, rfl⟩, ⟨(RX13, TX13, 51), rfl, rfl⟩, ⟨by decide +kernel, by decide +kernel, by decide +kernel⟩, by decide⟩
theorem ceX13_cuts : jCE miX13_cuts 12 2 := ⟨gm8 191 (by decide +kernel), gm8 192 (by decide +kernel), gm1 14 (by decide +kernel), gm8 193 ⟨rfl, rfl⟩, ⟨(RX13, TX13, 51), rfl, rfl⟩, ⟨by decide +kernel, by decide +kernel, by decide +kernel⟩, by decide⟩
theorem ceX13_doClose : jCE miX13_doClose 12 0 := ⟨gm8 144 (by decide +kernel), gmp 86 (n := 51) (by decide +kernel), gm1 14 (by decide +kernel), gm8 145 ⟨rfl, rfl⟩, ⟨(RX13, TX13, 51), rfl, rfl⟩, ⟨by decide +kernel, by decide +kernel, by decide +kernel⟩, by decide⟩
theorem ceX13_encloses : jCE miX13_encloses 12 4 := ⟨gm8 21 (by decide +kernel), gmp 71 (n := 51) (by decide +kernel), gm1 14 (by decide +kernel), gm8 22 ⟨rfl, rfl⟩, ⟨(RX13, TX13, 51), rfl, rfl⟩, ⟨by decide +kernel, by decide +kernel, by decide +kernel⟩, by decide⟩
theorem ceX13_end : jCE miX13_end 12 1 := ⟨gm7 29 (by decide +kernel), gm7 30 (by decide +kernel), gm1 14 (by decide +kernel), gm7 31 ⟨rfl, rfl⟩, ⟨(RX13, TX13, 51), rfl, rfl⟩, ⟨by decide +kernel, by decide +kernel, by decide +kernel⟩, by decide⟩
theorem ceX13_even : jCE miX13_even 12 2 := ⟨gm8 75 (by decide +kernel), gm8 76 (by decide +kernel), gm1 14 (by decide +kernel), gm8 77 ⟨rfl, rfl⟩, ⟨(RX13, TX13, 51), rfl, rfl⟩, ⟨by decide +kernel, by decide +kernel, by decide +kernel⟩, by decide⟩
theorem ceX13_fault : jCE miX13_fault 12 0 := ⟨gm7 162 (by decide +kernel), gm7 163 (by decide +kernel), gm1 14 (by decide +kernel), gm7 164 ⟨rfl, rfl⟩, ⟨(RX13, TX13, 51), rfl, rfl⟩, ⟨by decide +kernel, by decide +kernel, by decide +kernel⟩, by decide⟩
theorem ceX13_feed : jCE miX13_feed 12 5 := ⟨gm7 21 (by decide +kernel), gm7 22 (by decide +kernel), gm1 14 (by decide +kernel), gm7 23 ⟨rfl, rfl⟩, ⟨(RX13, TX13, 51), rfl, rfl⟩, ⟨by decide +kernel, by decide +kernel, by decide +kernel⟩, by decide⟩
theorem seX13_findIn : jSE miX13_findIn 3 := ⟨gm7 117 (by decide +kernel), gm1 14 (by decide +kernel), gm7 118 ⟨rfl, rfl⟩, ⟨by decide +kernel, by decide +kernel, by decide +kernel⟩, by decide⟩
theorem ceX13_form : jCE miX13_form 12 2 := ⟨gm8 67 (by decide +kernel), gm8 68 (by decide +kernel), gm1 14 (by decide +kernel), gm8 69 ⟨rfl, rfl⟩, ⟨(RX13, TX13, 51), rfl, rfl⟩, ⟨by decide +kernel, by decide +kernel, by decide +kernel⟩, by decide⟩
theorem ceX13_formAt : jCE miX13_formAt 12 1 := ⟨gm8 71 (by decide +kernel), gm8 72 (by decide +kernel), gm1 14 (by decide +kernel), gm8 73 ⟨rfl, rfl⟩, ⟨(RX13, TX13, 51), rfl, rfl⟩, ⟨by decide +kernel, by decide +kernel, by decide +kernel⟩, by decide⟩
theorem ceX13_free : jCE miX13_free 12 0 := ⟨gm8 107 (by decide +kernel), gm8 108 (by decide +kernel), gm1 14 (by decide +kernel), gm8 109 ⟨rfl, rfl⟩, ⟨(RX13, TX13, 51), rfl, rfl⟩, ⟨by decide +kernel, by decide +kernel, by decide +kernel⟩, by decide⟩
theorem ceX13_freeMany : jCE miX13_freeMany 12 0 := ⟨gm8 112 (by decide +kernel), gmp 81 (n := 51) (by decide +kernel), gm1 14 (by decide +kernel), gm8 113 ⟨rfl, rfl⟩, ⟨(RX13, TX13, 51), rfl, rfl⟩, ⟨by decide +kernel, by decide +kernel, by decide +kernel⟩, by decide⟩
theorem ceX13_go : jCE miX13_go 12 0 := ⟨gm7 46 (by decide +kernel), gmp 42 (n := 51) (by decide +kernel), gm1 14 (by decide +kernel), gm7 47 ⟨rfl, rfl⟩, ⟨(RX13, TX13, 51), rfl, rfl⟩, ⟨by decide +kernel, by decide +kernel, by decide +kernel⟩, by decide⟩
theorem ceX13_goTriangles : jCE miX13_goTriangles 12 3 := ⟨gm8 184 (by decide +kernel), gmp 91 (n := 51) (by decide +kernel), gm1 14 (by decide +kernel), gm8 185 ⟨rfl, rfl⟩, ⟨(RX13, TX13, 51), rfl, rfl⟩, ⟨by decide +kernel, by decide +kernel, by decide +kernel⟩, by decide⟩
theorem ceX13_holds : jCE miX13_holds 12 2 := ⟨gm9 59 (by decide +kernel), gmp 110 (n := 51) (by decide +kernel), gm1 14 (by decide +kernel), gm9 60 ⟨rfl, rfl⟩, ⟨(RX13, TX13, 51), rfl, rfl⟩, ⟨by decide +kernel, by decide +kernel, by decide +kernel⟩, by decide⟩
theorem ceX13_image : jCE miX13_image 12 1 := ⟨gm9 62 (by decide +kernel), gm9 63 (by decide +kernel), gm1 14 (by decide +kernel), gm9 64 ⟨rfl, rfl⟩, ⟨(RX13, TX13, 51), rfl, rfl⟩, ⟨by decide +kernel, by decide +kernel, by decide +kernel⟩, by decide⟩
theorem ceX13_in : jCE miX13_in 12 2 := ⟨gm8 28 (by decide +kernel), gm8 29 (by decide +kernel), gm1 14 (by decide +kernel), gm8 30 ⟨rfl, rfl⟩, ⟨(RX13, TX13, 51), rfl, rfl⟩, ⟨by decide +kernel, by decide +kernel, by decide +kernel⟩, by decide⟩
theorem ceX13_isAt : jCE miX13_isAt 12 1 := ⟨gm7 175 (by decide +kernel), gmp 55 (n := 51) (by decide +kernel), gm1 14 (by decide +kernel), gm7 176 ⟨rfl, rfl⟩, ⟨(RX13, TX13, 51), rfl, rfl⟩, ⟨by decide +kernel, by decide +kernel, by decide +kernel⟩, by decide⟩
theorem ceX13_isBand : jCE miX13_isBand 12 1 := ⟨gm7 183 (by decide +kernel), gmp 56 (n := 51) (by decide +kernel), gm1 14 (by decide +kernel), gm7 184 ⟨rfl, rfl⟩, ⟨(RX13, TX13, 51), rfl, rfl⟩, ⟨by decide +kernel, by decide +kernel, by decide +kernel⟩, by decide⟩
theorem seX13_isBetween : jSE miX13_isBetween 3 := ⟨gm7 156 (by decide +kernel), gm1 14 (by decide +kernel), gm7 157 ⟨rfl, rfl⟩, ⟨by decide +kernel, by decide +kernel, by decide +kernel⟩, by decide⟩
theorem ceX13_isCut : jCE miX13_isCut 12 3 := ⟨gm8 200 (by decide +kernel), gmp 93 (n := 51) (by decide +kernel), gm1 14 (by decide +kernel), gm8 201 ⟨rfl, rfl⟩, ⟨(RX13, TX13, 51), rfl, rfl⟩, ⟨by decide +kernel, by decide +kernel, by decide +kernel⟩, by decide⟩
theorem seX13_isDigit : jSE miX13_isDigit 1 := ⟨gm7 52 (by decide +kernel), gm1 14 (by decide +kernel), gm7 53 ⟨rfl, rfl⟩, ⟨by decide +kernel, by decide +kernel, by decide +kernel⟩, by decide⟩
theorem ceX13_isFree : jCE miX13_isFree 12 2 := ⟨gm8 116 (by decide +kernel), gmp 82 (n := 51) (by decide +kernel), gm1 14 (by decide +kernel), gm8 117 ⟨rfl, rfl⟩, ⟨(RX13, TX13, 51), rfl, rfl⟩, ⟨by decide +kernel, by decide +kernel, by decide +kernel⟩, by decide⟩
theorem ceX13_isFreeEnd : jCE miX13_isFreeEnd 12 1 := ⟨gm8 235 (by decide +kernel), gmp 99 (n := 51) (by decide +kernel), gm1 14 (by decide +kernel), gm8 236 ⟨rfl, rfl⟩, ⟨(RX13, TX13, 51), rfl, rfl⟩, ⟨by decide +kernel, by decide +kernel, by decide +kernel⟩, by decide⟩
theorem seX13_isIn : jSE miX13_isIn 3 := ⟨gm7 90 (by decide +kernel), gm1 14 (by decide +kernel), gm7 91 ⟨rfl, rfl⟩, ⟨by decide +kernel, by decide +kernel, by decide +kernel⟩, by decide⟩
theorem seX13_isLetter : jSE miX13_isLetter 1 := ⟨gm7 49 (by decide +kernel), gm1 14 (by decide +kernel), gm7 50 ⟨rfl, rfl⟩, ⟨by decide +kernel, by decide +kernel, by decide +kernel⟩, by decide⟩
theorem ceX13_isName : jCE miX13_isName 12 0 := ⟨gm7 114 (by decide +kernel), gmp 54 (n := 51) (by decide +kernel), gm1 14 (by decide +kernel), gm7 115 ⟨rfl, rfl⟩, ⟨(RX13, TX13, 51), rfl, rfl⟩, ⟨by decide +kernel, by decide +kernel, by decide +kernel⟩, by decide⟩
theorem ceX13_isNumber : jCE miX13_isNumber 12 2 := ⟨gm7 87 (by decide +kernel), gmp 48 (n := 51) (by decide +kernel), gm1 14 (by decide +kernel), gm7 88 ⟨rfl, rfl⟩, ⟨(RX13, TX13, 51), rfl, rfl⟩, ⟨by decide +kernel, by decide +kernel, by decide +kernel⟩, by decide⟩
theorem ceX13_isOn : jCE miX13_isOn 12 3 := ⟨gm8 17 (by decide +kernel), gmp 70 (n := 51) (by decide +kernel), gm1 14 (by decide +kernel), gm8 18 ⟨rfl, rfl⟩, ⟨(RX13, TX13, 51), rfl, rfl⟩, ⟨by decide +kernel, by decide +kernel, by decide +kernel⟩, by decide⟩
theorem seX13_isOnSide : jSE miX13_isOnSide 6 := ⟨gm7 153 (by decide +kernel), gm1 14 (by decide +kernel), gm7 154 ⟨rfl, rfl⟩, ⟨by decide +kernel, by decide +kernel, by decide +kernel⟩, by decide⟩
theorem seX13_isPeg : jSE miX13_isPeg 3 := ⟨gm7 132 (by decide +kernel), gm1 14 (by decide +kernel), gm7 133 ⟨rfl, rfl⟩, ⟨by decide +kernel, by decide +kernel, by decide +kernel⟩, by decide⟩
theorem seX13_isPlace : jSE miX13_isPlace 3 := ⟨gm7 135 (by decide +kernel), gm1 14 (by decide +kernel), gm7 136 ⟨rfl, rfl⟩, ⟨by decide +kernel, by decide +kernel, by decide +kernel⟩, by decide⟩
theorem ceX13_isSame : jCE miX13_isSame 12 3 := ⟨gm8 80 (by decide +kernel), gmp 77 (n := 51) (by decide +kernel), gm1 14 (by decide +kernel), gm8 81 ⟨rfl, rfl⟩, ⟨(RX13, TX13, 51), rfl, rfl⟩, ⟨by decide +kernel, by decide +kernel, by decide +kernel⟩, by decide⟩
theorem ceX13_isSign : jCE miX13_isSign 12 1 := ⟨gm7 98 (by decide +kernel), gmp 50 (n := 51) (by decide +kernel), gm1 14 (by decide +kernel), gm7 99 ⟨rfl, rfl⟩, ⟨(RX13, TX13, 51), rfl, rfl⟩, ⟨by decide +kernel, by decide +kernel, by decide +kernel⟩, by decide⟩
theorem ceX13_isSmall : jCE miX13_isSmall 12 0 := ⟨gm8 227 (by decide +kernel), gmp 97 (n := 51) (by decide +kernel), gm1 14 (by decide +kernel), gm8 228 ⟨rfl, rfl⟩, ⟨(RX13, TX13, 51), rfl, rfl⟩, ⟨by decide +kernel, by decide +kernel, by decide +kernel⟩, by decide⟩
theorem ceX13_isWithin : jCE miX13_isWithin 12 3 := ⟨gm8 13 (by decide +kernel), gmp 69 (n := 51) (by decide +kernel), gm1 14 (by decide +kernel), gm8 14 ⟨rfl, rfl⟩, ⟨(RX13, TX13, 51), rfl, rfl⟩, ⟨by decide +kernel, by decide +kernel, by decide +kernel⟩, by decide⟩
theorem ceX13_isWord : jCE miX13_isWord 12 1 := ⟨gm7 66 (by decide +kernel), gmp 45 (n := 51) (by decide +kernel), gm1 14 (by decide +kernel), gm7 67 ⟨rfl, rfl⟩, ⟨(RX13, TX13, 51), rfl, rfl⟩, ⟨by decide +kernel, by decide +kernel, by decide +kernel⟩, by decide⟩
theorem ceX13_lay : jCE miX13_lay 12 0 := ⟨gm8 159 (by decide +kernel), gm8 160 (by decide +kernel), gm1 14 (by decide +kernel), gm8 161 ⟨rfl, rfl⟩, ⟨(RX13, TX13, 51), rfl, rfl⟩, ⟨by decide +kernel, by decide +kernel, by decide +kernel⟩, by decide⟩
theorem ceX13_layAlong : jCE miX13_layAlong 12 1 := ⟨gm8 196 (by decide +kernel), gmp 92 (n := 51) (by decide +kernel), gm1 14 (by decide +kernel), gm8 197 ⟨rfl, rfl⟩, ⟨(RX13, TX13, 51), rfl, rfl⟩, ⟨by decide +kernel, by decide +kernel, by decide +kernel⟩, by decide⟩
theorem ceX13_layCalls : jCE miX13_layCalls 12 4 := ⟨gm8 156 (by decide +kernel), gmp 88 (n := 51) (by decide +kernel), gm1 14 (by decide +kernel), gm8 157 ⟨rfl, rfl⟩, ⟨(RX13, TX13, 51), rfl, rfl⟩, ⟨by decide +kernel, by decide +kernel, by decide +kernel⟩, by decide⟩
theorem ceX13_layForm : jCE miX13_layForm 12 2 := ⟨gm8 53 (by decide +kernel), gmp 74 (n := 51) (by decide +kernel), gm1 14 (by decide +kernel), gm8 54 ⟨rfl, rfl⟩, ⟨(RX13, TX13, 51), rfl, rfl⟩, ⟨by decide +kernel, by decide +kernel, by decide +kernel⟩, by decide⟩
theorem ceX13_layLine : jCE miX13_layLine 12 2 := ⟨gm8 239 (by decide +kernel), gmp 100 (n := 51) (by decide +kernel), gm1 14 (by decide +kernel), gm9 0 ⟨rfl, rfl⟩, ⟨(RX13, TX13, 51), rfl, rfl⟩, ⟨by decide +kernel, by decide +kernel, by decide +kernel⟩, by decide⟩
theorem ceX13_layRead : jCE miX13_layRead 12 0 := ⟨gm8 92 (by decide +kernel), gmp 78 (n := 51) (by decide +kernel), gm1 14 (by decide +kernel), gm8 93 ⟨rfl, rfl⟩, ⟨(RX13, TX13, 51), rfl, rfl⟩, ⟨by decide +kernel, by decide +kernel, by decide +kernel⟩, by decide⟩
theorem ceX13_lays : jCE miX13_lays 12 4 := ⟨gm9 43 (by decide +kernel), gmp 107 (n := 51) (by decide +kernel), gm1 14 (by decide +kernel), gm9 44 ⟨rfl, rfl⟩, ⟨(RX13, TX13, 51), rfl, rfl⟩, ⟨by decide +kernel, by decide +kernel, by decide +kernel⟩, by decide⟩
theorem ceX13_leastRow : jCE miX13_leastRow 12 2 := ⟨gm8 61 (by decide +kernel), gmp 76 (n := 51) (by decide +kernel), gm1 14 (by decide +kernel), gm8 62 ⟨rfl, rfl⟩, ⟨(RX13, TX13, 51), rfl, rfl⟩, ⟨by decide +kernel, by decide +kernel, by decide +kernel⟩, by decide⟩
theorem ceX13_liesIn : jCE miX13_liesIn 12 2 := ⟨gm8 33 (by decide +kernel), gmp 72 (n := 51) (by decide +kernel), gm1 14 (by decide +kernel), gm8 34 ⟨rfl, rfl⟩, ⟨(RX13, TX13, 51), rfl, rfl⟩, ⟨by decide +kernel, by decide +kernel, by decide +kernel⟩, by decide⟩
theorem ceX13_line : jCE miX13_line 12 2 := ⟨gm8 222 (by decide +kernel), gm8 223 (by decide +kernel), gm1 14 (by decide +kernel), gm8 224 ⟨rfl, rfl⟩, ⟨(RX13, TX13, 51), rfl, rfl⟩, ⟨by decide +kernel, by decide +kernel, by decide +kernel⟩, by decide⟩
theorem ceX13_lines : jCE miX13_lines 12 1 := ⟨gm9 2 (by decide +kernel), gm9 3 (by decide +kernel), gm1 14 (by decide +kernel), gm9 4 ⟨rfl, rfl⟩, ⟨(RX13, TX13, 51), rfl, rfl⟩, ⟨by decide +kernel, by decide +kernel, by decide +kernel⟩, by decide⟩
theorem ceX13_mayLay : jCE miX13_mayLay 12 2 := ⟨gm8 231 (by decide +kernel), gmp 98 (n := 51) (by decide +kernel), gm1 14 (by decide +kernel), gm8 232 ⟨rfl, rfl⟩, ⟨(RX13, TX13, 51), rfl, rfl⟩, ⟨by decide +kernel, by decide +kernel, by decide +kernel⟩, by decide⟩
theorem seX13_meet : jSE miX13_meet 8 := ⟨gm7 150 (by decide +kernel), gm1 14 (by decide +kernel), gm7 151 ⟨rfl, rfl⟩, ⟨by decide +kernel, by decide +kernel, by decide +kernel⟩, by decide⟩
theorem seX13_meetSides : jSE miX13_meetSides 5 := ⟨gm7 147 (by decide +kernel), gm1 14 (by decide +kernel), gm7 148 ⟨rfl, rfl⟩, ⟨by decide +kernel, by decide +kernel, by decide +kernel⟩, by decide⟩
theorem seX13_meetsOther : jSE miX13_meetsOther 3 := ⟨gm7 159 (by decide +kernel), gm1 14 (by decide +kernel), gm7 160 ⟨rfl, rfl⟩, ⟨by decide +kernel, by decide +kernel, by decide +kernel⟩, by decide⟩
theorem ceX13_mended : jCE miX13_mended 12 1 := ⟨gm8 151 (by decide +kernel), gm8 152 (by decide +kernel), gm1 14 (by decide +kernel), gm8 153 ⟨rfl, rfl⟩, ⟨(RX13, TX13, 51), rfl, rfl⟩, ⟨by decide +kernel, by decide +kernel, by decide +kernel⟩, by decide⟩
theorem ceX13_move : jCE miX13_move 12 3 := ⟨gm8 87 (by decide +kernel), gm8 88 (by decide +kernel), gm1 14 (by decide +kernel), gm8 89 ⟨rfl, rfl⟩, ⟨(RX13, TX13, 51), rfl, rfl⟩, ⟨by decide +kernel, by decide +kernel, by decide +kernel⟩, by decide⟩
theorem ceX13_moved : jCE miX13_moved 12 2 := ⟨gm8 203 (by decide +kernel), gm8 204 (by decide +kernel), gm1 14 (by decide +kernel), gm8 205 ⟨rfl, rfl⟩, ⟨(RX13, TX13, 51), rfl, rfl⟩, ⟨by decide +kernel, by decide +kernel, by decide +kernel⟩, by decide⟩
theorem seX13_on : jSE miX13_on 4 := ⟨gm7 75 (by decide +kernel), gm1 14 (by decide +kernel), gm7 76 ⟨rfl, rfl⟩, ⟨by decide +kernel, by decide +kernel, by decide +kernel⟩, by decide⟩
theorem ceX13_onMany : jCE miX13_onMany 12 1 := ⟨gm7 218 (by decide +kernel), gmp 64 (n := 51) (by decide +kernel), gm1 14 (by decide +kernel), gm7 219 ⟨rfl, rfl⟩, ⟨(RX13, TX13, 51), rfl, rfl⟩, ⟨by decide +kernel, by decide +kernel, by decide +kernel⟩, by decide⟩
theorem ceX13_over : jCE miX13_over 12 2 := ⟨gm8 8 (by decide +kernel), gm8 9 (by decide +kernel), gm1 14 (by decide +kernel), gm8 10 ⟨rfl, rfl⟩, ⟨(RX13, TX13, 51), rfl, rfl⟩, ⟨by decide +kernel, by decide +kernel, by decide +kernel⟩, by decide⟩
theorem ceX13_peg : jCE miX13_peg 12 1 := ⟨gm7 170 (by decide +kernel), gm7 171 (by decide +kernel), gm1 14 (by decide +kernel), gm7 172 ⟨rfl, rfl⟩, ⟨(RX13, TX13, 51), rfl, rfl⟩, ⟨by decide +kernel, by decide +kernel, by decide +kernel⟩, by decide⟩
theorem ceX13_placeOf : jCE miX13_placeOf 12 2 := ⟨gm8 212 (by decide +kernel), gmp 95 (n := 51) (by decide +kernel), gm1 14 (by decide +kernel), gm8 213 ⟨rfl, rfl⟩, ⟨(RX13, TX13, 51), rfl, rfl⟩, ⟨by decide +kernel, by decide +kernel, by decide +kernel⟩, by decide⟩
theorem ceX13_put : jCE miX13_put 12 1 := ⟨gm8 168 (by decide +kernel), gmp 89 (n := 51) (by decide +kernel), gm1 14 (by decide +kernel), gm8 169 ⟨rfl, rfl⟩, ⟨(RX13, TX13, 51), rfl, rfl⟩, ⟨by decide +kernel, by decide +kernel, by decide +kernel⟩, by decide⟩
theorem ceX13_putSigned : jCE miX13_putSigned 12 1 := ⟨gm8 172 (by decide +kernel), gmp 90 (n := 51) (by decide +kernel), gm1 14 (by decide +kernel), gm8 173 ⟨rfl, rfl⟩, ⟨(RX13, TX13, 51), rfl, rfl⟩, ⟨by decide +kernel, by decide +kernel, by decide +kernel⟩, by decide⟩
theorem ceX13_readAnd : jCE miX13_readAnd 12 0 := ⟨gm9 27 (by decide +kernel), gmp 103 (n := 51) (by decide +kernel), gm1 14 (by decide +kernel), gm9 28 ⟨rfl, rfl⟩, ⟨(RX13, TX13, 51), rfl, rfl⟩, ⟨by decide +kernel, by decide +kernel, by decide +kernel⟩, by decide⟩
theorem ceX13_readAt : jCE miX13_readAt 12 0 := ⟨gm8 128 (by decide +kernel), gmp 83 (n := 51) (by decide +kernel), gm1 14 (by decide +kernel), gm8 129 ⟨rfl, rfl⟩, ⟨(RX13, TX13, 51), rfl, rfl⟩, ⟨by decide +kernel, by decide +kernel, by decide +kernel⟩, by decide⟩
theorem ceX13_readBand : jCE miX13_readBand 12 0 := ⟨gm7 110 (by decide +kernel), gmp 53 (n := 51) (by decide +kernel), gm1 14 (by decide +kernel), gm7 111 ⟨rfl, rfl⟩, ⟨(RX13, TX13, 51), rfl, rfl⟩, ⟨by decide +kernel, by decide +kernel, by decide +kernel⟩, by decide⟩
theorem ceX13_readBell : jCE miX13_readBell 12 0 := ⟨gm7 102 (by decide +kernel), gmp 51 (n := 51) (by decide +kernel), gm1 14 (by decide +kernel), gm7 103 ⟨rfl, rfl⟩, ⟨(RX13, TX13, 51), rfl, rfl⟩, ⟨by decide +kernel, by decide +kernel, by decide +kernel⟩, by decide⟩
theorem ceX13_readBracket : jCE miX13_readBracket 12 0 := ⟨gm9 35 (by decide +kernel), gmp 105 (n := 51) (by decide +kernel), gm1 14 (by decide +kernel), gm9 36 ⟨rfl, rfl⟩, ⟨(RX13, TX13, 51), rfl, rfl⟩, ⟨by decide +kernel, by decide +kernel, by decide +kernel⟩, by decide⟩
theorem ceX13_readBy : jCE miX13_readBy 12 0 := ⟨gm8 132 (by decide +kernel), gmp 84 (n := 51) (by decide +kernel), gm1 14 (by decide +kernel), gm8 133 ⟨rfl, rfl⟩, ⟨(RX13, TX13, 51), rfl, rfl⟩, ⟨by decide +kernel, by decide +kernel, by decide +kernel⟩, by decide⟩
theorem ceX13_readCompare : jCE miX13_readCompare 12 1 := ⟨gm9 51 (by decide +kernel), gmp 109 (n := 51) (by decide +kernel), gm1 14 (by decide +kernel), gm9 52 ⟨rfl, rfl⟩, ⟨(RX13, TX13, 51), rfl, rfl⟩, ⟨by decide +kernel, by decide +kernel, by decide +kernel⟩, by decide⟩
theorem ceX13_readEnd : jCE miX13_readEnd 12 0 := ⟨gm7 94 (by decide +kernel), gmp 49 (n := 51) (by decide +kernel), gm1 14 (by decide +kernel), gm7 95 ⟨rfl, rfl⟩, ⟨(RX13, TX13, 51), rfl, rfl⟩, ⟨by decide +kernel, by decide +kernel, by decide +kernel⟩, by decide⟩
theorem ceX13_readHead : jCE miX13_readHead 12 0 := ⟨gm7 62 (by decide +kernel), gmp 44 (n := 51) (by decide +kernel), gm1 14 (by decide +kernel), gm7 63 ⟨rfl, rfl⟩, ⟨(RX13, TX13, 51), rfl, rfl⟩, ⟨by decide +kernel, by decide +kernel, by decide +kernel⟩, by decide⟩
theorem ceX13_readNamed : jCE miX13_readNamed 12 1 := ⟨gm9 47 (by decide +kernel), gmp 108 (n := 51) (by decide +kernel), gm1 14 (by decide +kernel), gm9 48 ⟨rfl, rfl⟩, ⟨(RX13, TX13, 51), rfl, rfl⟩, ⟨by decide +kernel, by decide +kernel, by decide +kernel⟩, by decide⟩
theorem ceX13_readNot : jCE miX13_readNot 12 0 := ⟨gm9 39 (by decide +kernel), gmp 106 (n := 51) (by decide +kernel), gm1 14 (by decide +kernel), gm9 40 ⟨rfl, rfl⟩, ⟨(RX13, TX13, 51), rfl, rfl⟩, ⟨by decide +kernel, by decide +kernel, by decide +kernel⟩, by decide⟩
theorem ceX13_readNumber : jCE miX13_readNumber 12 2 := ⟨gm7 83 (by decide +kernel), gmp 47 (n := 51) (by decide +kernel), gm1 14 (by decide +kernel), gm7 84 ⟨rfl, rfl⟩, ⟨(RX13, TX13, 51), rfl, rfl⟩, ⟨by decide +kernel, by decide +kernel, by decide +kernel⟩, by decide⟩
theorem ceX13_readOne : jCE miX13_readOne 12 0 := ⟨gm9 31 (by decide +kernel), gmp 104 (n := 51) (by decide +kernel), gm1 14 (by decide +kernel), gm9 32 ⟨rfl, rfl⟩, ⟨(RX13, TX13, 51), rfl, rfl⟩, ⟨by decide +kernel, by decide +kernel, by decide +kernel⟩, by decide⟩
theorem ceX13_readOr : jCE miX13_readOr 12 0 := ⟨gm9 23 (by decide +kernel), gmp 102 (n := 51) (by decide +kernel), gm1 14 (by decide +kernel), gm9 24 ⟨rfl, rfl⟩, ⟨(RX13, TX13, 51), rfl, rfl⟩, ⟨by decide +kernel, by decide +kernel, by decide +kernel⟩, by decide⟩
theorem ceX13_readOut : jCE miX13_readOut 12 0 := ⟨gm7 106 (by decide +kernel), gmp 52 (n := 51) (by decide +kernel), gm1 14 (by decide +kernel), gm7 107 ⟨rfl, rfl⟩, ⟨(RX13, TX13, 51), rfl, rfl⟩, ⟨by decide +kernel, by decide +kernel, by decide +kernel⟩, by decide⟩
theorem ceX13_readSigned : jCE miX13_readSigned 12 0 := ⟨gm8 136 (by decide +kernel), gmp 85 (n := 51) (by decide +kernel), gm1 14 (by decide +kernel), gm8 137 ⟨rfl, rfl⟩, ⟨(RX13, TX13, 51), rfl, rfl⟩, ⟨by decide +kernel, by decide +kernel, by decide +kernel⟩, by decide⟩
theorem ceX13_refuse : jCE miX13_refuse 12 0 := ⟨gm7 191 (by decide +kernel), gmp 58 (n := 51) (by decide +kernel), gm1 14 (by decide +kernel), gm7 192 ⟨rfl, rfl⟩, ⟨(RX13, TX13, 51), rfl, rfl⟩, ⟨by decide +kernel, by decide +kernel, by decide +kernel⟩, by decide⟩
theorem ceX13_restore : jCE miX13_restore 12 1 := ⟨gm9 66 (by decide +kernel), gm9 67 (by decide +kernel), gm1 14 (by decide +kernel), gm9 68 ⟨rfl, rfl⟩, ⟨(RX13, TX13, 51), rfl, rfl⟩, ⟨by decide +kernel, by decide +kernel, by decide +kernel⟩, by decide⟩
theorem ceX13_right : jCE miX13_right 12 1 := ⟨gm7 233 (by decide +kernel), gmp 67 (n := 51) (by decide +kernel), gm1 14 (by decide +kernel), gm7 234 ⟨rfl, rfl⟩, ⟨(RX13, TX13, 51), rfl, rfl⟩, ⟨by decide +kernel, by decide +kernel, by decide +kernel⟩, by decide⟩
theorem ceX13_rim : jCE miX13_rim 12 2 := ⟨gm8 36 (by decide +kernel), gm8 37 (by decide +kernel), gm1 14 (by decide +kernel), gm8 38 ⟨rfl, rfl⟩, ⟨(RX13, TX13, 51), rfl, rfl⟩, ⟨by decide +kernel, by decide +kernel, by decide +kernel⟩, by decide⟩
theorem ceX13_said : jCE miX13_said 12 1 := ⟨gm9 54 (by decide +kernel), gm9 55 (by decide +kernel), gm1 14 (by decide +kernel), gm9 56 ⟨rfl, rfl⟩, ⟨(RX13, TX13, 51), rfl, rfl⟩, ⟨by decide +kernel, by decide +kernel, by decide +kernel⟩, by decide⟩
theorem ceX13_sentence : jCE miX13_sentence 12 0 := ⟨gm9 18 (by decide +kernel), gm9 19 (by decide +kernel), gm1 14 (by decide +kernel), gm9 20 ⟨rfl, rfl⟩, ⟨(RX13, TX13, 51), rfl, rfl⟩, ⟨by decide +kernel, by decide +kernel, by decide +kernel⟩, by decide⟩
theorem seX13_setOf : jSE miX13_setOf 1 := ⟨gm8 215 (by decide +kernel), gm1 14 (by decide +kernel), gm8 216 ⟨rfl, rfl⟩, ⟨by decide +kernel, by decide +kernel, by decide +kernel⟩, by decide⟩
theorem ceX13_side : jCE miX13_side 12 2 := ⟨gm8 4 (by decide +kernel), gm8 5 (by decide +kernel), gm1 14 (by decide +kernel), gm8 6 ⟨rfl, rfl⟩, ⟨(RX13, TX13, 51), rfl, rfl⟩, ⟨by decide +kernel, by decide +kernel, by decide +kernel⟩, by decide⟩
theorem seX13_sign : jSE miX13_sign 1 := ⟨gm7 144 (by decide +kernel), gm1 14 (by decide +kernel), gm7 145 ⟨rfl, rfl⟩, ⟨by decide +kernel, by decide +kernel, by decide +kernel⟩, by decide⟩
theorem ceX13_signedArea : jCE miX13_signedArea 12 1 := ⟨gm7 203 (by decide +kernel), gmp 61 (n := 51) (by decide +kernel), gm1 14 (by decide +kernel), gm7 204 ⟨rfl, rfl⟩, ⟨(RX13, TX13, 51), rfl, rfl⟩, ⟨by decide +kernel, by decide +kernel, by decide +kernel⟩, by decide⟩
theorem seX13_size : jSE miX13_size 1 := ⟨gm7 214 (by decide +kernel), gm1 14 (by decide +kernel), gm7 215 ⟨rfl, rfl⟩, ⟨by decide +kernel, by decide +kernel, by decide +kernel⟩, by decide⟩
theorem ceX13_slide : jCE miX13_slide 12 3 := ⟨gm8 103 (by decide +kernel), gm8 104 (by decide +kernel), gm1 14 (by decide +kernel), gm8 105 ⟨rfl, rfl⟩, ⟨(RX13, TX13, 51), rfl, rfl⟩, ⟨by decide +kernel, by decide +kernel, by decide +kernel⟩, by decide⟩
theorem ceX13_smallest : jCE miX13_smallest 12 2 := ⟨gm8 187 (by decide +kernel), gm8 188 (by decide +kernel), gm1 14 (by decide +kernel), gm8 189 ⟨rfl, rfl⟩, ⟨(RX13, TX13, 51), rfl, rfl⟩, ⟨by decide +kernel, by decide +kernel, by decide +kernel⟩, by decide⟩
theorem ceX13_snap : jCE miX13_snap 12 1 := ⟨gm8 119 (by decide +kernel), gm8 120 (by decide +kernel), gm1 14 (by decide +kernel), gm8 121 ⟨rfl, rfl⟩, ⟨(RX13, TX13, 51), rfl, rfl⟩, ⟨by decide +kernel, by decide +kernel, by decide +kernel⟩, by decide⟩
theorem ceX13_snapShot : jCE miX13_snapShot 12 0 := ⟨gm8 100 (by decide +kernel), gmp 80 (n := 51) (by decide +kernel), gm1 14 (by decide +kernel), gm8 101 ⟨rfl, rfl⟩, ⟨(RX13, TX13, 51), rfl, rfl⟩, ⟨by decide +kernel, by decide +kernel, by decide +kernel⟩, by decide⟩
theorem seX13_spelt : jSE miX13_spelt 4 := ⟨gm7 72 (by decide +kernel), gm1 14 (by decide +kernel), gm7 73 ⟨rfl, rfl⟩, ⟨by decide +kernel, by decide +kernel, by decide +kernel⟩, by decide⟩
theorem ceX13_stateOf : jCE miX13_stateOf 12 1 := ⟨gm8 208 (by decide +kernel), gmp 94 (n := 51) (by decide +kernel), gm1 14 (by decide +kernel), gm8 209 ⟨rfl, rfl⟩, ⟨(RX13, TX13, 51), rfl, rfl⟩, ⟨by decide +kernel, by decide +kernel, by decide +kernel⟩, by decide⟩
theorem ceX13_sum : jCE miX13_sum 12 1 := ⟨gm8 148 (by decide +kernel), gmp 87 (n := 51) (by decide +kernel), gm1 14 (by decide +kernel), gm8 149 ⟨rfl, rfl⟩, ⟨(RX13, TX13, 51), rfl, rfl⟩, ⟨by decide +kernel, by decide +kernel, by decide +kernel⟩, by decide⟩
theorem ceX13_take : jCE miX13_take 12 0 := ⟨gm7 42 (by decide +kernel), gmp 41 (n := 51) (by decide +kernel), gm1 14 (by decide +kernel), gm7 43 ⟨rfl, rfl⟩, ⟨(RX13, TX13, 51), rfl, rfl⟩, ⟨by decide +kernel, by decide +kernel, by decide +kernel⟩, by decide⟩
theorem ceX13_tapeAt : jCE miX13_tapeAt 12 1 := ⟨gm7 56 (by decide +kernel), gmp 43 (n := 51) (by decide +kernel), gm1 14 (by decide +kernel), gm7 57 ⟨rfl, rfl⟩, ⟨(RX13, TX13, 51), rfl, rfl⟩, ⟨by decide +kernel, by decide +kernel, by decide +kernel⟩, by decide⟩
theorem ceX13_thrown : jCE miX13_thrown 12 0 := ⟨gm7 17 (by decide +kernel), gm7 18 (by decide +kernel), gm1 14 (by decide +kernel), gm7 19 ⟨rfl, rfl⟩, ⟨(RX13, TX13, 51), rfl, rfl⟩, ⟨by decide +kernel, by decide +kernel, by decide +kernel⟩, by decide⟩
theorem ceX13_triangles : jCE miX13_triangles 12 3 := ⟨gm8 179 (by decide +kernel), gm8 180 (by decide +kernel), gm1 14 (by decide +kernel), gm8 181 ⟨rfl, rfl⟩, ⟨(RX13, TX13, 51), rfl, rfl⟩, ⟨by decide +kernel, by decide +kernel, by decide +kernel⟩, by decide⟩
theorem seX13_turn : jSE miX13_turn 6 := ⟨gm7 141 (by decide +kernel), gm1 14 (by decide +kernel), gm7 142 ⟨rfl, rfl⟩, ⟨by decide +kernel, by decide +kernel, by decide +kernel⟩, by decide⟩
theorem seX13_turnAt : jSE miX13_turnAt 3 := ⟨gm7 138 (by decide +kernel), gm1 14 (by decide +kernel), gm7 139 ⟨rfl, rfl⟩, ⟨by decide +kernel, by decide +kernel, by decide +kernel⟩, by decide⟩
theorem ceX13_turnBand : jCE miX13_turnBand 12 3 := ⟨gm8 57 (by decide +kernel), gmp 75 (n := 51) (by decide +kernel), gm1 14 (by decide +kernel), gm8 58 ⟨rfl, rfl⟩, ⟨(RX13, TX13, 51), rfl, rfl⟩, ⟨by decide +kernel, by decide +kernel, by decide +kernel⟩, by decide⟩
theorem ceX13_undo : jCE miX13_undo 12 0 := ⟨gm8 83 (by decide +kernel), gm8 84 (by decide +kernel), gm1 14 (by decide +kernel), gm8 85 ⟨rfl, rfl⟩, ⟨(RX13, TX13, 51), rfl, rfl⟩, ⟨by decide +kernel, by decide +kernel, by decide +kernel⟩, by decide⟩
theorem ceX13_why : jCE miX13_why 12 0 := ⟨gm7 166 (by decide +kernel), gm7 167 (by decide +kernel), gm1 14 (by decide +kernel), gm7 168 ⟨rfl, rfl⟩, ⟨(RX13, TX13, 51), rfl, rfl⟩, ⟨by decide +kernel, by decide +kernel, by decide +kernel⟩, by decide⟩
theorem ceX13_wide : jCE miX13_wide 12 1 := ⟨gm8 40 (by decide +kernel), gm8 41 (by decide +kernel), gm1 14 (by decide +kernel), gm8 42 ⟨rfl, rfl⟩, ⟨(RX13, TX13, 51), rfl, rfl⟩, ⟨by decide +kernel, by decide +kernel, by decide +kernel⟩, by decide⟩
theorem ceX13_winning : jCE miX13_winning 12 0 := ⟨gm9 11 (by decide +kernel), gmp 101 (n := 51) (by decide +kernel), gm1 14 (by decide +kernel), gm9 12 ⟨rfl, rfl⟩, ⟨(RX13, TX13, 51), rfl, rfl⟩, ⟨by decide +kernel, by decide +kernel, by decide +kernel⟩, by decide⟩
theorem ceX13_wins : jCE miX13_wins 12 0 := ⟨gm9 6 (by decide +kernel), gm9 7 (by decide +kernel), gm1 14 (by decide +kernel), gm9 8 ⟨rfl, rfl⟩, ⟨(RX13, TX13, 51), rfl, rfl⟩, ⟨by decide +kernel, by decide +kernel, by decide +kernel⟩, by decide⟩
theorem ceX13_within : jCE miX13_within 12 1 := ⟨gm7 225 (by decide +kernel), gmp 65 (n := 51) (by decide +kernel), gm1 14 (by decide +kernel), gm7 226 ⟨rfl, rfl⟩, ⟨(RX13, TX13, 51), rfl, rfl⟩, ⟨by decide +kernel, by decide +kernel, by decide +kernel⟩, by decide⟩
theorem seX13_wordOf : jSE miX13_wordOf 1 := ⟨gm7 69 (by decide +kernel), gm1 14 (by decide +kernel), gm7 70 ⟨rfl, rfl⟩, ⟨by decide +kernel, by decide +kernel, by decide +kernel⟩, by decide⟩
theorem ceX13_write : jCE miX13_write 12 1 := ⟨gm8 163 (by decide +kernel), gm8 164 (by decide +kernel), gm1 14 (by decide +kernel), gm8 165 ⟨rfl, rfl⟩, ⟨(RX13, TX13, 51), rfl, rfl⟩, ⟨by decide +kernel, by decide +kernel, by decide +kernel⟩, by decide⟩
theorem seX13_wrong : jSE miX13_wrong 3 := ⟨gm7 120 (by decide +kernel), gm1 14 (by decide +kernel), gm7 121 ⟨rfl, rfl⟩, ⟨by decide +kernel, by decide +kernel, by decide +kernel⟩, by decide⟩
theorem ceX13_x : jCE miX13_x 12 2 := ⟨gm7 207 (by decide +kernel), gmp 62 (n := 51) (by decide +kernel), gm1 14 (by decide +kernel), gm7 208 ⟨rfl, rfl⟩, ⟨(RX13, TX13, 51), rfl, rfl⟩, ⟨by decide +kernel, by decide +kernel, by decide +kernel⟩, by decide⟩
theorem seX13_xOf : jSE miX13_xOf 3 := ⟨gm7 126 (by decide +kernel), gm1 14 (by decide +kernel), gm7 127 ⟨rfl, rfl⟩, ⟨by decide +kernel, by decide +kernel, by decide +kernel⟩, by decide⟩
theorem ceX13_y : jCE miX13_y 12 2 := ⟨gm7 211 (by decide +kernel), gmp 63 (n := 51) (by decide +kernel), gm1 14 (by decide +kernel), gm7 212 ⟨rfl, rfl⟩, ⟨(RX13, TX13, 51), rfl, rfl⟩, ⟨by decide +kernel, by decide +kernel, by decide +kernel⟩, by decide⟩
theorem seX13_yOf : jSE miX13_yOf 3 := ⟨gm7 129 (by decide +kernel), gm1 14 (by decide +kernel), gm7 130 ⟨rfl, rfl⟩, ⟨by decide +kernel, by decide +kernel, by decide +kernel⟩, by decide⟩
theorem ceX1_copyFrom : jCE miX1_copyFrom 1 1 := ⟨gm3 132 (by decide +kernel), gm3 133 (by decide +kernel), gm1 6 (by decide +kernel), gm3 134 ⟨rfl, rfl⟩, ⟨(RX1, TX1, 10), rfl, rfl⟩, ⟨by decide +kernel, by decide +kernel, by decide +kernel⟩, by decide⟩
theorem ceX1_idOf : jCE miX1_idOf 1 1 := ⟨gm3 79 (by decide +kernel), gm3 80 (by decide +kernel), gm1 6 (by decide +kernel), gm3 81 ⟨rfl, rfl⟩, ⟨(RX1, TX1, 10), rfl, rfl⟩, ⟨by decide +kernel, by decide +kernel, by decide +kernel⟩, by decide⟩
theorem seX1_isKnotted : jSE miX1_isKnotted 2 := ⟨gm3 98 (by decide +kernel), gm1 6 (by decide +kernel), gm3 99 ⟨rfl, rfl⟩, ⟨by decide +kernel, by decide +kernel, by decide +kernel⟩, by decide⟩
theorem ceX1_isOut : jCE miX1_isOut 1 1 := ⟨gm3 63 (by decide +kernel), gmp 3 (n := 10) (by decide +kernel), gm1 6 (by decide +kernel), gm3 64 ⟨rfl, rfl⟩, ⟨(RX1, TX1, 10), rfl, rfl⟩, ⟨by decide +kernel, by decide +kernel, by decide +kernel⟩, by decide⟩
theorem ceX1_isTold : jCE miX1_isTold 1 0 := ⟨gm4 217 (by decide +kernel), gm4 218 (by decide +kernel), gm1 6 (by decide +kernel), gm4 219 ⟨rfl, rfl⟩, ⟨(RX1, TX1, 10), rfl, rfl⟩, ⟨by decide +kernel, by decide +kernel, by decide +kernel⟩, by decide⟩
theorem ceX1_meetsOthers : jCE miX1_meetsOthers 1 3 := ⟨gm3 109 (by decide +kernel), gmp 8 (n := 10) (by decide +kernel), gm1 6 (by decide +kernel), gm3 110 ⟨rfl, rfl⟩, ⟨(RX1, TX1, 10), rfl, rfl⟩, ⟨by decide +kernel, by decide +kernel, by decide +kernel⟩, by decide⟩
theorem ceX1_pegAt : jCE miX1_pegAt 1 1 := ⟨gm3 58 (by decide +kernel), gm3 59 (by decide +kernel), gm1 6 (by decide +kernel), gm3 60 ⟨rfl, rfl⟩, ⟨(RX1, TX1, 10), rfl, rfl⟩, ⟨by decide +kernel, by decide +kernel, by decide +kernel⟩, by decide⟩
theorem ceX1_place : jCE miX1_place 1 2 := ⟨gm3 53 (by decide +kernel), gm3 54 (by decide +kernel), gm1 6 (by decide +kernel), gm3 55 ⟨rfl, rfl⟩, ⟨(RX1, TX1, 10), rfl, rfl⟩, ⟨by decide +kernel, by decide +kernel, by decide +kernel⟩, by decide⟩
theorem ceX1_readBand : jCE miX1_readBand 1 2 := ⟨gm3 71 (by decide +kernel), gmp 5 (n := 10) (by decide +kernel), gm1 6 (by decide +kernel), gm3 72 ⟨rfl, rfl⟩, ⟨(RX1, TX1, 10), rfl, rfl⟩, ⟨by decide +kernel, by decide +kernel, by decide +kernel⟩, by decide⟩
theorem ceX1_readCorners : jCE miX1_readCorners 1 2 := ⟨gm3 84 (by decide +kernel), gmp 7 (n := 10) (by decide +kernel), gm1 6 (by decide +kernel), gm3 85 ⟨rfl, rfl⟩, ⟨(RX1, TX1, 10), rfl, rfl⟩, ⟨by decide +kernel, by decide +kernel, by decide +kernel⟩, by decide⟩
theorem ceX1_readLine : jCE miX1_readLine 1 2 := ⟨gm3 41 (by decide +kernel), gm3 42 (by decide +kernel), gm1 6 (by decide +kernel), gm3 43 ⟨rfl, rfl⟩, ⟨(RX1, TX1, 10), rfl, rfl⟩, ⟨by decide +kernel, by decide +kernel, by decide +kernel⟩, by decide⟩
theorem ceX1_readName : jCE miX1_readName 1 1 := ⟨gm3 75 (by decide +kernel), gmp 6 (n := 10) (by decide +kernel), gm1 6 (by decide +kernel), gm3 76 ⟨rfl, rfl⟩, ⟨(RX1, TX1, 10), rfl, rfl⟩, ⟨by decide +kernel, by decide +kernel, by decide +kernel⟩, by decide⟩
theorem ceX1_readOut : jCE miX1_readOut 1 1 := ⟨gm3 48 (by decide +kernel), gmp 2 (n := 10) (by decide +kernel), gm1 6 (by decide +kernel), gm3 49 ⟨rfl, rfl⟩, ⟨(RX1, TX1, 10), rfl, rfl⟩, ⟨by decide +kernel, by decide +kernel, by decide +kernel⟩, by decide⟩
theorem ceX1_readSize : jCE miX1_readSize 1 1 := ⟨gm3 13 (by decide +kernel), gm3 14 (by decide +kernel), gm1 6 (by decide +kernel), gm3 15 ⟨rfl, rfl⟩, ⟨(RX1, TX1, 10), rfl, rfl⟩, ⟨by decide +kernel, by decide +kernel, by decide +kernel⟩, by decide⟩
theorem ceX1_takeOut : jCE miX1_takeOut 1 1 := ⟨gm3 67 (by decide +kernel), gmp 4 (n := 10) (by decide +kernel), gm1 6 (by decide +kernel), gm3 68 ⟨rfl, rfl⟩, ⟨(RX1, TX1, 10), rfl, rfl⟩, ⟨by decide +kernel, by decide +kernel, by decide +kernel⟩, by decide⟩
theorem ceX1_wrongAlone : jCE miX1_wrongAlone 1 2 := ⟨gm3 91 (by decide +kernel), gm3 92 (by decide +kernel), gm1 6 (by decide +kernel), gm3 93 ⟨rfl, rfl⟩, ⟨(RX1, TX1, 10), rfl, rfl⟩, ⟨by decide +kernel, by decide +kernel, by decide +kernel⟩, by decide⟩
theorem ceX1_wrongOf : jCE miX1_wrongOf 1 3 := ⟨gm3 87 (by decide +kernel), gm3 88 (by decide +kernel), gm1 6 (by decide +kernel), gm3 89 ⟨rfl, rfl⟩, ⟨(RX1, TX1, 10), rfl, rfl⟩, ⟨by decide +kernel, by decide +kernel, by decide +kernel⟩, by decide⟩
theorem ceX2_at : jCE miX2_at 2 1 := ⟨gm2 183 (by decide +kernel), gm2 184 (by decide +kernel), gm1 3 (by decide +kernel), gm2 185 ⟨rfl, rfl⟩, ⟨(RX2, TX2, 2), rfl, rfl⟩, ⟨by decide +kernel, by decide +kernel, by decide +kernel⟩, by decide⟩
theorem ceX2_hasRoom : jCE miX2_hasRoom 2 1 := ⟨gm2 151 (by decide +kernel), gm2 152 (by decide +kernel), gm1 3 (by decide +kernel), gm2 153 ⟨rfl, rfl⟩, ⟨(RX2, TX2, 2), rfl, rfl⟩, ⟨by decide +kernel, by decide +kernel, by decide +kernel⟩, by decide⟩
theorem ceX2_put : jCE miX2_put 2 1 := ⟨gm2 159 (by decide +kernel), gm2 160 (by decide +kernel), gm1 3 (by decide +kernel), gm2 161 ⟨rfl, rfl⟩, ⟨(RX2, TX2, 2), rfl, rfl⟩, ⟨by decide +kernel, by decide +kernel, by decide +kernel⟩, by decide⟩
theorem ceX2_putFour : jCE miX2_putFour 2 1 := ⟨gm2 155 (by decide +kernel), gm2 156 (by decide +kernel), gm1 3 (by decide +kernel), gm2 157 ⟨rfl, rfl⟩, ⟨(RX2, TX2, 2), rfl, rfl⟩, ⟨by decide +kernel, by decide +kernel, by decide +kernel⟩, by decide⟩
theorem ceX2_putNumber : jCE miX2_putNumber 2 1 := ⟨gm4 198 (by decide +kernel), gm4 199 (by decide +kernel), gm1 3 (by decide +kernel), gm4 200 ⟨rfl, rfl⟩, ⟨(RX2, TX2, 2), rfl, rfl⟩, ⟨by decide +kernel, by decide +kernel, by decide +kernel⟩, by decide⟩
theorem ceX3_copyFrom : jCE miX3_copyFrom 3 1 := ⟨gm4 138 (by decide +kernel), gm4 139 (by decide +kernel), gm1 8 (by decide +kernel), gm4 140 ⟨rfl, rfl⟩, ⟨(RX3, TX3, 5), rfl, rfl⟩, ⟨by decide +kernel, by decide +kernel, by decide +kernel⟩, by decide⟩
theorem ceX3_isClosed : jCE miX3_isClosed 3 0 := ⟨gm4 147 (by decide +kernel), gm4 148 (by decide +kernel), gm1 8 (by decide +kernel), gm4 149 ⟨rfl, rfl⟩, ⟨(RX3, TX3, 5), rfl, rfl⟩, ⟨by decide +kernel, by decide +kernel, by decide +kernel⟩, by decide⟩
theorem ceX3_layOut : jCE miX3_layOut 3 3 := ⟨gm4 163 (by decide +kernel), gm4 164 (by decide +kernel), gm1 8 (by decide +kernel), gm4 165 ⟨rfl, rfl⟩, ⟨(RX3, TX3, 5), rfl, rfl⟩, ⟨by decide +kernel, by decide +kernel, by decide +kernel⟩, by decide⟩
theorem ceX3_readBy : jCE miX3_readBy 3 1 := ⟨gm4 127 (by decide +kernel), gmp 18 (n := 5) (by decide +kernel), gm1 8 (by decide +kernel), gm4 128 ⟨rfl, rfl⟩, ⟨(RX3, TX3, 5), rfl, rfl⟩, ⟨by decide +kernel, by decide +kernel, by decide +kernel⟩, by decide⟩
theorem ceX3_readFrom : jCE miX3_readFrom 3 2 := ⟨gm4 119 (by decide +kernel), gm4 120 (by decide +kernel), gm1 8 (by decide +kernel), gm4 121 ⟨rfl, rfl⟩, ⟨(RX3, TX3, 5), rfl, rfl⟩, ⟨by decide +kernel, by decide +kernel, by decide +kernel⟩, by decide⟩
theorem ceX3_signs : jCE miX3_signs 3 0 := ⟨gm4 190 (by decide +kernel), gmp 22 (n := 5) (by decide +kernel), gm1 8 (by decide +kernel), gm4 191 ⟨rfl, rfl⟩, ⟨(RX3, TX3, 5), rfl, rfl⟩, ⟨by decide +kernel, by decide +kernel, by decide +kernel⟩, by decide⟩
theorem ceX3_sumX : jCE miX3_sumX 3 0 := ⟨gm4 152 (by decide +kernel), gmp 19 (n := 5) (by decide +kernel), gm1 8 (by decide +kernel), gm4 153 ⟨rfl, rfl⟩, ⟨(RX3, TX3, 5), rfl, rfl⟩, ⟨by decide +kernel, by decide +kernel, by decide +kernel⟩, by decide⟩
theorem ceX3_sumY : jCE miX3_sumY 3 0 := ⟨gm4 156 (by decide +kernel), gmp 20 (n := 5) (by decide +kernel), gm1 8 (by decide +kernel), gm4 157 ⟨rfl, rfl⟩, ⟨(RX3, TX3, 5), rfl, rfl⟩, ⟨by decide +kernel, by decide +kernel, by decide +kernel⟩, by decide⟩
theorem ceX3_take : jCE miX3_take 3 3 := ⟨gm4 183 (by decide +kernel), gmp 21 (n := 5) (by decide +kernel), gm1 8 (by decide +kernel), gm4 184 ⟨rfl, rfl⟩, ⟨(RX3, TX3, 5), rfl, rfl⟩, ⟨by decide +kernel, by decide +kernel, by decide +kernel⟩, by decide⟩
theorem ceX3_takeShortest : jCE miX3_takeShortest 3 2 := ⟨gm4 178 (by decide +kernel), gm4 179 (by decide +kernel), gm1 8 (by decide +kernel), gm4 180 ⟨rfl, rfl⟩, ⟨(RX3, TX3, 5), rfl, rfl⟩, ⟨by decide +kernel, by decide +kernel, by decide +kernel⟩, by decide⟩
theorem ceX3_tell : jCE miX3_tell 3 1 := ⟨gm4 193 (by decide +kernel), gm4 194 (by decide +kernel), gm1 8 (by decide +kernel), gm4 195 ⟨rfl, rfl⟩, ⟨(RX3, TX3, 5), rfl, rfl⟩, ⟨by decide +kernel, by decide +kernel, by decide +kernel⟩, by decide⟩
theorem ceX4_begin : jCE miX4_begin 4 1 := ⟨gm5 92 (by decide +kernel), gm5 93 (by decide +kernel), gm1 13 (by decide +kernel), gm5 94 ⟨rfl, rfl⟩, ⟨(RX4, TX4, 4), rfl, rfl⟩, ⟨by decide +kernel, by decide +kernel, by decide +kernel⟩, by decide⟩
theorem ceX4_choice : jCE miX4_choice 4 2 := ⟨gm5 128 (by decide +kernel), gm5 129 (by decide +kernel), gm1 13 (by decide +kernel), gm5 130 ⟨rfl, rfl⟩, ⟨(RX4, TX4, 4), rfl, rfl⟩, ⟨by decide +kernel, by decide +kernel, by decide +kernel⟩, by decide⟩
theorem ceX4_codeOf : jCE miX4_codeOf 4 1 := ⟨gm5 116 (by decide +kernel), gm5 117 (by decide +kernel), gm1 13 (by decide +kernel), gm5 118 ⟨rfl, rfl⟩, ⟨(RX4, TX4, 4), rfl, rfl⟩, ⟨by decide +kernel, by decide +kernel, by decide +kernel⟩, by decide⟩
theorem ceX4_findHindered : jCE miX4_findHindered 4 0 := ⟨gm5 99 (by decide +kernel), gmp 30 (n := 4) (by decide +kernel), gm1 13 (by decide +kernel), gm5 100 ⟨rfl, rfl⟩, ⟨(RX4, TX4, 4), rfl, rfl⟩, ⟨by decide +kernel, by decide +kernel, by decide +kernel⟩, by decide⟩
theorem ceX4_openOn : jCE miX4_openOn 4 1 := ⟨gm5 110 (by decide +kernel), gm5 111 (by decide +kernel), gm1 13 (by decide +kernel), gm5 112 ⟨rfl, rfl⟩, ⟨(RX4, TX4, 4), rfl, rfl⟩, ⟨by decide +kernel, by decide +kernel, by decide +kernel⟩, by decide⟩
theorem ceX4_pairOf : jCE miX4_pairOf 4 2 := ⟨gm5 106 (by decide +kernel), gm5 107 (by decide +kernel), gm1 13 (by decide +kernel), gm5 108 ⟨rfl, rfl⟩, ⟨(RX4, TX4, 4), rfl, rfl⟩, ⟨by decide +kernel, by decide +kernel, by decide +kernel⟩, by decide⟩
theorem ceX4_winning : jCE miX4_winning 4 1 := ⟨gm5 136 (by decide +kernel), gm5 137 (by decide +kernel), gm1 13 (by decide +kernel), gm5 138 ⟨rfl, rfl⟩, ⟨(RX4, TX4, 4), rfl, rfl⟩, ⟨by decide +kernel, by decide +kernel, by decide +kernel⟩, by decide⟩
theorem ceX4_winningPair : jCE miX4_winningPair 4 2 := ⟨gm5 141 (by decide +kernel), gmp 31 (n := 4) (by decide +kernel), gm1 13 (by decide +kernel), gm5 142 ⟨rfl, rfl⟩, ⟨(RX4, TX4, 4), rfl, rfl⟩, ⟨by decide +kernel, by decide +kernel, by decide +kernel⟩, by decide⟩
theorem ceX5_fewest : jCE miX5_fewest 5 3 := ⟨gm5 46 (by decide +kernel), gm5 47 (by decide +kernel), gm1 12 (by decide +kernel), gm5 48 ⟨rfl, rfl⟩, ⟨(RX5, TX5, 7), rfl, rfl⟩, ⟨by decide +kernel, by decide +kernel, by decide +kernel⟩, by decide⟩
theorem ceX5_indexOf : jCE miX5_indexOf 5 1 := ⟨gm5 57 (by decide +kernel), gmp 26 (n := 7) (by decide +kernel), gm1 12 (by decide +kernel), gm5 58 ⟨rfl, rfl⟩, ⟨(RX5, TX5, 7), rfl, rfl⟩, ⟨by decide +kernel, by decide +kernel, by decide +kernel⟩, by decide⟩
theorem seX5_isMarked : jSE miX5_isMarked 2 := ⟨gm5 71 (by decide +kernel), gm1 12 (by decide +kernel), gm5 72 ⟨rfl, rfl⟩, ⟨by decide +kernel, by decide +kernel, by decide +kernel⟩, by decide⟩
theorem seX5_mark : jSE miX5_mark 2 := ⟨gm5 68 (by decide +kernel), gm1 12 (by decide +kernel), gm5 69 ⟨rfl, rfl⟩, ⟨by decide +kernel, by decide +kernel, by decide +kernel⟩, by decide⟩
theorem ceX5_moveFirst : jCE miX5_moveFirst 5 3 := ⟨gm5 79 (by decide +kernel), gmp 28 (n := 7) (by decide +kernel), gm1 12 (by decide +kernel), gm5 80 ⟨rfl, rfl⟩, ⟨(RX5, TX5, 7), rfl, rfl⟩, ⟨by decide +kernel, by decide +kernel, by decide +kernel⟩, by decide⟩
theorem seX5_number : jSE miX5_number 3 := ⟨gm5 60 (by decide +kernel), gm1 12 (by decide +kernel), gm5 61 ⟨rfl, rfl⟩, ⟨by decide +kernel, by decide +kernel, by decide +kernel⟩, by decide⟩
theorem ceX5_numberOf : jCE miX5_numberOf 5 2 := ⟨gm5 52 (by decide +kernel), gmp 25 (n := 7) (by decide +kernel), gm1 12 (by decide +kernel), gm5 53 ⟨rfl, rfl⟩, ⟨(RX5, TX5, 7), rfl, rfl⟩, ⟨by decide +kernel, by decide +kernel, by decide +kernel⟩, by decide⟩
theorem ceX5_reach : jCE miX5_reach 5 3 := ⟨gm5 83 (by decide +kernel), gmp 29 (n := 7) (by decide +kernel), gm1 12 (by decide +kernel), gm5 84 ⟨rfl, rfl⟩, ⟨(RX5, TX5, 7), rfl, rfl⟩, ⟨by decide +kernel, by decide +kernel, by decide +kernel⟩, by decide⟩
theorem ceX5_spread : jCE miX5_spread 5 0 := ⟨gm5 75 (by decide +kernel), gmp 27 (n := 7) (by decide +kernel), gm1 12 (by decide +kernel), gm5 76 ⟨rfl, rfl⟩, ⟨(RX5, TX5, 7), rfl, rfl⟩, ⟨by decide +kernel, by decide +kernel, by decide +kernel⟩, by decide⟩
theorem seX6_areaWith : jSE miX6_areaWith 2 := ⟨gm4 230 (by decide +kernel), gm1 11 (by decide +kernel), gm4 231 ⟨rfl, rfl⟩, ⟨by decide +kernel, by decide +kernel, by decide +kernel⟩, by decide⟩
theorem ceX6_findCut : jCE miX6_findCut 6 3 := ⟨gm5 9 (by decide +kernel), gm5 10 (by decide +kernel), gm1 11 (by decide +kernel), gm5 11 ⟨rfl, rfl⟩, ⟨(RX6, TX6, 2), rfl, rfl⟩, ⟨by decide +kernel, by decide +kernel, by decide +kernel⟩, by decide⟩
theorem ceX6_findTriangle : jCE miX6_findTriangle 6 4 := ⟨gm4 221 (by decide +kernel), gm4 222 (by decide +kernel), gm1 11 (by decide +kernel), gm4 223 ⟨rfl, rfl⟩, ⟨(RX6, TX6, 2), rfl, rfl⟩, ⟨by decide +kernel, by decide +kernel, by decide +kernel⟩, by decide⟩
theorem seX6_isStopped : jSE miX6_isStopped 4 := ⟨gm5 30 (by decide +kernel), gm1 11 (by decide +kernel), gm5 31 ⟨rfl, rfl⟩, ⟨by decide +kernel, by decide +kernel, by decide +kernel⟩, by decide⟩
theorem seX6_leadsAlong : jSE miX6_leadsAlong 4 := ⟨gm5 34 (by decide +kernel), gm1 11 (by decide +kernel), gm5 35 ⟨rfl, rfl⟩, ⟨by decide +kernel, by decide +kernel, by decide +kernel⟩, by decide⟩
theorem seX6_placesOn : jSE miX6_placesOn 3 := ⟨gm4 233 (by decide +kernel), gm1 11 (by decide +kernel), gm4 234 ⟨rfl, rfl⟩, ⟨by decide +kernel, by decide +kernel, by decide +kernel⟩, by decide⟩
theorem seX6_runsInside : jSE miX6_runsInside 4 := ⟨gm5 27 (by decide +kernel), gm1 11 (by decide +kernel), gm5 28 ⟨rfl, rfl⟩, ⟨by decide +kernel, by decide +kernel, by decide +kernel⟩, by decide⟩
theorem ceX6_takeAlong : jCE miX6_takeAlong 6 2 := ⟨gm5 14 (by decide +kernel), gmp 24 (n := 2) (by decide +kernel), gm1 11 (by decide +kernel), gm5 15 ⟨rfl, rfl⟩, ⟨(RX6, TX6, 2), rfl, rfl⟩, ⟨by decide +kernel, by decide +kernel, by decide +kernel⟩, by decide⟩
theorem ceX6_takePegs : jCE miX6_takePegs 6 1 := ⟨gm4 226 (by decide +kernel), gmp 23 (n := 2) (by decide +kernel), gm1 11 (by decide +kernel), gm4 227 ⟨rfl, rfl⟩, ⟨(RX6, TX6, 2), rfl, rfl⟩, ⟨by decide +kernel, by decide +kernel, by decide +kernel⟩, by decide⟩
theorem seX7_along : jSE miX7_along 3 := ⟨gm3 105 (by decide +kernel), gm1 19 (by decide +kernel), gm3 106 ⟨rfl, rfl⟩, ⟨by decide +kernel, by decide +kernel, by decide +kernel⟩, by decide⟩
theorem seX7_isOn : jSE miX7_isOn 3 := ⟨gm3 195 (by decide +kernel), gm1 19 (by decide +kernel), gm3 196 ⟨rfl, rfl⟩, ⟨by decide +kernel, by decide +kernel, by decide +kernel⟩, by decide⟩
theorem seX7_meet : jSE miX7_meet 4 := ⟨gm3 101 (by decide +kernel), gm1 19 (by decide +kernel), gm3 102 ⟨rfl, rfl⟩, ⟨by decide +kernel, by decide +kernel, by decide +kernel⟩, by decide⟩
theorem seX7_parts : jSE miX7_parts 2 := ⟨gm4 236 (by decide +kernel), gm1 19 (by decide +kernel), gm4 237 ⟨rfl, rfl⟩, ⟨by decide +kernel, by decide +kernel, by decide +kernel⟩, by decide⟩
theorem seX7_shoelace : jSE miX7_shoelace 2 := ⟨gm5 23 (by decide +kernel), gm1 19 (by decide +kernel), gm5 24 ⟨rfl, rfl⟩, ⟨by decide +kernel, by decide +kernel, by decide +kernel⟩, by decide⟩
theorem seX7_square : jSE miX7_square 2 := ⟨gm3 179 (by decide +kernel), gm1 19 (by decide +kernel), gm3 180 ⟨rfl, rfl⟩, ⟨by decide +kernel, by decide +kernel, by decide +kernel⟩, by decide⟩
theorem seX7_turn : jSE miX7_turn 3 := ⟨gm3 95 (by decide +kernel), gm1 19 (by decide +kernel), gm3 96 ⟨rfl, rfl⟩, ⟨by decide +kernel, by decide +kernel, by decide +kernel⟩, by decide⟩
theorem ceX8_checkNumber : jCE miX8_checkNumber 7 2 := ⟨gm3 33 (by decide +kernel), gm3 34 (by decide +kernel), gm1 2 (by decide +kernel), gm3 35 ⟨rfl, rfl⟩, ⟨(RX8, TX8, 9), rfl, rfl⟩, ⟨by decide +kernel, by decide +kernel, by decide +kernel⟩, by decide⟩
theorem ceX8_expect : jCE miX8_expect 7 1 := ⟨gm3 17 (by decide +kernel), gm3 18 (by decide +kernel), gm1 2 (by decide +kernel), gm3 19 ⟨rfl, rfl⟩, ⟨(RX8, TX8, 9), rfl, rfl⟩, ⟨by decide +kernel, by decide +kernel, by decide +kernel⟩, by decide⟩
theorem ceX8_fail : jCE miX8_fail 7 1 := ⟨gm3 25 (by decide +kernel), gm3 26 (by decide +kernel), gm1 2 (by decide +kernel), gm3 27 ⟨rfl, rfl⟩, ⟨(RX8, TX8, 9), rfl, rfl⟩, ⟨by decide +kernel, by decide +kernel, by decide +kernel⟩, by decide⟩
theorem seX8_isDigit : jSE miX8_isDigit 1 := ⟨gm2 190 (by decide +kernel), gm1 2 (by decide +kernel), gm2 191 ⟨rfl, rfl⟩, ⟨by decide +kernel, by decide +kernel, by decide +kernel⟩, by decide⟩
theorem ceX8_isFine : jCE miX8_isFine 7 0 := ⟨gm3 37 (by decide +kernel), gm3 38 (by decide +kernel), gm1 2 (by decide +kernel), gm3 39 ⟨rfl, rfl⟩, ⟨(RX8, TX8, 9), rfl, rfl⟩, ⟨by decide +kernel, by decide +kernel, by decide +kernel⟩, by decide⟩
theorem seX8_isLetter : jSE miX8_isLetter 1 := ⟨gm2 187 (by decide +kernel), gm1 2 (by decide +kernel), gm2 188 ⟨rfl, rfl⟩, ⟨by decide +kernel, by decide +kernel, by decide +kernel⟩, by decide⟩
theorem seX8_isSign : jSE miX8_isSign 1 := ⟨gm3 10 (by decide +kernel), gm1 2 (by decide +kernel), gm3 11 ⟨rfl, rfl⟩, ⟨by decide +kernel, by decide +kernel, by decide +kernel⟩, by decide⟩
theorem seX8_kindOf : jSE miX8_kindOf 1 := ⟨gm2 198 (by decide +kernel), gm1 2 (by decide +kernel), gm2 199 ⟨rfl, rfl⟩, ⟨by decide +kernel, by decide +kernel, by decide +kernel⟩, by decide⟩
theorem ceX8_number : jCE miX8_number 7 2 := ⟨gm3 29 (by decide +kernel), gm3 30 (by decide +kernel), gm1 2 (by decide +kernel), gm3 31 ⟨rfl, rfl⟩, ⟨(RX8, TX8, 9), rfl, rfl⟩, ⟨by decide +kernel, by decide +kernel, by decide +kernel⟩, by decide⟩
theorem ceX8_open : jCE miX8_open 7 1 := ⟨gm2 171 (by decide +kernel), gm2 172 (by decide +kernel), gm1 2 (by decide +kernel), gm2 173 ⟨rfl, rfl⟩, ⟨(RX8, TX8, 9), rfl, rfl⟩, ⟨by decide +kernel, by decide +kernel, by decide +kernel⟩, by decide⟩
theorem ceX8_readRun : jCE miX8_readRun 7 0 := ⟨gm2 194 (by decide +kernel), gmp 1 (n := 9) (by decide +kernel), gm1 2 (by decide +kernel), gm2 195 ⟨rfl, rfl⟩, ⟨(RX8, TX8, 9), rfl, rfl⟩, ⟨by decide +kernel, by decide +kernel, by decide +kernel⟩, by decide⟩
theorem ceX8_sees : jCE miX8_sees 7 1 := ⟨gm3 21 (by decide +kernel), gm3 22 (by decide +kernel), gm1 2 (by decide +kernel), gm3 23 ⟨rfl, rfl⟩, ⟨(RX8, TX8, 9), rfl, rfl⟩, ⟨by decide +kernel, by decide +kernel, by decide +kernel⟩, by decide⟩
theorem ceX8_signedDigit : jCE miX8_signedDigit 7 0 := ⟨gm4 133 (by decide +kernel), gm4 134 (by decide +kernel), gm1 2 (by decide +kernel), gm4 135 ⟨rfl, rfl⟩, ⟨(RX8, TX8, 9), rfl, rfl⟩, ⟨by decide +kernel, by decide +kernel, by decide +kernel⟩, by decide⟩
theorem ceX8_skipBlanks : jCE miX8_skipBlanks 7 0 := ⟨gm2 180 (by decide +kernel), gmp 0 (n := 9) (by decide +kernel), gm1 2 (by decide +kernel), gm2 181 ⟨rfl, rfl⟩, ⟨(RX8, TX8, 9), rfl, rfl⟩, ⟨by decide +kernel, by decide +kernel, by decide +kernel⟩, by decide⟩
theorem ceX8_step : jCE miX8_step 7 0 := ⟨gm2 175 (by decide +kernel), gm2 176 (by decide +kernel), gm1 2 (by decide +kernel), gm2 177 ⟨rfl, rfl⟩, ⟨(RX8, TX8, 9), rfl, rfl⟩, ⟨by decide +kernel, by decide +kernel, by decide +kernel⟩, by decide⟩
theorem ceX9_clear : jCE miX9_clear 8 0 := ⟨gm3 144 (by decide +kernel), gm3 145 (by decide +kernel), gm1 9 (by decide +kernel), gm3 146 ⟨rfl, rfl⟩, ⟨(RX9, TX9, 3), rfl, rfl⟩, ⟨by decide +kernel, by decide +kernel, by decide +kernel⟩, by decide⟩
theorem ceX9_copyFrom : jCE miX9_copyFrom 8 1 := ⟨gm5 189 (by decide +kernel), gm5 190 (by decide +kernel), gm1 9 (by decide +kernel), gm5 191 ⟨rfl, rfl⟩, ⟨(RX9, TX9, 3), rfl, rfl⟩, ⟨by decide +kernel, by decide +kernel, by decide +kernel⟩, by decide⟩
theorem seX9_fitsOne : jSE miX9_fitsOne 5 := ⟨gm5 202 (by decide +kernel), gm1 9 (by decide +kernel), gm5 203 ⟨rfl, rfl⟩, ⟨by decide +kernel, by decide +kernel, by decide +kernel⟩, by decide⟩
theorem ceX9_holdsOf : jCE miX9_holdsOf 8 3 := ⟨gm5 198 (by decide +kernel), gm5 199 (by decide +kernel), gm1 9 (by decide +kernel), gm5 200 ⟨rfl, rfl⟩, ⟨(RX9, TX9, 3), rfl, rfl⟩, ⟨by decide +kernel, by decide +kernel, by decide +kernel⟩, by decide⟩
theorem seX9_measureOf : jSE miX9_measureOf 3 := ⟨gm5 213 (by decide +kernel), gm1 9 (by decide +kernel), gm5 214 ⟨rfl, rfl⟩, ⟨by decide +kernel, by decide +kernel, by decide +kernel⟩, by decide⟩
theorem ceX9_put : jCE miX9_put 8 3 := ⟨gm5 169 (by decide +kernel), gmp 34 (n := 3) (by decide +kernel), gm1 9 (by decide +kernel), gm5 170 ⟨rfl, rfl⟩, ⟨(RX9, TX9, 3), rfl, rfl⟩, ⟨by decide +kernel, by decide +kernel, by decide +kernel⟩, by decide⟩
theorem ceX9_readAll : jCE miX9_readAll 8 3 := ⟨gm5 158 (by decide +kernel), gmp 32 (n := 3) (by decide +kernel), gm1 9 (by decide +kernel), gm5 159 ⟨rfl, rfl⟩, ⟨(RX9, TX9, 3), rfl, rfl⟩, ⟨by decide +kernel, by decide +kernel, by decide +kernel⟩, by decide⟩
theorem ceX9_readAny : jCE miX9_readAny 8 3 := ⟨gm5 153 (by decide +kernel), gm5 154 (by decide +kernel), gm1 9 (by decide +kernel), gm5 155 ⟨rfl, rfl⟩, ⟨(RX9, TX9, 3), rfl, rfl⟩, ⟨by decide +kernel, by decide +kernel, by decide +kernel⟩, by decide⟩
theorem ceX9_readBandName : jCE miX9_readBandName 8 3 := ⟨gm5 175 (by decide +kernel), gmp 35 (n := 3) (by decide +kernel), gm1 9 (by decide +kernel), gm5 176 ⟨rfl, rfl⟩, ⟨(RX9, TX9, 3), rfl, rfl⟩, ⟨by decide +kernel, by decide +kernel, by decide +kernel⟩, by decide⟩
theorem ceX9_readMeasure : jCE miX9_readMeasure 8 2 := ⟨gm5 185 (by decide +kernel), gmp 36 (n := 3) (by decide +kernel), gm1 9 (by decide +kernel), gm5 186 ⟨rfl, rfl⟩, ⟨(RX9, TX9, 3), rfl, rfl⟩, ⟨by decide +kernel, by decide +kernel, by decide +kernel⟩, by decide⟩
theorem ceX9_readOne : jCE miX9_readOne 8 3 := ⟨gm5 162 (by decide +kernel), gmp 33 (n := 3) (by decide +kernel), gm1 9 (by decide +kernel), gm5 163 ⟨rfl, rfl⟩, ⟨(RX9, TX9, 3), rfl, rfl⟩, ⟨by decide +kernel, by decide +kernel, by decide +kernel⟩, by decide⟩
theorem ckX12_258 : Cond.constantLong RX12 258 (10 : Int64) ∈ lw_good := gm4 99 (by decide +kernel)
theorem ckX1_63 : Cond.constantLong RX1 63 (10 : Int64) ∈ lw_good := gm3 56 (by decide +kernel)
theorem ckX4_60 : Cond.constantLong RX4 60 (-1 : Int64) ∈ lw_good := gm5 114 (by decide +kernel)
theorem ckX8_72 : Cond.constantLong RX8 72 (27 : Int64) ∈ lw_good := gm2 196 (by decide +kernel)
theorem ckX13_78 : Cond.constant RX13 78 (46656 : Int32) ∈ lw_good := gm6 101 (by decide +kernel)
theorem ckX13_143 : Cond.constantLong RX13 143 (27 : Int64) ∈ lw_good := gm7 58 (by decide +kernel)
theorem ckX13_145 : Cond.constantLong RX13 145 (96 : Int64) ∈ lw_good := gm7 59 (by decide +kernel)
