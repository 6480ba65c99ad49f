def isTable (k : Nat) : Prop := k ∈ [27, 40, 53, 66]
def isBoard (k : Nat) : Prop := k ∈ [28, 41, 54, 67]
def isBands (k : Nat) : Prop := k ∈ [30, 43, 56, 69, 79, 83, 87, 91, 95, 99, 103, 107]
def isCalls (k : Nat) : Prop := k ∈ [34, 47, 60, 73]
def isSentence (k : Nat) : Prop := k ∈ [38, 51, 64, 77]
def isBytes (k : Nat) : Prop := k ∈ [2, 4]
theorem ob_0 : jOb 0 = some 11 := rfl
theorem fd_0_0 : jFd 0 0 = some (11, 2, 1) := rfl
theorem fd_0_1 : jFd 0 1 = some (11, 2, 2) := rfl
theorem fd_0_2 : jFd 0 2 = some (11, 2, 27) := rfl
theorem fd_0_3 : jFd 0 3 = some (11, 2, 40) := rfl
theorem fd_0_4 : jFd 0 4 = some (11, 2, 7) := rfl
theorem fd_0_5 : jFd 0 5 = some (11, 2, 8) := rfl
theorem fd_0_6 : jFd 0 6 = some (11, 0, 0) := rfl
theorem fd_0_7 : jFd 0 7 = some (11, 2, 6) := rfl
theorem fd_0_8 : jFd 0 8 = some (11, 2, 9) := rfl
theorem fd_0_9 : jFd 0 9 = some (11, 2, 4) := rfl
theorem fd_0_10 : jFd 0 10 = some (11, 2, 15) := rfl
theorem fd_0_11 : jFd 0 11 = some (11, 2, 17) := rfl
theorem fd_0_12 : jFd 0 12 = some (11, 2, 23) := rfl
theorem fd_0_13 : jFd 0 13 = some (11, 0, 0) := rfl
theorem fd_0_14 : jFd 0 14 = some (11, 0, 0) := rfl
theorem ob_1 : jOb 1 = some 7 := rfl
theorem fd_1_0 : jFd 1 0 = some (7, 2, 2) := rfl
theorem fd_1_1 : jFd 1 1 = some (7, 0, 0) := rfl
theorem fd_1_2 : jFd 1 2 = some (7, 0, 0) := rfl
theorem fd_1_3 : jFd 1 3 = some (7, 0, 0) := rfl
theorem fd_1_4 : jFd 1 4 = some (7, 0, 0) := rfl
theorem fd_1_5 : jFd 1 5 = some (7, 0, 0) := rfl
theorem fd_1_6 : jFd 1 6 = some (7, 1, 0) := rfl
theorem fd_1_7 : jFd 1 7 = some (7, 0, 0) := rfl
theorem fd_1_8 : jFd 1 8 = some (7, 0, 0) := rfl
theorem ob_2 : jOb 2 = some 2 := rfl
theorem fd_2_0 : jFd 2 0 = some (2, 2, 3) := rfl
theorem fd_2_1 : jFd 2 1 = some (2, 0, 0) := rfl
theorem ar_3 : jAr 3 = some (2, 640) := rfl
theorem ob_4 : jOb 4 = some 2 := rfl
theorem fd_4_0 : jFd 4 0 = some (2, 2, 5) := rfl
theorem fd_4_1 : jFd 4 1 = some (2, 0, 0) := rfl
theorem ar_5 : jAr 5 = some (2, 79) := rfl
theorem ar_6 : jAr 6 = some (0, 8) := rfl
theorem ar_7 : jAr 7 = some (5, 2) := rfl
theorem ar_8 : jAr 8 = some (4, 8) := rfl
theorem ob_9 : jOb 9 = some 9 := rfl
theorem fd_9_0 : jFd 9 0 = some (9, 2, 10) := rfl
theorem fd_9_1 : jFd 9 1 = some (9, 0, 0) := rfl
theorem fd_9_2 : jFd 9 2 = some (9, 2, 11) := rfl
theorem fd_9_3 : jFd 9 3 = some (9, 2, 12) := rfl
theorem fd_9_4 : jFd 9 4 = some (9, 2, 13) := rfl
theorem fd_9_5 : jFd 9 5 = some (9, 2, 14) := rfl
theorem ar_10 : jAr 10 = some (0, 16) := rfl
theorem ar_11 : jAr 11 = some (0, 16) := rfl
theorem ar_12 : jAr 12 = some (0, 16) := rfl
theorem ar_13 : jAr 13 = some (0, 8) := rfl
theorem ar_14 : jAr 14 = some (0, 8) := rfl
theorem ob_15 : jOb 15 = some 6 := rfl
theorem fd_15_0 : jFd 15 0 = some (6, 2, 16) := rfl
theorem fd_15_1 : jFd 15 1 = some (6, 0, 0) := rfl
theorem ar_16 : jAr 16 = some (0, 100) := rfl
theorem ob_17 : jOb 17 = some 5 := rfl
theorem fd_17_0 : jFd 17 0 = some (5, 2, 18) := rfl
theorem fd_17_1 : jFd 17 1 = some (5, 2, 19) := rfl
theorem fd_17_2 : jFd 17 2 = some (5, 2, 20) := rfl
theorem fd_17_3 : jFd 17 3 = some (5, 2, 21) := rfl
theorem fd_17_4 : jFd 17 4 = some (5, 2, 22) := rfl
theorem fd_17_5 : jFd 17 5 = some (5, 0, 0) := rfl
theorem fd_17_6 : jFd 17 6 = some (5, 0, 0) := rfl
theorem ar_18 : jAr 18 = some (1, 112) := rfl
theorem ar_19 : jAr 19 = some (1, 112) := rfl
theorem ar_20 : jAr 20 = some (1, 112) := rfl
theorem ar_21 : jAr 21 = some (0, 36) := rfl
theorem ar_22 : jAr 22 = some (3, 36) := rfl
theorem ob_23 : jOb 23 = some 4 := rfl
theorem fd_23_0 : jFd 23 0 = some (4, 2, 24) := rfl
theorem fd_23_1 : jFd 23 1 = some (4, 2, 25) := rfl
theorem fd_23_2 : jFd 23 2 = some (4, 2, 26) := rfl
theorem fd_23_3 : jFd 23 3 = some (4, 0, 0) := rfl
theorem ar_24 : jAr 24 = some (0, 9) := rfl
theorem ar_25 : jAr 25 = some (0, 36) := rfl
theorem ar_26 : jAr 26 = some (1, 36) := rfl
theorem ob_27 : jOb 27 = some 10 := rfl
theorem fd_27_0 : jFd 27 0 = some (10, 0, 0) := rfl
theorem fd_27_1 : jFd 27 1 = some (10, 2, 28) := rfl
theorem fd_27_2 : jFd 27 2 = some (10, 2, 34) := rfl
theorem fd_27_3 : jFd 27 3 = some (10, 0, 0) := rfl
theorem fd_27_4 : jFd 27 4 = some (10, 2, 37) := rfl
theorem fd_27_5 : jFd 27 5 = some (10, 2, 38) := rfl
theorem ob_28 : jOb 28 = some 1 := rfl
theorem fd_28_0 : jFd 28 0 = some (1, 0, 0) := rfl
theorem fd_28_1 : jFd 28 1 = some (1, 0, 0) := rfl
theorem fd_28_2 : jFd 28 2 = some (1, 0, 0) := rfl
theorem fd_28_3 : jFd 28 3 = some (1, 0, 0) := rfl
theorem fd_28_4 : jFd 28 4 = some (1, 1, 0) := rfl
theorem fd_28_5 : jFd 28 5 = some (1, 1, 0) := rfl
theorem fd_28_6 : jFd 28 6 = some (1, 0, 0) := rfl
theorem fd_28_7 : jFd 28 7 = some (1, 0, 0) := rfl
theorem fd_28_8 : jFd 28 8 = some (1, 2, 29) := rfl
theorem fd_28_9 : jFd 28 9 = some (1, 2, 30) := rfl
theorem ar_29 : jAr 29 = some (1, 8) := rfl
theorem ob_30 : jOb 30 = some 0 := rfl
theorem fd_30_0 : jFd 30 0 = some (0, 0, 0) := rfl
theorem fd_30_1 : jFd 30 1 = some (0, 2, 31) := rfl
theorem fd_30_2 : jFd 30 2 = some (0, 2, 32) := rfl
theorem fd_30_3 : jFd 30 3 = some (0, 2, 33) := rfl
theorem ar_31 : jAr 31 = some (0, 8) := rfl
theorem ar_32 : jAr 32 = some (0, 8) := rfl
theorem ar_33 : jAr 33 = some (0, 64) := rfl
theorem ob_34 : jOb 34 = some 3 := rfl
theorem fd_34_0 : jFd 34 0 = some (3, 0, 0) := rfl
theorem fd_34_1 : jFd 34 1 = some (3, 0, 0) := rfl
theorem fd_34_2 : jFd 34 2 = some (3, 0, 0) := rfl
theorem fd_34_3 : jFd 34 3 = some (3, 2, 35) := rfl
theorem fd_34_4 : jFd 34 4 = some (3, 2, 36) := rfl
theorem ar_35 : jAr 35 = some (0, 8) := rfl
theorem ar_36 : jAr 36 = some (0, 8) := rfl
theorem ar_37 : jAr 37 = some (0, 4) := rfl
theorem ob_38 : jOb 38 = some 8 := rfl
theorem fd_38_0 : jFd 38 0 = some (8, 0, 0) := rfl
theorem fd_38_1 : jFd 38 1 = some (8, 0, 0) := rfl
theorem fd_38_2 : jFd 38 2 = some (8, 2, 39) := rfl
theorem ar_39 : jAr 39 = some (0, 40) := rfl
theorem ob_40 : jOb 40 = some 10 := rfl
theorem fd_40_0 : jFd 40 0 = some (10, 0, 0) := rfl
theorem fd_40_1 : jFd 40 1 = some (10, 2, 41) := rfl
theorem fd_40_2 : jFd 40 2 = some (10, 2, 47) := rfl
theorem fd_40_3 : jFd 40 3 = some (10, 0, 0) := rfl
theorem fd_40_4 : jFd 40 4 = some (10, 2, 50) := rfl
theorem fd_40_5 : jFd 40 5 = some (10, 2, 51) := rfl
theorem ob_41 : jOb 41 = some 1 := rfl
theorem fd_41_0 : jFd 41 0 = some (1, 0, 0) := rfl
theorem fd_41_1 : jFd 41 1 = some (1, 0, 0) := rfl
theorem fd_41_2 : jFd 41 2 = some (1, 0, 0) := rfl
theorem fd_41_3 : jFd 41 3 = some (1, 0, 0) := rfl
theorem fd_41_4 : jFd 41 4 = some (1, 1, 0) := rfl
theorem fd_41_5 : jFd 41 5 = some (1, 1, 0) := rfl
theorem fd_41_6 : jFd 41 6 = some (1, 0, 0) := rfl
theorem fd_41_7 : jFd 41 7 = some (1, 0, 0) := rfl
theorem fd_41_8 : jFd 41 8 = some (1, 2, 42) := rfl
theorem fd_41_9 : jFd 41 9 = some (1, 2, 43) := rfl
theorem ar_42 : jAr 42 = some (1, 8) := rfl
theorem ob_43 : jOb 43 = some 0 := rfl
theorem fd_43_0 : jFd 43 0 = some (0, 0, 0) := rfl
theorem fd_43_1 : jFd 43 1 = some (0, 2, 44) := rfl
theorem fd_43_2 : jFd 43 2 = some (0, 2, 45) := rfl
theorem fd_43_3 : jFd 43 3 = some (0, 2, 46) := rfl
theorem ar_44 : jAr 44 = some (0, 8) := rfl
theorem ar_45 : jAr 45 = some (0, 8) := rfl
theorem ar_46 : jAr 46 = some (0, 64) := rfl
theorem ob_47 : jOb 47 = some 3 := rfl
theorem fd_47_0 : jFd 47 0 = some (3, 0, 0) := rfl
theorem fd_47_1 : jFd 47 1 = some (3, 0, 0) := rfl
theorem fd_47_2 : jFd 47 2 = some (3, 0, 0) := rfl
theorem fd_47_3 : jFd 47 3 = some (3, 2, 48) := rfl
theorem fd_47_4 : jFd 47 4 = some (3, 2, 49) := rfl
theorem ar_48 : jAr 48 = some (0, 8) := rfl
theorem ar_49 : jAr 49 = some (0, 8) := rfl
theorem ar_50 : jAr 50 = some (0, 4) := rfl
theorem ob_51 : jOb 51 = some 8 := rfl
theorem fd_51_0 : jFd 51 0 = some (8, 0, 0) := rfl
theorem fd_51_1 : jFd 51 1 = some (8, 0, 0) := rfl
theorem fd_51_2 : jFd 51 2 = some (8, 2, 52) := rfl
theorem ar_52 : jAr 52 = some (0, 40) := rfl
theorem ob_53 : jOb 53 = some 10 := rfl
theorem fd_53_0 : jFd 53 0 = some (10, 0, 0) := rfl
theorem fd_53_1 : jFd 53 1 = some (10, 2, 54) := rfl
theorem fd_53_2 : jFd 53 2 = some (10, 2, 60) := rfl
theorem fd_53_3 : jFd 53 3 = some (10, 0, 0) := rfl
theorem fd_53_4 : jFd 53 4 = some (10, 2, 63) := rfl
theorem fd_53_5 : jFd 53 5 = some (10, 2, 64) := rfl
theorem ob_54 : jOb 54 = some 1 := rfl
theorem fd_54_0 : jFd 54 0 = some (1, 0, 0) := rfl
theorem fd_54_1 : jFd 54 1 = some (1, 0, 0) := rfl
theorem fd_54_2 : jFd 54 2 = some (1, 0, 0) := rfl
theorem fd_54_3 : jFd 54 3 = some (1, 0, 0) := rfl
theorem fd_54_4 : jFd 54 4 = some (1, 1, 0) := rfl
theorem fd_54_5 : jFd 54 5 = some (1, 1, 0) := rfl
theorem fd_54_6 : jFd 54 6 = some (1, 0, 0) := rfl
theorem fd_54_7 : jFd 54 7 = some (1, 0, 0) := rfl
theorem fd_54_8 : jFd 54 8 = some (1, 2, 55) := rfl
theorem fd_54_9 : jFd 54 9 = some (1, 2, 56) := rfl
theorem ar_55 : jAr 55 = some (1, 8) := rfl
theorem ob_56 : jOb 56 = some 0 := rfl
theorem fd_56_0 : jFd 56 0 = some (0, 0, 0) := rfl
theorem fd_56_1 : jFd 56 1 = some (0, 2, 57) := rfl
theorem fd_56_2 : jFd 56 2 = some (0, 2, 58) := rfl
theorem fd_56_3 : jFd 56 3 = some (0, 2, 59) := rfl
theorem ar_57 : jAr 57 = some (0, 8) := rfl
theorem ar_58 : jAr 58 = some (0, 8) := rfl
theorem ar_59 : jAr 59 = some (0, 64) := rfl
theorem ob_60 : jOb 60 = some 3 := rfl
theorem fd_60_0 : jFd 60 0 = some (3, 0, 0) := rfl
theorem fd_60_1 : jFd 60 1 = some (3, 0, 0) := rfl
theorem fd_60_2 : jFd 60 2 = some (3, 0, 0) := rfl
theorem fd_60_3 : jFd 60 3 = some (3, 2, 61) := rfl
theorem fd_60_4 : jFd 60 4 = some (3, 2, 62) := rfl
theorem ar_61 : jAr 61 = some (0, 8) := rfl
theorem ar_62 : jAr 62 = some (0, 8) := rfl
theorem ar_63 : jAr 63 = some (0, 4) := rfl
theorem ob_64 : jOb 64 = some 8 := rfl
theorem fd_64_0 : jFd 64 0 = some (8, 0, 0) := rfl
theorem fd_64_1 : jFd 64 1 = some (8, 0, 0) := rfl
theorem fd_64_2 : jFd 64 2 = some (8, 2, 65) := rfl
theorem ar_65 : jAr 65 = some (0, 40) := rfl
theorem ob_66 : jOb 66 = some 10 := rfl
theorem fd_66_0 : jFd 66 0 = some (10, 0, 0) := rfl
theorem fd_66_1 : jFd 66 1 = some (10, 2, 67) := rfl
theorem fd_66_2 : jFd 66 2 = some (10, 2, 73) := rfl
theorem fd_66_3 : jFd 66 3 = some (10, 0, 0) := rfl
theorem fd_66_4 : jFd 66 4 = some (10, 2, 76) := rfl
theorem fd_66_5 : jFd 66 5 = some (10, 2, 77) := rfl
theorem ob_67 : jOb 67 = some 1 := rfl
theorem fd_67_0 : jFd 67 0 = some (1, 0, 0) := rfl
theorem fd_67_1 : jFd 67 1 = some (1, 0, 0) := rfl
theorem fd_67_2 : jFd 67 2 = some (1, 0, 0) := rfl
theorem fd_67_3 : jFd 67 3 = some (1, 0, 0) := rfl
theorem fd_67_4 : jFd 67 4 = some (1, 1, 0) := rfl
theorem fd_67_5 : jFd 67 5 = some (1, 1, 0) := rfl
theorem fd_67_6 : jFd 67 6 = some (1, 0, 0) := rfl
theorem fd_67_7 : jFd 67 7 = some (1, 0, 0) := rfl
theorem fd_67_8 : jFd 67 8 = some (1, 2, 68) := rfl
theorem fd_67_9 : jFd 67 9 = some (1, 2, 69) := rfl
theorem ar_68 : jAr 68 = some (1, 8) := rfl
theorem ob_69 : jOb 69 = some 0 := rfl
theorem fd_69_0 : jFd 69 0 = some (0, 0, 0) := rfl
theorem fd_69_1 : jFd 69 1 = some (0, 2, 70) := rfl
theorem fd_69_2 : jFd 69 2 = some (0, 2, 71) := rfl
theorem fd_69_3 : jFd 69 3 = some (0, 2, 72) := rfl
theorem ar_70 : jAr 70 = some (0, 8) := rfl
theorem ar_71 : jAr 71 = some (0, 8) := rfl
theorem ar_72 : jAr 72 = some (0, 64) := rfl
theorem ob_73 : jOb 73 = some 3 := rfl
theorem fd_73_0 : jFd 73 0 = some (3, 0, 0) := rfl
theorem fd_73_1 : jFd 73 1 = some (3, 0, 0) := rfl
theorem fd_73_2 : jFd 73 2 = some (3, 0, 0) := rfl
theorem fd_73_3 : jFd 73 3 = some (3, 2, 74) := rfl
theorem fd_73_4 : jFd 73 4 = some (3, 2, 75) := rfl
theorem ar_74 : jAr 74 = some (0, 8) := rfl
theorem ar_75 : jAr 75 = some (0, 8) := rfl
theorem ar_76 : jAr 76 = some (0, 4) := rfl
theorem ob_77 : jOb 77 = some 8 := rfl
theorem fd_77_0 : jFd 77 0 = some (8, 0, 0) := rfl
theorem fd_77_1 : jFd 77 1 = some (8, 0, 0) := rfl
theorem fd_77_2 : jFd 77 2 = some (8, 2, 78) := rfl
theorem ar_78 : jAr 78 = some (0, 40) := rfl
theorem ob_79 : jOb 79 = some 0 := rfl
theorem fd_79_0 : jFd 79 0 = some (0, 0, 0) := rfl
theorem fd_79_1 : jFd 79 1 = some (0, 2, 80) := rfl
theorem fd_79_2 : jFd 79 2 = some (0, 2, 81) := rfl
theorem fd_79_3 : jFd 79 3 = some (0, 2, 82) := rfl
theorem ar_80 : jAr 80 = some (0, 8) := rfl
theorem ar_81 : jAr 81 = some (0, 8) := rfl
theorem ar_82 : jAr 82 = some (0, 64) := rfl
theorem ob_83 : jOb 83 = some 0 := rfl
theorem fd_83_0 : jFd 83 0 = some (0, 0, 0) := rfl
theorem fd_83_1 : jFd 83 1 = some (0, 2, 84) := rfl
theorem fd_83_2 : jFd 83 2 = some (0, 2, 85) := rfl
theorem fd_83_3 : jFd 83 3 = some (0, 2, 86) := rfl
theorem ar_84 : jAr 84 = some (0, 8) := rfl
theorem ar_85 : jAr 85 = some (0, 8) := rfl
theorem ar_86 : jAr 86 = some (0, 64) := rfl
theorem ob_87 : jOb 87 = some 0 := rfl
theorem fd_87_0 : jFd 87 0 = some (0, 0, 0) := rfl
theorem fd_87_1 : jFd 87 1 = some (0, 2, 88) := rfl
theorem fd_87_2 : jFd 87 2 = some (0, 2, 89) := rfl
theorem fd_87_3 : jFd 87 3 = some (0, 2, 90) := rfl
theorem ar_88 : jAr 88 = some (0, 8) := rfl
theorem ar_89 : jAr 89 = some (0, 8) := rfl
theorem ar_90 : jAr 90 = some (0, 64) := rfl
theorem ob_91 : jOb 91 = some 0 := rfl
theorem fd_91_0 : jFd 91 0 = some (0, 0, 0) := rfl
theorem fd_91_1 : jFd 91 1 = some (0, 2, 92) := rfl
theorem fd_91_2 : jFd 91 2 = some (0, 2, 93) := rfl
theorem fd_91_3 : jFd 91 3 = some (0, 2, 94) := rfl
theorem ar_92 : jAr 92 = some (0, 8) := rfl
theorem ar_93 : jAr 93 = some (0, 8) := rfl
theorem ar_94 : jAr 94 = some (0, 64) := rfl
theorem ob_95 : jOb 95 = some 0 := rfl
theorem fd_95_0 : jFd 95 0 = some (0, 0, 0) := rfl
theorem fd_95_1 : jFd 95 1 = some (0, 2, 96) := rfl
theorem fd_95_2 : jFd 95 2 = some (0, 2, 97) := rfl
theorem fd_95_3 : jFd 95 3 = some (0, 2, 98) := rfl
theorem ar_96 : jAr 96 = some (0, 8) := rfl
theorem ar_97 : jAr 97 = some (0, 8) := rfl
theorem ar_98 : jAr 98 = some (0, 64) := rfl
theorem ob_99 : jOb 99 = some 0 := rfl
theorem fd_99_0 : jFd 99 0 = some (0, 0, 0) := rfl
theorem fd_99_1 : jFd 99 1 = some (0, 2, 100) := rfl
theorem fd_99_2 : jFd 99 2 = some (0, 2, 101) := rfl
theorem fd_99_3 : jFd 99 3 = some (0, 2, 102) := rfl
theorem ar_100 : jAr 100 = some (0, 8) := rfl
theorem ar_101 : jAr 101 = some (0, 8) := rfl
theorem ar_102 : jAr 102 = some (0, 64) := rfl
theorem ob_103 : jOb 103 = some 0 := rfl
theorem fd_103_0 : jFd 103 0 = some (0, 0, 0) := rfl
theorem fd_103_1 : jFd 103 1 = some (0, 2, 104) := rfl
theorem fd_103_2 : jFd 103 2 = some (0, 2, 105) := rfl
theorem fd_103_3 : jFd 103 3 = some (0, 2, 106) := rfl
theorem ar_104 : jAr 104 = some (0, 8) := rfl
theorem ar_105 : jAr 105 = some (0, 8) := rfl
theorem ar_106 : jAr 106 = some (0, 64) := rfl
theorem ob_107 : jOb 107 = some 0 := rfl
theorem fd_107_0 : jFd 107 0 = some (0, 0, 0) := rfl
theorem fd_107_1 : jFd 107 1 = some (0, 2, 108) := rfl
theorem fd_107_2 : jFd 107 2 = some (0, 2, 109) := rfl
theorem fd_107_3 : jFd 107 3 = some (0, 2, 110) := rfl
theorem ar_108 : jAr 108 = some (0, 8) := rfl
theorem ar_109 : jAr 109 = some (0, 8) := rfl
theorem ar_110 : jAr 110 = some (0, 64) := rfl
theorem ob_111 : jOb 111 = some 12 := rfl
theorem fd_111_0 : jFd 111 0 = some (12, 0, 0) := rfl
theorem fd_111_1 : jFd 111 1 = some (12, 2, 112) := rfl
theorem fd_111_2 : jFd 111 2 = some (12, 0, 0) := rfl
theorem fd_111_3 : jFd 111 3 = some (12, 0, 0) := rfl
theorem fd_111_4 : jFd 111 4 = some (12, 0, 0) := rfl
theorem fd_111_5 : jFd 111 5 = some (12, 0, 0) := rfl
theorem fd_111_6 : jFd 111 6 = some (12, 0, 0) := rfl
theorem fd_111_7 : jFd 111 7 = some (12, 0, 0) := rfl
theorem fd_111_8 : jFd 111 8 = some (12, 0, 0) := rfl
theorem fd_111_9 : jFd 111 9 = some (12, 0, 0) := rfl
theorem fd_111_10 : jFd 111 10 = some (12, 0, 0) := rfl
theorem fd_111_11 : jFd 111 11 = some (12, 0, 0) := rfl
theorem fd_111_12 : jFd 111 12 = some (12, 0, 0) := rfl
theorem fd_111_13 : jFd 111 13 = some (12, 1, 0) := rfl
theorem fd_111_14 : jFd 111 14 = some (12, 0, 0) := rfl
theorem fd_111_15 : jFd 111 15 = some (12, 2, 113) := rfl
theorem fd_111_16 : jFd 111 16 = some (12, 2, 114) := rfl
theorem fd_111_17 : jFd 111 17 = some (12, 2, 115) := rfl
theorem fd_111_18 : jFd 111 18 = some (12, 2, 116) := rfl
theorem fd_111_19 : jFd 111 19 = some (12, 2, 117) := rfl
theorem fd_111_20 : jFd 111 20 = some (12, 2, 118) := rfl
theorem fd_111_21 : jFd 111 21 = some (12, 2, 119) := rfl
theorem fd_111_22 : jFd 111 22 = some (12, 2, 120) := rfl
theorem fd_111_23 : jFd 111 23 = some (12, 2, 121) := rfl
theorem fd_111_24 : jFd 111 24 = some (12, 2, 122) := rfl
theorem fd_111_25 : jFd 111 25 = some (12, 2, 123) := rfl
theorem fd_111_26 : jFd 111 26 = some (12, 2, 124) := rfl
theorem fd_111_27 : jFd 111 27 = some (12, 0, 0) := rfl
theorem fd_111_28 : jFd 111 28 = some (12, 2, 125) := rfl
theorem fd_111_29 : jFd 111 29 = some (12, 2, 126) := rfl
theorem fd_111_30 : jFd 111 30 = some (12, 2, 127) := rfl
theorem fd_111_31 : jFd 111 31 = some (12, 2, 128) := rfl
theorem fd_111_32 : jFd 111 32 = some (12, 2, 129) := rfl
theorem fd_111_33 : jFd 111 33 = some (12, 0, 0) := rfl
theorem fd_111_34 : jFd 111 34 = some (12, 0, 0) := rfl
theorem fd_111_35 : jFd 111 35 = some (12, 2, 130) := rfl
theorem fd_111_36 : jFd 111 36 = some (12, 0, 0) := rfl
theorem fd_111_37 : jFd 111 37 = some (12, 0, 0) := rfl
theorem fd_111_38 : jFd 111 38 = some (12, 2, 131) := rfl
theorem fd_111_39 : jFd 111 39 = some (12, 2, 132) := rfl
theorem fd_111_40 : jFd 111 40 = some (12, 2, 133) := rfl
theorem fd_111_41 : jFd 111 41 = some (12, 2, 134) := rfl
theorem fd_111_42 : jFd 111 42 = some (12, 2, 135) := rfl
theorem fd_111_43 : jFd 111 43 = some (12, 2, 136) := rfl
theorem fd_111_44 : jFd 111 44 = some (12, 2, 137) := rfl
theorem fd_111_45 : jFd 111 45 = some (12, 2, 138) := rfl
theorem fd_111_46 : jFd 111 46 = some (12, 0, 0) := rfl
theorem fd_111_47 : jFd 111 47 = some (12, 0, 0) := rfl
theorem fd_111_48 : jFd 111 48 = some (12, 0, 0) := rfl
theorem fd_111_49 : jFd 111 49 = some (12, 0, 0) := rfl
theorem fd_111_50 : jFd 111 50 = some (12, 0, 0) := rfl
theorem ar_112 : jAr 112 = some (0, 640) := rfl
theorem ar_113 : jAr 113 = some (0, 512) := rfl
theorem ar_114 : jAr 114 = some (0, 258) := rfl
theorem ar_115 : jAr 115 = some (0, 20) := rfl
theorem ar_116 : jAr 116 = some (0, 1024) := rfl
theorem ar_117 : jAr 117 = some (0, 1928) := rfl
theorem ar_118 : jAr 118 = some (1, 8) := rfl
theorem ar_119 : jAr 119 = some (1, 8) := rfl
theorem ar_120 : jAr 120 = some (1, 64) := rfl
theorem ar_121 : jAr 121 = some (1, 20) := rfl
theorem ar_122 : jAr 122 = some (1, 16) := rfl
theorem ar_123 : jAr 123 = some (1, 40) := rfl
theorem ar_124 : jAr 124 = some (3, 2) := rfl
theorem ar_125 : jAr 125 = some (0, 16) := rfl
theorem ar_126 : jAr 126 = some (0, 16) := rfl
theorem ar_127 : jAr 127 = some (0, 16) := rfl
theorem ar_128 : jAr 128 = some (0, 16) := rfl
theorem ar_129 : jAr 129 = some (0, 16) := rfl
theorem ar_130 : jAr 130 = some (0, 200) := rfl
theorem ar_131 : jAr 131 = some (0, 100) := rfl
theorem ar_132 : jAr 132 = some (0, 100) := rfl
theorem ar_133 : jAr 133 = some (0, 100) := rfl
theorem ar_134 : jAr 134 = some (0, 46656) := rfl
theorem ar_135 : jAr 135 = some (0, 46656) := rfl
theorem ar_136 : jAr 136 = some (0, 8) := rfl
theorem ar_137 : jAr 137 = some (0, 240) := rfl
theorem ar_138 : jAr 138 = some (1, 20) := rfl
theorem ar_139 : jAr 139 = some (1, 1) := rfl
theorem obTable {k : Nat} (h : isTable k) : jOb k = some 10 := (by decide +kernel : ∀ k ∈ [27, 40, 53, 66], jOb k = some 10) k h
theorem fdTable_0 {k : Nat} (h : isTable k) : jFd k 0 = some (10, 0, 0) := (by decide +kernel : ∀ k ∈ [27, 40, 53, 66], jFd k 0 = some (10, 0, 0)) k h
theorem fdTable_1 {k : Nat} (h : isTable k) : jFd k 1 = some (10, 2, k + 1) := (by decide +kernel : ∀ k ∈ [27, 40, 53, 66], jFd k 1 = some (10, 2, k + 1)) k h
theorem isTable_1 {k : Nat} (h : isTable k) : isBoard (k + 1) := by
  unfold isTable at h
  unfold isBoard
  revert k
  decide +kernel
theorem fdTable_2 {k : Nat} (h : isTable k) : jFd k 2 = some (10, 2, k + 7) := (by decide +kernel : ∀ k ∈ [27, 40, 53, 66], jFd k 2 = some (10, 2, k + 7)) k h
theorem isTable_2 {k : Nat} (h : isTable k) : isCalls (k + 7) := by
  unfold isTable at h
  unfold isCalls
  revert k
  decide +kernel
theorem fdTable_3 {k : Nat} (h : isTable k) : jFd k 3 = some (10, 0, 0) := (by decide +kernel : ∀ k ∈ [27, 40, 53, 66], jFd k 3 = some (10, 0, 0)) k h
theorem fdTable_4 {k : Nat} (h : isTable k) : jFd k 4 = some (10, 2, k + 10) := (by decide +kernel : ∀ k ∈ [27, 40, 53, 66], jFd k 4 = some (10, 2, k + 10)) k h
theorem arTable_4 {k : Nat} (h : isTable k) : jAr (k + 10) = some (0, 4) := (by decide +kernel : ∀ k ∈ [27, 40, 53, 66], jAr (k + 10) = some (0, 4)) k h
theorem fdTable_5 {k : Nat} (h : isTable k) : jFd k 5 = some (10, 2, k + 11) := (by decide +kernel : ∀ k ∈ [27, 40, 53, 66], jFd k 5 = some (10, 2, k + 11)) k h
theorem isTable_5 {k : Nat} (h : isTable k) : isSentence (k + 11) := by
  unfold isTable at h
  unfold isSentence
  revert k
  decide +kernel
theorem isTable_at27 : isTable 27 := by unfold isTable; decide
theorem isTable_at40 : isTable 40 := by unfold isTable; decide
theorem isTable_at53 : isTable 53 := by unfold isTable; decide
theorem isTable_at66 : isTable 66 := by unfold isTable; decide
theorem obBoard {k : Nat} (h : isBoard k) : jOb k = some 1 := (by decide +kernel : ∀ k ∈ [28, 41, 54, 67], jOb k = some 1) k h
theorem fdBoard_0 {k : Nat} (h : isBoard k) : jFd k 0 = some (1, 0, 0) := (by decide +kernel : ∀ k ∈ [28, 41, 54, 67], jFd k 0 = some (1, 0, 0)) k h
theorem fdBoard_1 {k : Nat} (h : isBoard k) : jFd k 1 = some (1, 0, 0) := (by decide +kernel : ∀ k ∈ [28, 41, 54, 67], jFd k 1 = some (1, 0, 0)) k h
theorem fdBoard_2 {k : Nat} (h : isBoard k) : jFd k 2 = some (1, 0, 0) := (by decide +kernel : ∀ k ∈ [28, 41, 54, 67], jFd k 2 = some (1, 0, 0)) k h
theorem fdBoard_3 {k : Nat} (h : isBoard k) : jFd k 3 = some (1, 0, 0) := (by decide +kernel : ∀ k ∈ [28, 41, 54, 67], jFd k 3 = some (1, 0, 0)) k h
theorem fdBoard_4 {k : Nat} (h : isBoard k) : jFd k 4 = some (1, 1, 0) := (by decide +kernel : ∀ k ∈ [28, 41, 54, 67], jFd k 4 = some (1, 1, 0)) k h
theorem fdBoard_5 {k : Nat} (h : isBoard k) : jFd k 5 = some (1, 1, 0) := (by decide +kernel : ∀ k ∈ [28, 41, 54, 67], jFd k 5 = some (1, 1, 0)) k h
theorem fdBoard_6 {k : Nat} (h : isBoard k) : jFd k 6 = some (1, 0, 0) := (by decide +kernel : ∀ k ∈ [28, 41, 54, 67], jFd k 6 = some (1, 0, 0)) k h
theorem fdBoard_7 {k : Nat} (h : isBoard k) : jFd k 7 = some (1, 0, 0) := (by decide +kernel : ∀ k ∈ [28, 41, 54, 67], jFd k 7 = some (1, 0, 0)) k h
theorem fdBoard_8 {k : Nat} (h : isBoard k) : jFd k 8 = some (1, 2, k + 1) := (by decide +kernel : ∀ k ∈ [28, 41, 54, 67], jFd k 8 = some (1, 2, k + 1)) k h
theorem arBoard_8 {k : Nat} (h : isBoard k) : jAr (k + 1) = some (1, 8) := (by decide +kernel : ∀ k ∈ [28, 41, 54, 67], jAr (k + 1) = some (1, 8)) k h
theorem fdBoard_9 {k : Nat} (h : isBoard k) : jFd k 9 = some (1, 2, k + 2) := (by decide +kernel : ∀ k ∈ [28, 41, 54, 67], jFd k 9 = some (1, 2, k + 2)) k h
theorem isBoard_9 {k : Nat} (h : isBoard k) : isBands (k + 2) := by
  unfold isBoard at h
  unfold isBands
  revert k
  decide +kernel
theorem isBoard_at28 : isBoard 28 := by unfold isBoard; decide
theorem isBoard_at41 : isBoard 41 := by unfold isBoard; decide
theorem isBoard_at54 : isBoard 54 := by unfold isBoard; decide
theorem isBoard_at67 : isBoard 67 := by unfold isBoard; decide
theorem obBands {k : Nat} (h : isBands k) : jOb k = some 0 := (by decide +kernel : ∀ k ∈ [30, 43, 56, 69, 79, 83, 87, 91, 95, 99, 103, 107], jOb k = some 0) k h
theorem fdBands_0 {k : Nat} (h : isBands k) : jFd k 0 = some (0, 0, 0) := (by decide +kernel : ∀ k ∈ [30, 43, 56, 69, 79, 83, 87, 91, 95, 99, 103, 107], jFd k 0 = some (0, 0, 0)) k h
theorem fdBands_1 {k : Nat} (h : isBands k) : jFd k 1 = some (0, 2, k + 1) := (by decide +kernel : ∀ k ∈ [30, 43, 56, 69, 79, 83, 87, 91, 95, 99, 103, 107], jFd k 1 = some (0, 2, k + 1)) k h
theorem arBands_1 {k : Nat} (h : isBands k) : jAr (k + 1) = some (0, 8) := (by decide +kernel : ∀ k ∈ [30, 43, 56, 69, 79, 83, 87, 91, 95, 99, 103, 107], jAr (k + 1) = some (0, 8)) k h
theorem fdBands_2 {k : Nat} (h : isBands k) : jFd k 2 = some (0, 2, k + 2) := (by decide +kernel : ∀ k ∈ [30, 43, 56, 69, 79, 83, 87, 91, 95, 99, 103, 107], jFd k 2 = some (0, 2, k + 2)) k h
theorem arBands_2 {k : Nat} (h : isBands k) : jAr (k + 2) = some (0, 8) := (by decide +kernel : ∀ k ∈ [30, 43, 56, 69, 79, 83, 87, 91, 95, 99, 103, 107], jAr (k + 2) = some (0, 8)) k h
theorem fdBands_3 {k : Nat} (h : isBands k) : jFd k 3 = some (0, 2, k + 3) := (by decide +kernel : ∀ k ∈ [30, 43, 56, 69, 79, 83, 87, 91, 95, 99, 103, 107], jFd k 3 = some (0, 2, k + 3)) k h
theorem arBands_3 {k : Nat} (h : isBands k) : jAr (k + 3) = some (0, 64) := (by decide +kernel : ∀ k ∈ [30, 43, 56, 69, 79, 83, 87, 91, 95, 99, 103, 107], jAr (k + 3) = some (0, 64)) k h
theorem isBands_at30 : isBands 30 := by unfold isBands; decide
theorem isBands_at43 : isBands 43 := by unfold isBands; decide
theorem isBands_at56 : isBands 56 := by unfold isBands; decide
theorem isBands_at69 : isBands 69 := by unfold isBands; decide
theorem isBands_at79 : isBands 79 := by unfold isBands; decide
theorem isBands_at83 : isBands 83 := by unfold isBands; decide
theorem isBands_at87 : isBands 87 := by unfold isBands; decide
theorem isBands_at91 : isBands 91 := by unfold isBands; decide
theorem isBands_at95 : isBands 95 := by unfold isBands; decide
theorem isBands_at99 : isBands 99 := by unfold isBands; decide
theorem isBands_at103 : isBands 103 := by unfold isBands; decide
theorem isBands_at107 : isBands 107 := by unfold isBands; decide
theorem obCalls {k : Nat} (h : isCalls k) : jOb k = some 3 := (by decide +kernel : ∀ k ∈ [34, 47, 60, 73], jOb k = some 3) k h
theorem fdCalls_0 {k : Nat} (h : isCalls k) : jFd k 0 = some (3, 0, 0) := (by decide +kernel : ∀ k ∈ [34, 47, 60, 73], jFd k 0 = some (3, 0, 0)) k h
theorem fdCalls_1 {k : Nat} (h : isCalls k) : jFd k 1 = some (3, 0, 0) := (by decide +kernel : ∀ k ∈ [34, 47, 60, 73], jFd k 1 = some (3, 0, 0)) k h
theorem fdCalls_2 {k : Nat} (h : isCalls k) : jFd k 2 = some (3, 0, 0) := (by decide +kernel : ∀ k ∈ [34, 47, 60, 73], jFd k 2 = some (3, 0, 0)) k h
theorem fdCalls_3 {k : Nat} (h : isCalls k) : jFd k 3 = some (3, 2, k + 1) := (by decide +kernel : ∀ k ∈ [34, 47, 60, 73], jFd k 3 = some (3, 2, k + 1)) k h
theorem arCalls_3 {k : Nat} (h : isCalls k) : jAr (k + 1) = some (0, 8) := (by decide +kernel : ∀ k ∈ [34, 47, 60, 73], jAr (k + 1) = some (0, 8)) k h
theorem fdCalls_4 {k : Nat} (h : isCalls k) : jFd k 4 = some (3, 2, k + 2) := (by decide +kernel : ∀ k ∈ [34, 47, 60, 73], jFd k 4 = some (3, 2, k + 2)) k h
theorem arCalls_4 {k : Nat} (h : isCalls k) : jAr (k + 2) = some (0, 8) := (by decide +kernel : ∀ k ∈ [34, 47, 60, 73], jAr (k + 2) = some (0, 8)) k h
theorem isCalls_at34 : isCalls 34 := by unfold isCalls; decide
theorem isCalls_at47 : isCalls 47 := by unfold isCalls; decide
theorem isCalls_at60 : isCalls 60 := by unfold isCalls; decide
theorem isCalls_at73 : isCalls 73 := by unfold isCalls; decide
theorem obSentence {k : Nat} (h : isSentence k) : jOb k = some 8 := (by decide +kernel : ∀ k ∈ [38, 51, 64, 77], jOb k = some 8) k h
theorem fdSentence_0 {k : Nat} (h : isSentence k) : jFd k 0 = some (8, 0, 0) := (by decide +kernel : ∀ k ∈ [38, 51, 64, 77], jFd k 0 = some (8, 0, 0)) k h
theorem fdSentence_1 {k : Nat} (h : isSentence k) : jFd k 1 = some (8, 0, 0) := (by decide +kernel : ∀ k ∈ [38, 51, 64, 77], jFd k 1 = some (8, 0, 0)) k h
theorem fdSentence_2 {k : Nat} (h : isSentence k) : jFd k 2 = some (8, 2, k + 1) := (by decide +kernel : ∀ k ∈ [38, 51, 64, 77], jFd k 2 = some (8, 2, k + 1)) k h
theorem arSentence_2 {k : Nat} (h : isSentence k) : jAr (k + 1) = some (0, 40) := (by decide +kernel : ∀ k ∈ [38, 51, 64, 77], jAr (k + 1) = some (0, 40)) k h
theorem isSentence_at38 : isSentence 38 := by unfold isSentence; decide
theorem isSentence_at51 : isSentence 51 := by unfold isSentence; decide
theorem isSentence_at64 : isSentence 64 := by unfold isSentence; decide
theorem isSentence_at77 : isSentence 77 := by unfold isSentence; decide
theorem obBytes {k : Nat} (h : isBytes k) : jOb k = some 2 := (by decide +kernel : ∀ k ∈ [2, 4], jOb k = some 2) k h
theorem fdBytes_0 {k : Nat} (h : isBytes k) : jFd k 0 = some (2, 2, k + 1) := (by decide +kernel : ∀ k ∈ [2, 4], jFd k 0 = some (2, 2, k + 1)) k h
def nBytes (k : Nat) : Nat := if k = 2 then 640 else 79
theorem arBytes_0 {k : Nat} (h : isBytes k) : jAr (k + 1) = some (2, nBytes k) := (by decide +kernel : ∀ k ∈ [2, 4], jAr (k + 1) = some (2, nBytes k)) k h
theorem fdBytes_1 {k : Nat} (h : isBytes k) : jFd k 1 = some (2, 0, 0) := (by decide +kernel : ∀ k ∈ [2, 4], jFd k 1 = some (2, 0, 0)) k h
theorem isBytes_at2 : isBytes 2 := by unfold isBytes; decide
theorem isBytes_at4 : isBytes 4 := by unfold isBytes; decide
theorem r_pV0 {d dc : Nat} {y y' : jMI} {Po : Option Value → jS → Prop} {pc : Nat} {lv : List (Nat × Value)} {st : List Value} {σ : jS} {k ci idx : Nat} {v : Value} (hd : decode y.2.1 pc = .ok (.invokevirtual idx, 3)) (hw : Cond.methodLink y.1.cls idx y'.1 ∈ lw_good) (hc : jCE y' ci 0) (hk : jOb k = some ci) (hdc : dc < d) (hcat : (st.map fun v => v.category).sum ≤ 8) (hM : Jp dc y' [.ref k] σ v) (K : jR d y Po (pc + 3) lv (v :: st) σ) : jR d y Po pc lv (.ref k :: st) σ := r_pureV (as := []) hd hw hc hk hdc rfl rfl hcat hM K
theorem r_cV0 {d dc : Nat} {y y' : jMI} {Po Po' : Option Value → jS → Prop} {pc : Nat} {lv : List (Nat × Value)} {st : List Value} {σ : jS} {k ci idx : Nat} (hd : decode y.2.1 pc = .ok (.invokevirtual idx, 3)) (hw : Cond.methodLink y.1.cls idx y'.1 ∈ lw_good) (hc : jCE y' ci 0) (hk : jOb k = some ci) (hdc : dc < d) (hcat : (st.map fun v => v.category).sum ≤ 8) (hM : Jm dc y' [.ref k] σ Po') (K : ∀ r σ', Po' r σ' → jR d y Po (pc + 3) lv (r.toList ++ st) σ') : jR d y Po pc lv (.ref k :: st) σ := r_callV (as := []) hd hw hc hk hdc rfl rfl hcat hM K
theorem r_pV1 {d dc : Nat} {y y' : jMI} {Po : Option Value → jS → Prop} {pc : Nat} {lv : List (Nat × Value)} {st : List Value} {σ : jS} {k ci idx : Nat} {v : Value} {v1 : Value} (hd : decode y.2.1 pc = .ok (.invokevirtual idx, 3)) (hw : Cond.methodLink y.1.cls idx y'.1 ∈ lw_good) (hc : jCE y' ci 1) (hk : jOb k = some ci) (hdc : dc < d) (hcat : (st.map fun v => v.category).sum ≤ 8) (hM : Jp dc y' [.ref k, v1] σ v) (K : jR d y Po (pc + 3) lv (v :: st) σ) : jR d y Po pc lv (v1 :: .ref k :: st) σ := r_pureV (as := [v1]) hd hw hc hk hdc rfl rfl hcat hM K
theorem r_cV1 {d dc : Nat} {y y' : jMI} {Po Po' : Option Value → jS → Prop} {pc : Nat} {lv : List (Nat × Value)} {st : List Value} {σ : jS} {k ci idx : Nat} {v1 : Value} (hd : decode y.2.1 pc = .ok (.invokevirtual idx, 3)) (hw : Cond.methodLink y.1.cls idx y'.1 ∈ lw_good) (hc : jCE y' ci 1) (hk : jOb k = some ci) (hdc : dc < d) (hcat : (st.map fun v => v.category).sum ≤ 8) (hM : Jm dc y' [.ref k, v1] σ Po') (K : ∀ r σ', Po' r σ' → jR d y Po (pc + 3) lv (r.toList ++ st) σ') : jR d y Po pc lv (v1 :: .ref k :: st) σ := r_callV (as := [v1]) hd hw hc hk hdc rfl rfl hcat hM K
theorem r_pV2 {d dc : Nat} {y y' : jMI} {Po : Option Value → jS → Prop} {pc : Nat} {lv : List (Nat × Value)} {st : List Value} {σ : jS} {k ci idx : Nat} {v : Value} {v1 v2 : Value} (hd : decode y.2.1 pc = .ok (.invokevirtual idx, 3)) (hw : Cond.methodLink y.1.cls idx y'.1 ∈ lw_good) (hc : jCE y' ci 2) (hk : jOb k = some ci) (hdc : dc < d) (hcat : (st.map fun v => v.category).sum ≤ 8) (hM : Jp dc y' [.ref k, v1, v2] σ v) (K : jR d y Po (pc + 3) lv (v :: st) σ) : jR d y Po pc lv (v2 :: v1 :: .ref k :: st) σ := r_pureV (as := [v1, v2]) hd hw hc hk hdc rfl rfl hcat hM K
theorem r_cV2 {d dc : Nat} {y y' : jMI} {Po Po' : Option Value → jS → Prop} {pc : Nat} {lv : List (Nat × Value)} {st : List Value} {σ : jS} {k ci idx : Nat} {v1 v2 : Value} (hd : decode y.2.1 pc = .ok (.invokevirtual idx, 3)) (hw : Cond.methodLink y.1.cls idx y'.1 ∈ lw_good) (hc : jCE y' ci 2) (hk : jOb k = some ci) (hdc : dc < d) (hcat : (st.map fun v => v.category).sum ≤ 8) (hM : Jm dc y' [.ref k, v1, v2] σ Po') (K : ∀ r σ', Po' r σ' → jR d y Po (pc + 3) lv (r.toList ++ st) σ') : jR d y Po pc lv (v2 :: v1 :: .ref k :: st) σ := r_callV (as := [v1, v2]) hd hw hc hk hdc rfl rfl hcat hM K
theorem r_pV3 {d dc : Nat} {y y' : jMI} {Po : Option Value → jS → Prop} {pc : Nat} {lv : List (Nat × Value)} {st : List Value} {σ : jS} {k ci idx : Nat} {v : Value} {v1 v2 v3 : Value} (hd : decode y.2.1 pc = .ok (.invokevirtual idx, 3)) (hw : Cond.methodLink y.1.cls idx y'.1 ∈ lw_good) (hc : jCE y' ci 3) (hk : jOb k = some ci) (hdc : dc < d) (hcat : (st.map fun v => v.category).sum ≤ 8) (hM : Jp dc y' [.ref k, v1, v2, v3] σ v) (K : jR d y Po (pc + 3) lv (v :: st) σ) : jR d y Po pc lv (v3 :: v2 :: v1 :: .ref k :: st) σ := r_pureV (as := [v1, v2, v3]) hd hw hc hk hdc rfl rfl hcat hM K
theorem r_cV3 {d dc : Nat} {y y' : jMI} {Po Po' : Option Value → jS → Prop} {pc : Nat} {lv : List (Nat × Value)} {st : List Value} {σ : jS} {k ci idx : Nat} {v1 v2 v3 : Value} (hd : decode y.2.1 pc = .ok (.invokevirtual idx, 3)) (hw : Cond.methodLink y.1.cls idx y'.1 ∈ lw_good) (hc : jCE y' ci 3) (hk : jOb k = some ci) (hdc : dc < d) (hcat : (st.map fun v => v.category).sum ≤ 8) (hM : Jm dc y' [.ref k, v1, v2, v3] σ Po') (K : ∀ r σ', Po' r σ' → jR d y Po (pc + 3) lv (r.toList ++ st) σ') : jR d y Po pc lv (v3 :: v2 :: v1 :: .ref k :: st) σ := r_callV (as := [v1, v2, v3]) hd hw hc hk hdc rfl rfl hcat hM K
theorem r_pV4 {d dc : Nat} {y y' : jMI} {Po : Option Value → jS → Prop} {pc : Nat} {lv : List (Nat × Value)} {st : List Value} {σ : jS} {k ci idx : Nat} {v : Value} {v1 v2 v3 v4 : Value} (hd : decode y.2.1 pc = .ok (.invokevirtual idx, 3)) (hw : Cond.methodLink y.1.cls idx y'.1 ∈ lw_good) (hc : jCE y' ci 4) (hk : jOb k = some ci) (hdc : dc < d) (hcat : (st.map fun v => v.category).sum ≤ 8) (hM : Jp dc y' [.ref k, v1, v2, v3, v4] σ v) (K : jR d y Po (pc + 3) lv (v :: st) σ) : jR d y Po pc lv (v4 :: v3 :: v2 :: v1 :: .ref k :: st) σ := r_pureV (as := [v1, v2, v3, v4]) hd hw hc hk hdc rfl rfl hcat hM K
theorem r_cV4 {d dc : Nat} {y y' : jMI} {Po Po' : Option Value → jS → Prop} {pc : Nat} {lv : List (Nat × Value)} {st : List Value} {σ : jS} {k ci idx : Nat} {v1 v2 v3 v4 : Value} (hd : decode y.2.1 pc = .ok (.invokevirtual idx, 3)) (hw : Cond.methodLink y.1.cls idx y'.1 ∈ lw_good) (hc : jCE y' ci 4) (hk : jOb k = some ci) (hdc : dc < d) (hcat : (st.map fun v => v.category).sum ≤ 8) (hM : Jm dc y' [.ref k, v1, v2, v3, v4] σ Po') (K : ∀ r σ', Po' r σ' → jR d y Po (pc + 3) lv (r.toList ++ st) σ') : jR d y Po pc lv (v4 :: v3 :: v2 :: v1 :: .ref k :: st) σ := r_callV (as := [v1, v2, v3, v4]) hd hw hc hk hdc rfl rfl hcat hM K
theorem r_pV5 {d dc : Nat} {y y' : jMI} {Po : Option Value → jS → Prop} {pc : Nat} {lv : List (Nat × Value)} {st : List Value} {σ : jS} {k ci idx : Nat} {v : Value} {v1 v2 v3 v4 v5 : Value} (hd : decode y.2.1 pc = .ok (.invokevirtual idx, 3)) (hw : Cond.methodLink y.1.cls idx y'.1 ∈ lw_good) (hc : jCE y' ci 5) (hk : jOb k = some ci) (hdc : dc < d) (hcat : (st.map fun v => v.category).sum ≤ 8) (hM : Jp dc y' [.ref k, v1, v2, v3, v4, v5] σ v) (K : jR d y Po (pc + 3) lv (v :: st) σ) : jR d y Po pc lv (v5 :: v4 :: v3 :: v2 :: v1 :: .ref k :: st) σ := r_pureV (as := [v1, v2, v3, v4, v5]) hd hw hc hk hdc rfl rfl hcat hM K
theorem r_cV5 {d dc : Nat} {y y' : jMI} {Po Po' : Option Value → jS → Prop} {pc : Nat} {lv : List (Nat × Value)} {st : List Value} {σ : jS} {k ci idx : Nat} {v1 v2 v3 v4 v5 : Value} (hd : decode y.2.1 pc = .ok (.invokevirtual idx, 3)) (hw : Cond.methodLink y.1.cls idx y'.1 ∈ lw_good) (hc : jCE y' ci 5) (hk : jOb k = some ci) (hdc : dc < d) (hcat : (st.map fun v => v.category).sum ≤ 8) (hM : Jm dc y' [.ref k, v1, v2, v3, v4, v5] σ Po') (K : ∀ r σ', Po' r σ' → jR d y Po (pc + 3) lv (r.toList ++ st) σ') : jR d y Po pc lv (v5 :: v4 :: v3 :: v2 :: v1 :: .ref k :: st) σ := r_callV (as := [v1, v2, v3, v4, v5]) hd hw hc hk hdc rfl rfl hcat hM K
theorem r_pV6 {d dc : Nat} {y y' : jMI} {Po : Option Value → jS → Prop} {pc : Nat} {lv : List (Nat × Value)} {st : List Value} {σ : jS} {k ci idx : Nat} {v : Value} {v1 v2 v3 v4 v5 v6 : Value} (hd : decode y.2.1 pc = .ok (.invokevirtual idx, 3)) (hw : Cond.methodLink y.1.cls idx y'.1 ∈ lw_good) (hc : jCE y' ci 6) (hk : jOb k = some ci) (hdc : dc < d) (hcat : (st.map fun v => v.category).sum ≤ 8) (hM : Jp dc y' [.ref k, v1, v2, v3, v4, v5, v6] σ v) (K : jR d y Po (pc + 3) lv (v :: st) σ) : jR d y Po pc lv (v6 :: v5 :: v4 :: v3 :: v2 :: v1 :: .ref k :: st) σ := r_pureV (as := [v1, v2, v3, v4, v5, v6]) hd hw hc hk hdc rfl rfl hcat hM K
theorem r_cV6 {d dc : Nat} {y y' : jMI} {Po Po' : Option Value → jS → Prop} {pc : Nat} {lv : List (Nat × Value)} {st : List Value} {σ : jS} {k ci idx : Nat} {v1 v2 v3 v4 v5 v6 : Value} (hd : decode y.2.1 pc = .ok (.invokevirtual idx, 3)) (hw : Cond.methodLink y.1.cls idx y'.1 ∈ lw_good) (hc : jCE y' ci 6) (hk : jOb k = some ci) (hdc : dc < d) (hcat : (st.map fun v => v.category).sum ≤ 8) (hM : Jm dc y' [.ref k, v1, v2, v3, v4, v5, v6] σ Po') (K : ∀ r σ', Po' r σ' → jR d y Po (pc + 3) lv (r.toList ++ st) σ') : jR d y Po pc lv (v6 :: v5 :: v4 :: v3 :: v2 :: v1 :: .ref k :: st) σ := r_callV (as := [v1, v2, v3, v4, v5, v6]) hd hw hc hk hdc rfl rfl hcat hM K
theorem r_pV7 {d dc : Nat} {y y' : jMI} {Po : Option Value → jS → Prop} {pc : Nat} {lv : List (Nat × Value)} {st : List Value} {σ : jS} {k ci idx : Nat} {v : Value} {v1 v2 v3 v4 v5 v6 v7 : Value} (hd : decode y.2.1 pc = .ok (.invokevirtual idx, 3)) (hw : Cond.methodLink y.1.cls idx y'.1 ∈ lw_good) (hc : jCE y' ci 7) (hk : jOb k = some ci) (hdc : dc < d) (hcat : (st.map fun v => v.category).sum ≤ 8) (hM : Jp dc y' [.ref k, v1, v2, v3, v4, v5, v6, v7] σ v) (K : jR d y Po (pc + 3) lv (v :: st) σ) : jR d y Po pc lv (v7 :: v6 :: v5 :: v4 :: v3 :: v2 :: v1 :: .ref k :: st) σ := r_pureV (as := [v1, v2, v3, v4, v5, v6, v7]) hd hw hc hk hdc rfl rfl hcat hM K
theorem r_cV7 {d dc : Nat} {y y' : jMI} {Po Po' : Option Value → jS → Prop} {pc : Nat} {lv : List (Nat × Value)} {st : List Value} {σ : jS} {k ci idx : Nat} {v1 v2 v3 v4 v5 v6 v7 : Value} (hd : decode y.2.1 pc = .ok (.invokevirtual idx, 3)) (hw : Cond.methodLink y.1.cls idx y'.1 ∈ lw_good) (hc : jCE y' ci 7) (hk : jOb k = some ci) (hdc : dc < d) (hcat : (st.map fun v => v.category).sum ≤ 8) (hM : Jm dc y' [.ref k, v1, v2, v3, v4, v5, v6, v7] σ Po') (K : ∀ r σ', Po' r σ' → jR d y Po (pc + 3) lv (r.toList ++ st) σ') : jR d y Po pc lv (v7 :: v6 :: v5 :: v4 :: v3 :: v2 :: v1 :: .ref k :: st) σ := r_callV (as := [v1, v2, v3, v4, v5, v6, v7]) hd hw hc hk hdc rfl rfl hcat hM K
theorem r_pS1 {d dc : Nat} {y y' : jMI} {Po : Option Value → jS → Prop} {pc : Nat} {lv : List (Nat × Value)} {st : List Value} {σ : jS} {idx : Nat} {v : Value} {v1 : Value} (hd : decode y.2.1 pc = .ok (.invokestatic idx, 3)) (hw : Cond.methodLink y.1.cls idx y'.1 ∈ lw_good) (hc : jSE y' 1) (hdc : dc < d) (hcat : (st.map fun v => v.category).sum ≤ 8) (hM : Jp dc y' [v1] σ v) (K : jR d y Po (pc + 3) lv (v :: st) σ) : jR d y Po pc lv (v1 :: st) σ := r_pureS (as := [v1]) hd hw hc hdc rfl rfl hcat hM K
theorem r_cS1 {d dc : Nat} {y y' : jMI} {Po Po' : Option Value → jS → Prop} {pc : Nat} {lv : List (Nat × Value)} {st : List Value} {σ : jS} {idx : Nat} {v1 : Value} (hd : decode y.2.1 pc = .ok (.invokestatic idx, 3)) (hw : Cond.methodLink y.1.cls idx y'.1 ∈ lw_good) (hc : jSE y' 1) (hdc : dc < d) (hcat : (st.map fun v => v.category).sum ≤ 8) (hM : Jm dc y' [v1] σ Po') (K : ∀ r σ', Po' r σ' → jR d y Po (pc + 3) lv (r.toList ++ st) σ') : jR d y Po pc lv (v1 :: st) σ := r_callS (as := [v1]) hd hw hc hdc rfl rfl hcat hM K
theorem r_pS2 {d dc : Nat} {y y' : jMI} {Po : Option Value → jS → Prop} {pc : Nat} {lv : List (Nat × Value)} {st : List Value} {σ : jS} {idx : Nat} {v : Value} {v1 v2 : Value} (hd : decode y.2.1 pc = .ok (.invokestatic idx, 3)) (hw : Cond.methodLink y.1.cls idx y'.1 ∈ lw_good) (hc : jSE y' 2) (hdc : dc < d) (hcat : (st.map fun v => v.category).sum ≤ 8) (hM : Jp dc y' [v1, v2] σ v) (K : jR d y Po (pc + 3) lv (v :: st) σ) : jR d y Po pc lv (v2 :: v1 :: st) σ := r_pureS (as := [v1, v2]) hd hw hc hdc rfl rfl hcat hM K
theorem r_cS2 {d dc : Nat} {y y' : jMI} {Po Po' : Option Value → jS → Prop} {pc : Nat} {lv : List (Nat × Value)} {st : List Value} {σ : jS} {idx : Nat} {v1 v2 : Value} (hd : decode y.2.1 pc = .ok (.invokestatic idx, 3)) (hw : Cond.methodLink y.1.cls idx y'.1 ∈ lw_good) (hc : jSE y' 2) (hdc : dc < d) (hcat : (st.map fun v => v.category).sum ≤ 8) (hM : Jm dc y' [v1, v2] σ Po') (K : ∀ r σ', Po' r σ' → jR d y Po (pc + 3) lv (r.toList ++ st) σ') : jR d y Po pc lv (v2 :: v1 :: st) σ := r_callS (as := [v1, v2]) hd hw hc hdc rfl rfl hcat hM K
theorem r_pS3 {d dc : Nat} {y y' : jMI} {Po : Option Value → jS → Prop} {pc : Nat} {lv : List (Nat × Value)} {st : List Value} {σ : jS} {idx : Nat} {v : Value} {v1 v2 v3 : Value} (hd : decode y.2.1 pc = .ok (.invokestatic idx, 3)) (hw : Cond.methodLink y.1.cls idx y'.1 ∈ lw_good) (hc : jSE y' 3) (hdc : dc < d) (hcat : (st.map fun v => v.category).sum ≤ 8) (hM : Jp dc y' [v1, v2, v3] σ v) (K : jR d y Po (pc + 3) lv (v :: st) σ) : jR d y Po pc lv (v3 :: v2 :: v1 :: st) σ := r_pureS (as := [v1, v2, v3]) hd hw hc hdc rfl rfl hcat hM K
theorem r_cS3 {d dc : Nat} {y y' : jMI} {Po Po' : Option Value → jS → Prop} {pc : Nat} {lv : List (Nat × Value)} {st : List Value} {σ : jS} {idx : Nat} {v1 v2 v3 : Value} (hd : decode y.2.1 pc = .ok (.invokestatic idx, 3)) (hw : Cond.methodLink y.1.cls idx y'.1 ∈ lw_good) (hc : jSE y' 3) (hdc : dc < d) (hcat : (st.map fun v => v.category).sum ≤ 8) (hM : Jm dc y' [v1, v2, v3] σ Po') (K : ∀ r σ', Po' r σ' → jR d y Po (pc + 3) lv (r.toList ++ st) σ') : jR d y Po pc lv (v3 :: v2 :: v1 :: st) σ := r_callS (as := [v1, v2, v3]) hd hw hc hdc rfl rfl hcat hM K
theorem r_pS4 {d dc : Nat} {y y' : jMI} {Po : Option Value → jS → Prop} {pc : Nat} {lv : List (Nat × Value)} {st : List Value} {σ : jS} {idx : Nat} {v : Value} {v1 v2 v3 v4 : Value} (hd : decode y.2.1 pc = .ok (.invokestatic idx, 3)) (hw : Cond.methodLink y.1.cls idx y'.1 ∈ lw_good) (hc : jSE y' 4) (hdc : dc < d) (hcat : (st.map fun v => v.category).sum ≤ 8) (hM : Jp dc y' [v1, v2, v3, v4] σ v) (K : jR d y Po (pc + 3) lv (v :: st) σ) : jR d y Po pc lv (v4 :: v3 :: v2 :: v1 :: st) σ := r_pureS (as := [v1, v2, v3, v4]) hd hw hc hdc rfl rfl hcat hM K
theorem r_cS4 {d dc : Nat} {y y' : jMI} {Po Po' : Option Value → jS → Prop} {pc : Nat} {lv : List (Nat × Value)} {st : List Value} {σ : jS} {idx : Nat} {v1 v2 v3 v4 : Value} (hd : decode y.2.1 pc = .ok (.invokestatic idx, 3)) (hw : Cond.methodLink y.1.cls idx y'.1 ∈ lw_good) (hc : jSE y' 4) (hdc : dc < d) (hcat : (st.map fun v => v.category).sum ≤ 8) (hM : Jm dc y' [v1, v2, v3, v4] σ Po') (K : ∀ r σ', Po' r σ' → jR d y Po (pc + 3) lv (r.toList ++ st) σ') : jR d y Po pc lv (v4 :: v3 :: v2 :: v1 :: st) σ := r_callS (as := [v1, v2, v3, v4]) hd hw hc hdc rfl rfl hcat hM K
theorem r_pS5 {d dc : Nat} {y y' : jMI} {Po : Option Value → jS → Prop} {pc : Nat} {lv : List (Nat × Value)} {st : List Value} {σ : jS} {idx : Nat} {v : Value} {v1 v2 v3 v4 v5 : Value} (hd : decode y.2.1 pc = .ok (.invokestatic idx, 3)) (hw : Cond.methodLink y.1.cls idx y'.1 ∈ lw_good) (hc : jSE y' 5) (hdc : dc < d) (hcat : (st.map fun v => v.category).sum ≤ 8) (hM : Jp dc y' [v1, v2, v3, v4, v5] σ v) (K : jR d y Po (pc + 3) lv (v :: st) σ) : jR d y Po pc lv (v5 :: v4 :: v3 :: v2 :: v1 :: st) σ := r_pureS (as := [v1, v2, v3, v4, v5]) hd hw hc hdc rfl rfl hcat hM K
theorem r_cS5 {d dc : Nat} {y y' : jMI} {Po Po' : Option Value → jS → Prop} {pc : Nat} {lv : List (Nat × Value)} {st : List Value} {σ : jS} {idx : Nat} {v1 v2 v3 v4 v5 : Value} (hd : decode y.2.1 pc = .ok (.invokestatic idx, 3)) (hw : Cond.methodLink y.1.cls idx y'.1 ∈ lw_good) (hc : jSE y' 5) (hdc : dc < d) (hcat : (st.map fun v => v.category).sum ≤ 8) (hM : Jm dc y' [v1, v2, v3, v4, v5] σ Po') (K : ∀ r σ', Po' r σ' → jR d y Po (pc + 3) lv (r.toList ++ st) σ') : jR d y Po pc lv (v5 :: v4 :: v3 :: v2 :: v1 :: st) σ := r_callS (as := [v1, v2, v3, v4, v5]) hd hw hc hdc rfl rfl hcat hM K
theorem r_pS6 {d dc : Nat} {y y' : jMI} {Po : Option Value → jS → Prop} {pc : Nat} {lv : List (Nat × Value)} {st : List Value} {σ : jS} {idx : Nat} {v : Value} {v1 v2 v3 v4 v5 v6 : Value} (hd : decode y.2.1 pc = .ok (.invokestatic idx, 3)) (hw : Cond.methodLink y.1.cls idx y'.1 ∈ lw_good) (hc : jSE y' 6) (hdc : dc < d) (hcat : (st.map fun v => v.category).sum ≤ 8) (hM : Jp dc y' [v1, v2, v3, v4, v5, v6] σ v) (K : jR d y Po (pc + 3) lv (v :: st) σ) : jR d y Po pc lv (v6 :: v5 :: v4 :: v3 :: v2 :: v1 :: st) σ := r_pureS (as := [v1, v2, v3, v4, v5, v6]) hd hw hc hdc rfl rfl hcat hM K
theorem r_cS6 {d dc : Nat} {y y' : jMI} {Po Po' : Option Value → jS → Prop} {pc : Nat} {lv : List (Nat × Value)} {st : List Value} {σ : jS} {idx : Nat} {v1 v2 v3 v4 v5 v6 : Value} (hd : decode y.2.1 pc = .ok (.invokestatic idx, 3)) (hw : Cond.methodLink y.1.cls idx y'.1 ∈ lw_good) (hc : jSE y' 6) (hdc : dc < d) (hcat : (st.map fun v => v.category).sum ≤ 8) (hM : Jm dc y' [v1, v2, v3, v4, v5, v6] σ Po') (K : ∀ r σ', Po' r σ' → jR d y Po (pc + 3) lv (r.toList ++ st) σ') : jR d y Po pc lv (v6 :: v5 :: v4 :: v3 :: v2 :: v1 :: st) σ := r_callS (as := [v1, v2, v3, v4, v5, v6]) hd hw hc hdc rfl rfl hcat hM K
theorem r_pS7 {d dc : Nat} {y y' : jMI} {Po : Option Value → jS → Prop} {pc : Nat} {lv : List (Nat × Value)} {st : List Value} {σ : jS} {idx : Nat} {v : Value} {v1 v2 v3 v4 v5 v6 v7 : Value} (hd : decode y.2.1 pc = .ok (.invokestatic idx, 3)) (hw : Cond.methodLink y.1.cls idx y'.1 ∈ lw_good) (hc : jSE y' 7) (hdc : dc < d) (hcat : (st.map fun v => v.category).sum ≤ 8) (hM : Jp dc y' [v1, v2, v3, v4, v5, v6, v7] σ v) (K : jR d y Po (pc + 3) lv (v :: st) σ) : jR d y Po pc lv (v7 :: v6 :: v5 :: v4 :: v3 :: v2 :: v1 :: st) σ := r_pureS (as := [v1, v2, v3, v4, v5, v6, v7]) hd hw hc hdc rfl rfl hcat hM K
theorem r_cS7 {d dc : Nat} {y y' : jMI} {Po Po' : Option Value → jS → Prop} {pc : Nat} {lv : List (Nat × Value)} {st : List Value} {σ : jS} {idx : Nat} {v1 v2 v3 v4 v5 v6 v7 : Value} (hd : decode y.2.1 pc = .ok (.invokestatic idx, 3)) (hw : Cond.methodLink y.1.cls idx y'.1 ∈ lw_good) (hc : jSE y' 7) (hdc : dc < d) (hcat : (st.map fun v => v.category).sum ≤ 8) (hM : Jm dc y' [v1, v2, v3, v4, v5, v6, v7] σ Po') (K : ∀ r σ', Po' r σ' → jR d y Po (pc + 3) lv (r.toList ++ st) σ') : jR d y Po pc lv (v7 :: v6 :: v5 :: v4 :: v3 :: v2 :: v1 :: st) σ := r_callS (as := [v1, v2, v3, v4, v5, v6, v7]) hd hw hc hdc rfl rfl hcat hM K
theorem r_pS8 {d dc : Nat} {y y' : jMI} {Po : Option Value → jS → Prop} {pc : Nat} {lv : List (Nat × Value)} {st : List Value} {σ : jS} {idx : Nat} {v : Value} {v1 v2 v3 v4 v5 v6 v7 v8 : Value} (hd : decode y.2.1 pc = .ok (.invokestatic idx, 3)) (hw : Cond.methodLink y.1.cls idx y'.1 ∈ lw_good) (hc : jSE y' 8) (hdc : dc < d) (hcat : (st.map fun v => v.category).sum ≤ 8) (hM : Jp dc y' [v1, v2, v3, v4, v5, v6, v7, v8] σ v) (K : jR d y Po (pc + 3) lv (v :: st) σ) : jR d y Po pc lv (v8 :: v7 :: v6 :: v5 :: v4 :: v3 :: v2 :: v1 :: st) σ := r_pureS (as := [v1, v2, v3, v4, v5, v6, v7, v8]) hd hw hc hdc rfl rfl hcat hM K
theorem r_cS8 {d dc : Nat} {y y' : jMI} {Po Po' : Option Value → jS → Prop} {pc : Nat} {lv : List (Nat × Value)} {st : List Value} {σ : jS} {idx : Nat} {v1 v2 v3 v4 v5 v6 v7 v8 : Value} (hd : decode y.2.1 pc = .ok (.invokestatic idx, 3)) (hw : Cond.methodLink y.1.cls idx y'.1 ∈ lw_good) (hc : jSE y' 8) (hdc : dc < d) (hcat : (st.map fun v => v.category).sum ≤ 8) (hM : Jm dc y' [v1, v2, v3, v4, v5, v6, v7, v8] σ Po') (K : ∀ r σ', Po' r σ' → jR d y Po (pc + 3) lv (r.toList ++ st) σ') : jR d y Po pc lv (v8 :: v7 :: v6 :: v5 :: v4 :: v3 :: v2 :: v1 :: st) σ := r_callS (as := [v1, v2, v3, v4, v5, v6, v7, v8]) hd hw hc hdc rfl rfl hcat hM K
/-- fewer known locals, in any order: by their places -/
theorem r_pick {d : Nat} {y : jMI} {Po : Option Value → jS → Prop} {pc : Nat} {lv lv' : List (Nat × Value)} {st : List Value} {σ : jS} (ks : List Nat) (hl : ks.filterMap (fun k => lv[k]?) = lv') (K : jR d y Po pc lv' st σ) : jR d y Po pc lv st σ := by
  intro p l e s m args below meth c ad A D cA H locs ls C Wd h
  refine K p l e s m args below meth c ad A D cA H locs ls C Wd ⟨h.1, h.2.1, fun q hq => h.2.2 q ?_⟩
  obtain ⟨z, hz, rfl⟩ := List.mem_map.mp hq
  rw [← hl] at hz
  obtain ⟨k, -, hk⟩ := List.mem_filterMap.mp hz
  exact List.mem_map.mpr ⟨z, List.mem_of_getElem? hk, rfl⟩
theorem r_eqI {d : Nat} {y : jMI} {Po : Option Value → jS → Prop} {pc : Nat} {lv : List (Nat × Value)} {st : List Value} {σ : jS} {a : Int} (b : Int) (h : a = b) (K : jR d y Po pc lv (vI b :: st) σ) : jR d y Po pc lv (vI a :: st) σ := h ▸ K
theorem r_eqL {d : Nat} {y : jMI} {Po : Option Value → jS → Prop} {pc : Nat} {lv : List (Nat × Value)} {st : List Value} {σ : jS} {a : Int} (b : Int) (h : a = b) (K : jR d y Po pc lv (vL b :: st) σ) : jR d y Po pc lv (vL a :: st) σ := h ▸ K
theorem r_eqS {d : Nat} {y : jMI} {Po : Option Value → jS → Prop} {pc : Nat} {lv : List (Nat × Value)} {st : List Value} {σ : jS} (τ : jS) (h : σ = τ) (K : jR d y Po pc lv st τ) : jR d y Po pc lv st σ := h ▸ K
theorem np {d : Nat} {y : jMI} {Po : Option Value → jS → Prop} {n : Nat} {lv : List (Nat × Value)} {st : List Value} {σ : jS} (m : Nat) (h : n = m) (K : jR d y Po m lv st σ) : jR d y Po n lv st σ := h ▸ K
theorem r_gI {d : Nat} {y : jMI} {Po : Option Value → jS → Prop} {pc : Nat} {lv : List (Nat × Value)} {st : List Value} {σ : jS} {k idx ci j r : Nat} (z : Int) (hd : decode y.2.1 pc = .ok (.getfield idx, 3)) (hf : jFL y.1.cls idx ci j) (hk : jFd k j = some (ci, 0, r)) (hz : (j : Int) = z) (K : jR d y Po (pc + 3) lv (vI (σ k z) :: st) σ) : jR d y Po pc lv (.ref k :: st) σ := by subst hz; exact r_getI hd hf hk K
theorem r_gL {d : Nat} {y : jMI} {Po : Option Value → jS → Prop} {pc : Nat} {lv : List (Nat × Value)} {st : List Value} {σ : jS} {k idx ci j r : Nat} (z : Int) (hd : decode y.2.1 pc = .ok (.getfield idx, 3)) (hf : jFL y.1.cls idx ci j) (hk : jFd k j = some (ci, 1, r)) (hz : (j : Int) = z) (K : jR d y Po (pc + 3) lv (vL (σ k z) :: st) σ) : jR d y Po pc lv (.ref k :: st) σ := by subst hz; exact r_getL hd hf hk K
theorem r_pI {d : Nat} {y : jMI} {Po : Option Value → jS → Prop} {pc : Nat} {lv : List (Nat × Value)} {st : List Value} {σ : jS} {k idx ci j r : Nat} {z : Int} (i : Int) (hd : decode y.2.1 pc = .ok (.putfield idx, 3)) (hf : jFP y.1.cls idx ci j .int) (hk : jFd k j = some (ci, 0, r)) (hz : (j : Int) = i) (K : jR d y Po (pc + 3) lv st (ju σ k i z)) : jR d y Po pc lv (vI z :: .ref k :: st) σ := by subst hz; exact r_putI hd hf hk K
theorem r_pL {d : Nat} {y : jMI} {Po : Option Value → jS → Prop} {pc : Nat} {lv : List (Nat × Value)} {st : List Value} {σ : jS} {k idx ci j r : Nat} {z : Int} (i : Int) (hd : decode y.2.1 pc = .ok (.putfield idx, 3)) (hf : jFP y.1.cls idx ci j .long) (hk : jFd k j = some (ci, 1, r)) (hz : (j : Int) = i) (K : jR d y Po (pc + 3) lv st (ju σ k i z)) : jR d y Po pc lv (vL z :: .ref k :: st) σ := by subst hz; exact r_putL hd hf hk K
theorem r_pZ {d : Nat} {y : jMI} {Po : Option Value → jS → Prop} {pc : Nat} {lv : List (Nat × Value)} {st : List Value} {σ : jS} {k idx ci j r : Nat} {z : Int} (i : Int) (hzz : z = 0 ∨ z = 1) (hd : decode y.2.1 pc = .ok (.putfield idx, 3)) (hf : jFP y.1.cls idx ci j .boolean) (hk : jFd k j = some (ci, 0, r)) (hz : (j : Int) = i) (K : jR d y Po (pc + 3) lv st (ju σ k i z)) : jR d y Po pc lv (vI z :: .ref k :: st) σ := by subst hz; exact r_putZ hzz hd hf hk K
/-- a truth as a number -/
noncomputable def bI (P : Prop) : Int := @ite _ P (Classical.propDecidable P) 1 0
theorem bI_t {P : Prop} (h : P) : bI P = 1 := by unfold bI; exact if_pos h
theorem bI_f {P : Prop} (h : ¬ P) : bI P = 0 := by unfold bI; exact if_neg h
theorem bI_01 (P : Prop) : bI P = 0 ∨ bI P = 1 := by by_cases h : P; exact Or.inr (bI_t h); exact Or.inl (bI_f h)
theorem bI_iff {P Q : Prop} (h : P ↔ Q) : bI P = bI Q := by rw [propext h]
theorem bI_R (P : Prop) : iR (bI P) := by rcases bI_01 P with h | h <;> rw [h] <;> decide
theorem bI_eq {P : Prop} : bI P = 1 ↔ P := by
  by_cases h : P
  · exact ⟨fun _ => h, fun _ => bI_t h⟩
  · exact ⟨fun q => absurd (q.symm.trans (bI_f h)) (by decide), fun q => absurd q h⟩
theorem r_bz {d : Nat} {y : jMI} {Po : Option Value → jS → Prop} {pc tgt : Nat} {lv : List (Nat × Value)} {st : List Value} {σ : jS} {off : Int} {P : Prop} (hd : decode y.2.1 pc = .ok (.ifCond .eq off, 3)) (ht : (pc : Int) + off = (tgt : Int)) (kt : ¬ P → jR d y Po tgt lv st σ) (kf : P → jR d y Po (pc + 3) lv st σ) : jR d y Po pc lv (vI (bI P) :: st) σ :=
  r_if_eq hd ht (bI_R P) (fun h => kt (fun q => by rw [bI_t q] at h; exact absurd h (by decide))) (fun h => kf (Classical.byContradiction (fun q => h (bI_f q))))
theorem r_bn {d : Nat} {y : jMI} {Po : Option Value → jS → Prop} {pc tgt : Nat} {lv : List (Nat × Value)} {st : List Value} {σ : jS} {off : Int} {P : Prop} (hd : decode y.2.1 pc = .ok (.ifCond .ne off, 3)) (ht : (pc : Int) + off = (tgt : Int)) (kt : P → jR d y Po tgt lv st σ) (kf : ¬ P → jR d y Po (pc + 3) lv st σ) : jR d y Po pc lv (vI (bI P) :: st) σ :=
  r_if_ne hd ht (bI_R P) (fun h => kt (Classical.byContradiction (fun q => h (bI_f q)))) (fun h => kf (fun q => by rw [bI_t q] at h; exact absurd h (by decide)))
theorem bp_m9 : (Int8.ofInt (-9)).toInt32 = Int32.ofInt (-9) := by decide
theorem bp_m2 : (Int8.ofInt (-2)).toInt32 = Int32.ofInt (-2) := by decide
theorem bp_6 : (Int8.ofInt (6)).toInt32 = Int32.ofInt (6) := by decide
theorem bp_7 : (Int8.ofInt (7)).toInt32 = Int32.ofInt (7) := by decide
theorem bp_8 : (Int8.ofInt (8)).toInt32 = Int32.ofInt (8) := by decide
theorem bp_9 : (Int8.ofInt (9)).toInt32 = Int32.ofInt (9) := by decide
theorem bp_10 : (Int8.ofInt (10)).toInt32 = Int32.ofInt (10) := by decide
theorem bp_11 : (Int8.ofInt (11)).toInt32 = Int32.ofInt (11) := by decide
theorem bp_12 : (Int8.ofInt (12)).toInt32 = Int32.ofInt (12) := by decide
theorem bp_13 : (Int8.ofInt (13)).toInt32 = Int32.ofInt (13) := by decide
theorem bp_14 : (Int8.ofInt (14)).toInt32 = Int32.ofInt (14) := by decide
theorem bp_15 : (Int8.ofInt (15)).toInt32 = Int32.ofInt (15) := by decide
theorem bp_16 : (Int8.ofInt (16)).toInt32 = Int32.ofInt (16) := by decide
theorem bp_17 : (Int8.ofInt (17)).toInt32 = Int32.ofInt (17) := by decide
theorem bp_18 : (Int8.ofInt (18)).toInt32 = Int32.ofInt (18) := by decide
theorem bp_20 : (Int8.ofInt (20)).toInt32 = Int32.ofInt (20) := by decide
theorem bp_24 : (Int8.ofInt (24)).toInt32 = Int32.ofInt (24) := by decide
theorem bp_32 : (Int8.ofInt (32)).toInt32 = Int32.ofInt (32) := by decide
theorem bp_36 : (Int8.ofInt (36)).toInt32 = Int32.ofInt (36) := by decide
theorem bp_40 : (Int8.ofInt (40)).toInt32 = Int32.ofInt (40) := by decide
theorem bp_41 : (Int8.ofInt (41)).toInt32 = Int32.ofInt (41) := by decide
theorem bp_45 : (Int8.ofInt (45)).toInt32 = Int32.ofInt (45) := by decide
theorem bp_48 : (Int8.ofInt (48)).toInt32 = Int32.ofInt (48) := by decide
theorem bp_50 : (Int8.ofInt (50)).toInt32 = Int32.ofInt (50) := by decide
theorem bp_57 : (Int8.ofInt (57)).toInt32 = Int32.ofInt (57) := by decide
theorem bp_59 : (Int8.ofInt (59)).toInt32 = Int32.ofInt (59) := by decide
theorem bp_60 : (Int8.ofInt (60)).toInt32 = Int32.ofInt (60) := by decide
theorem bp_61 : (Int8.ofInt (61)).toInt32 = Int32.ofInt (61) := by decide
theorem bp_62 : (Int8.ofInt (62)).toInt32 = Int32.ofInt (62) := by decide
theorem bp_63 : (Int8.ofInt (63)).toInt32 = Int32.ofInt (63) := by decide
theorem bp_64 : (Int8.ofInt (64)).toInt32 = Int32.ofInt (64) := by decide
theorem bp_79 : (Int8.ofInt (79)).toInt32 = Int32.ofInt (79) := by decide
theorem bp_97 : (Int8.ofInt (97)).toInt32 = Int32.ofInt (97) := by decide
theorem bp_98 : (Int8.ofInt (98)).toInt32 = Int32.ofInt (98) := by decide
theorem bp_99 : (Int8.ofInt (99)).toInt32 = Int32.ofInt (99) := by decide
theorem bp_100 : (Int8.ofInt (100)).toInt32 = Int32.ofInt (100) := by decide
theorem bp_101 : (Int8.ofInt (101)).toInt32 = Int32.ofInt (101) := by decide
theorem bp_103 : (Int8.ofInt (103)).toInt32 = Int32.ofInt (103) := by decide
theorem bp_104 : (Int8.ofInt (104)).toInt32 = Int32.ofInt (104) := by decide
theorem bp_105 : (Int8.ofInt (105)).toInt32 = Int32.ofInt (105) := by decide
theorem bp_106 : (Int8.ofInt (106)).toInt32 = Int32.ofInt (106) := by decide
theorem bp_107 : (Int8.ofInt (107)).toInt32 = Int32.ofInt (107) := by decide
theorem bp_108 : (Int8.ofInt (108)).toInt32 = Int32.ofInt (108) := by decide
theorem bp_109 : (Int8.ofInt (109)).toInt32 = Int32.ofInt (109) := by decide
theorem bp_110 : (Int8.ofInt (110)).toInt32 = Int32.ofInt (110) := by decide
theorem bp_111 : (Int8.ofInt (111)).toInt32 = Int32.ofInt (111) := by decide
theorem bp_112 : (Int8.ofInt (112)).toInt32 = Int32.ofInt (112) := by decide
theorem bp_114 : (Int8.ofInt (114)).toInt32 = Int32.ofInt (114) := by decide
theorem bp_115 : (Int8.ofInt (115)).toInt32 = Int32.ofInt (115) := by decide
theorem bp_116 : (Int8.ofInt (116)).toInt32 = Int32.ofInt (116) := by decide
theorem bp_117 : (Int8.ofInt (117)).toInt32 = Int32.ofInt (117) := by decide
theorem bp_119 : (Int8.ofInt (119)).toInt32 = Int32.ofInt (119) := by decide
theorem bp_121 : (Int8.ofInt (121)).toInt32 = Int32.ofInt (121) := by decide
theorem bp_122 : (Int8.ofInt (122)).toInt32 = Int32.ofInt (122) := by decide
theorem sp_200 : (Int16.ofInt (200)).toInt32 = Int32.ofInt (200) := by decide
theorem sp_240 : (Int16.ofInt (240)).toInt32 = Int32.ofInt (240) := by decide
theorem sp_241 : (Int16.ofInt (241)).toInt32 = Int32.ofInt (241) := by decide
theorem sp_242 : (Int16.ofInt (242)).toInt32 = Int32.ofInt (242) := by decide
theorem sp_243 : (Int16.ofInt (243)).toInt32 = Int32.ofInt (243) := by decide
theorem sp_244 : (Int16.ofInt (244)).toInt32 = Int32.ofInt (244) := by decide
theorem sp_245 : (Int16.ofInt (245)).toInt32 = Int32.ofInt (245) := by decide
theorem sp_246 : (Int16.ofInt (246)).toInt32 = Int32.ofInt (246) := by decide
theorem sp_255 : (Int16.ofInt (255)).toInt32 = Int32.ofInt (255) := by decide
theorem sp_258 : (Int16.ofInt (258)).toInt32 = Int32.ofInt (258) := by decide
theorem sp_261 : (Int16.ofInt (261)).toInt32 = Int32.ofInt (261) := by decide
theorem sp_262 : (Int16.ofInt (262)).toInt32 = Int32.ofInt (262) := by decide
theorem sp_270 : (Int16.ofInt (270)).toInt32 = Int32.ofInt (270) := by decide
theorem sp_271 : (Int16.ofInt (271)).toInt32 = Int32.ofInt (271) := by decide
theorem sp_272 : (Int16.ofInt (272)).toInt32 = Int32.ofInt (272) := by decide
theorem sp_300 : (Int16.ofInt (300)).toInt32 = Int32.ofInt (300) := by decide
theorem sp_512 : (Int16.ofInt (512)).toInt32 = Int32.ofInt (512) := by decide
theorem sp_600 : (Int16.ofInt (600)).toInt32 = Int32.ofInt (600) := by decide
theorem sp_640 : (Int16.ofInt (640)).toInt32 = Int32.ofInt (640) := by decide
theorem sp_999 : (Int16.ofInt (999)).toInt32 = Int32.ofInt (999) := by decide
theorem sp_1000 : (Int16.ofInt (1000)).toInt32 = Int32.ofInt (1000) := by decide
theorem sp_1024 : (Int16.ofInt (1024)).toInt32 = Int32.ofInt (1024) := by decide
theorem sp_1296 : (Int16.ofInt (1296)).toInt32 = Int32.ofInt (1296) := by decide
theorem sp_1928 : (Int16.ofInt (1928)).toInt32 = Int32.ofInt (1928) := by decide
theorem sp_3000 : (Int16.ofInt (3000)).toInt32 = Int32.ofInt (3000) := by decide
theorem sp_7140 : (Int16.ofInt (7140)).toInt32 = Int32.ofInt (7140) := by decide
theorem sp_10000 : (Int16.ofInt (10000)).toInt32 = Int32.ofInt (10000) := by decide
theorem lc_0 : Int64.ofNat ((0 : Fin 2) : Nat) = Int64.ofInt 0 := by decide
theorem lc_1 : Int64.ofNat ((1 : Fin 2) : Nat) = Int64.ofInt 1 := by decide
