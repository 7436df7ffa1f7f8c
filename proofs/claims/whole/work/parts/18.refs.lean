def z_frT : List (Nat × Nat × Nat) := [(18, 0, 19), (18, 1, 39), (18, 2, 59), (18, 3, 60), (18, 4, 61), (18, 5, 70), (18, 6, 84), (18, 7, 88), (19, 41, 20), (19, 42, 21), (19, 44, 22), (19, 48, 23), (22, 0, 24), (22, 1, 29), (22, 2, 34), (24, 28, 25), (24, 29, 26), (24, 30, 27), (24, 31, 28), (29, 28, 30), (29, 29, 31), (29, 30, 32), (29, 31, 33), (34, 28, 35), (34, 29, 36), (34, 30, 37), (34, 31, 38), (39, 41, 40), (39, 42, 41), (39, 44, 42), (39, 48, 43), (42, 0, 44), (42, 1, 49), (42, 2, 54), (44, 28, 45), (44, 29, 46), (44, 30, 47), (44, 31, 48), (49, 28, 50), (49, 29, 51), (49, 30, 52), (49, 31, 53), (54, 28, 55), (54, 29, 56), (54, 30, 57), (54, 31, 58), (59, 0, 93), (59, 1, 113), (61, 17, 19), (61, 18, 62), (61, 19, 63), (61, 20, 64), (61, 21, 65), (61, 22, 66), (61, 23, 67), (61, 25, 68), (61, 27, 69), (70, 52, 19), (70, 53, 61), (70, 54, 71), (70, 57, 74), (70, 58, 75), (70, 59, 76), (70, 60, 77), (70, 61, 78), (70, 62, 79), (70, 63, 80), (70, 65, 81), (70, 66, 82), (70, 67, 83), (71, 68, 72), (71, 69, 73), (84, 11, 85), (84, 14, 86), (84, 15, 87), (88, 34, 89), (88, 35, 91), (89, 50, 90), (91, 50, 92), (93, 41, 94), (93, 42, 95), (93, 44, 96), (93, 48, 97), (96, 0, 98), (96, 1, 103), (96, 2, 108), (98, 28, 99), (98, 29, 100), (98, 30, 101), (98, 31, 102), (103, 28, 104), (103, 29, 105), (103, 30, 106), (103, 31, 107), (108, 28, 109), (108, 29, 110), (108, 30, 111), (108, 31, 112), (113, 41, 114), (113, 42, 115), (113, 44, 116), (113, 48, 117), (116, 0, 118), (116, 1, 123), (116, 2, 128), (118, 28, 119), (118, 29, 120), (118, 30, 121), (118, 31, 122), (123, 28, 124), (123, 29, 125), (123, 30, 126), (123, 31, 127), (128, 28, 129), (128, 29, 130), (128, 30, 131), (128, 31, 132), (133, 71, 134), (133, 72, 135), (133, 73, 136), (133, 75, 137), (133, 76, 138), (133, 77, 139), (133, 86, 140), (133, 87, 141), (133, 88, 142), (133, 89, 143), (133, 91, 144), (133, 92, 145), (133, 93, 146), (133, 94, 147), (133, 95, 148), (133, 96, 149), (133, 98, 150)]
def z_FR (fr : Nat → Nat → Option Nat) : Prop := ∀ t ∈ z_frT, fr t.1 t.2.1 = some t.2.2
section
variable {fr : Nat → Nat → Option Nat}
theorem zf_18_0 (h : z_FR fr) : fr 18 0 = some 19 := h (18, 0, 19) (by decide +kernel)
theorem zf_18_1 (h : z_FR fr) : fr 18 1 = some 39 := h (18, 1, 39) (by decide +kernel)
theorem zf_18_2 (h : z_FR fr) : fr 18 2 = some 59 := h (18, 2, 59) (by decide +kernel)
theorem zf_18_3 (h : z_FR fr) : fr 18 3 = some 60 := h (18, 3, 60) (by decide +kernel)
theorem zf_18_4 (h : z_FR fr) : fr 18 4 = some 61 := h (18, 4, 61) (by decide +kernel)
theorem zf_18_5 (h : z_FR fr) : fr 18 5 = some 70 := h (18, 5, 70) (by decide +kernel)
theorem zf_18_6 (h : z_FR fr) : fr 18 6 = some 84 := h (18, 6, 84) (by decide +kernel)
theorem zf_18_7 (h : z_FR fr) : fr 18 7 = some 88 := h (18, 7, 88) (by decide +kernel)
theorem zf_19_41 (h : z_FR fr) : fr 19 41 = some 20 := h (19, 41, 20) (by decide +kernel)
theorem zf_19_42 (h : z_FR fr) : fr 19 42 = some 21 := h (19, 42, 21) (by decide +kernel)
theorem zf_19_44 (h : z_FR fr) : fr 19 44 = some 22 := h (19, 44, 22) (by decide +kernel)
theorem zf_19_48 (h : z_FR fr) : fr 19 48 = some 23 := h (19, 48, 23) (by decide +kernel)
theorem zf_22_0 (h : z_FR fr) : fr 22 0 = some 24 := h (22, 0, 24) (by decide +kernel)
theorem zf_22_1 (h : z_FR fr) : fr 22 1 = some 29 := h (22, 1, 29) (by decide +kernel)
theorem zf_22_2 (h : z_FR fr) : fr 22 2 = some 34 := h (22, 2, 34) (by decide +kernel)
theorem zf_24_28 (h : z_FR fr) : fr 24 28 = some 25 := h (24, 28, 25) (by decide +kernel)
theorem zf_24_29 (h : z_FR fr) : fr 24 29 = some 26 := h (24, 29, 26) (by decide +kernel)
theorem zf_24_30 (h : z_FR fr) : fr 24 30 = some 27 := h (24, 30, 27) (by decide +kernel)
theorem zf_24_31 (h : z_FR fr) : fr 24 31 = some 28 := h (24, 31, 28) (by decide +kernel)
theorem zf_29_28 (h : z_FR fr) : fr 29 28 = some 30 := h (29, 28, 30) (by decide +kernel)
theorem zf_29_29 (h : z_FR fr) : fr 29 29 = some 31 := h (29, 29, 31) (by decide +kernel)
theorem zf_29_30 (h : z_FR fr) : fr 29 30 = some 32 := h (29, 30, 32) (by decide +kernel)
theorem zf_29_31 (h : z_FR fr) : fr 29 31 = some 33 := h (29, 31, 33) (by decide +kernel)
theorem zf_34_28 (h : z_FR fr) : fr 34 28 = some 35 := h (34, 28, 35) (by decide +kernel)
theorem zf_34_29 (h : z_FR fr) : fr 34 29 = some 36 := h (34, 29, 36) (by decide +kernel)
theorem zf_34_30 (h : z_FR fr) : fr 34 30 = some 37 := h (34, 30, 37) (by decide +kernel)
theorem zf_34_31 (h : z_FR fr) : fr 34 31 = some 38 := h (34, 31, 38) (by decide +kernel)
theorem zf_39_41 (h : z_FR fr) : fr 39 41 = some 40 := h (39, 41, 40) (by decide +kernel)
theorem zf_39_42 (h : z_FR fr) : fr 39 42 = some 41 := h (39, 42, 41) (by decide +kernel)
theorem zf_39_44 (h : z_FR fr) : fr 39 44 = some 42 := h (39, 44, 42) (by decide +kernel)
theorem zf_39_48 (h : z_FR fr) : fr 39 48 = some 43 := h (39, 48, 43) (by decide +kernel)
theorem zf_42_0 (h : z_FR fr) : fr 42 0 = some 44 := h (42, 0, 44) (by decide +kernel)
theorem zf_42_1 (h : z_FR fr) : fr 42 1 = some 49 := h (42, 1, 49) (by decide +kernel)
theorem zf_42_2 (h : z_FR fr) : fr 42 2 = some 54 := h (42, 2, 54) (by decide +kernel)
theorem zf_44_28 (h : z_FR fr) : fr 44 28 = some 45 := h (44, 28, 45) (by decide +kernel)
theorem zf_44_29 (h : z_FR fr) : fr 44 29 = some 46 := h (44, 29, 46) (by decide +kernel)
theorem zf_44_30 (h : z_FR fr) : fr 44 30 = some 47 := h (44, 30, 47) (by decide +kernel)
theorem zf_44_31 (h : z_FR fr) : fr 44 31 = some 48 := h (44, 31, 48) (by decide +kernel)
theorem zf_49_28 (h : z_FR fr) : fr 49 28 = some 50 := h (49, 28, 50) (by decide +kernel)
theorem zf_49_29 (h : z_FR fr) : fr 49 29 = some 51 := h (49, 29, 51) (by decide +kernel)
theorem zf_49_30 (h : z_FR fr) : fr 49 30 = some 52 := h (49, 30, 52) (by decide +kernel)
theorem zf_49_31 (h : z_FR fr) : fr 49 31 = some 53 := h (49, 31, 53) (by decide +kernel)
theorem zf_54_28 (h : z_FR fr) : fr 54 28 = some 55 := h (54, 28, 55) (by decide +kernel)
theorem zf_54_29 (h : z_FR fr) : fr 54 29 = some 56 := h (54, 29, 56) (by decide +kernel)
theorem zf_54_30 (h : z_FR fr) : fr 54 30 = some 57 := h (54, 30, 57) (by decide +kernel)
theorem zf_54_31 (h : z_FR fr) : fr 54 31 = some 58 := h (54, 31, 58) (by decide +kernel)
theorem zf_59_0 (h : z_FR fr) : fr 59 0 = some 93 := h (59, 0, 93) (by decide +kernel)
theorem zf_59_1 (h : z_FR fr) : fr 59 1 = some 113 := h (59, 1, 113) (by decide +kernel)
theorem zf_61_17 (h : z_FR fr) : fr 61 17 = some 19 := h (61, 17, 19) (by decide +kernel)
theorem zf_61_18 (h : z_FR fr) : fr 61 18 = some 62 := h (61, 18, 62) (by decide +kernel)
theorem zf_61_19 (h : z_FR fr) : fr 61 19 = some 63 := h (61, 19, 63) (by decide +kernel)
theorem zf_61_20 (h : z_FR fr) : fr 61 20 = some 64 := h (61, 20, 64) (by decide +kernel)
theorem zf_61_21 (h : z_FR fr) : fr 61 21 = some 65 := h (61, 21, 65) (by decide +kernel)
theorem zf_61_22 (h : z_FR fr) : fr 61 22 = some 66 := h (61, 22, 66) (by decide +kernel)
theorem zf_61_23 (h : z_FR fr) : fr 61 23 = some 67 := h (61, 23, 67) (by decide +kernel)
theorem zf_61_25 (h : z_FR fr) : fr 61 25 = some 68 := h (61, 25, 68) (by decide +kernel)
theorem zf_61_27 (h : z_FR fr) : fr 61 27 = some 69 := h (61, 27, 69) (by decide +kernel)
theorem zf_70_52 (h : z_FR fr) : fr 70 52 = some 19 := h (70, 52, 19) (by decide +kernel)
theorem zf_70_53 (h : z_FR fr) : fr 70 53 = some 61 := h (70, 53, 61) (by decide +kernel)
theorem zf_70_54 (h : z_FR fr) : fr 70 54 = some 71 := h (70, 54, 71) (by decide +kernel)
theorem zf_70_57 (h : z_FR fr) : fr 70 57 = some 74 := h (70, 57, 74) (by decide +kernel)
theorem zf_70_58 (h : z_FR fr) : fr 70 58 = some 75 := h (70, 58, 75) (by decide +kernel)
theorem zf_70_59 (h : z_FR fr) : fr 70 59 = some 76 := h (70, 59, 76) (by decide +kernel)
theorem zf_70_60 (h : z_FR fr) : fr 70 60 = some 77 := h (70, 60, 77) (by decide +kernel)
theorem zf_70_61 (h : z_FR fr) : fr 70 61 = some 78 := h (70, 61, 78) (by decide +kernel)
theorem zf_70_62 (h : z_FR fr) : fr 70 62 = some 79 := h (70, 62, 79) (by decide +kernel)
theorem zf_70_63 (h : z_FR fr) : fr 70 63 = some 80 := h (70, 63, 80) (by decide +kernel)
theorem zf_70_65 (h : z_FR fr) : fr 70 65 = some 81 := h (70, 65, 81) (by decide +kernel)
theorem zf_70_66 (h : z_FR fr) : fr 70 66 = some 82 := h (70, 66, 82) (by decide +kernel)
theorem zf_70_67 (h : z_FR fr) : fr 70 67 = some 83 := h (70, 67, 83) (by decide +kernel)
theorem zf_71_68 (h : z_FR fr) : fr 71 68 = some 72 := h (71, 68, 72) (by decide +kernel)
theorem zf_71_69 (h : z_FR fr) : fr 71 69 = some 73 := h (71, 69, 73) (by decide +kernel)
theorem zf_84_11 (h : z_FR fr) : fr 84 11 = some 85 := h (84, 11, 85) (by decide +kernel)
theorem zf_84_14 (h : z_FR fr) : fr 84 14 = some 86 := h (84, 14, 86) (by decide +kernel)
theorem zf_84_15 (h : z_FR fr) : fr 84 15 = some 87 := h (84, 15, 87) (by decide +kernel)
theorem zf_88_34 (h : z_FR fr) : fr 88 34 = some 89 := h (88, 34, 89) (by decide +kernel)
theorem zf_88_35 (h : z_FR fr) : fr 88 35 = some 91 := h (88, 35, 91) (by decide +kernel)
theorem zf_89_50 (h : z_FR fr) : fr 89 50 = some 90 := h (89, 50, 90) (by decide +kernel)
theorem zf_91_50 (h : z_FR fr) : fr 91 50 = some 92 := h (91, 50, 92) (by decide +kernel)
theorem zf_93_41 (h : z_FR fr) : fr 93 41 = some 94 := h (93, 41, 94) (by decide +kernel)
theorem zf_93_42 (h : z_FR fr) : fr 93 42 = some 95 := h (93, 42, 95) (by decide +kernel)
theorem zf_93_44 (h : z_FR fr) : fr 93 44 = some 96 := h (93, 44, 96) (by decide +kernel)
theorem zf_93_48 (h : z_FR fr) : fr 93 48 = some 97 := h (93, 48, 97) (by decide +kernel)
theorem zf_96_0 (h : z_FR fr) : fr 96 0 = some 98 := h (96, 0, 98) (by decide +kernel)
theorem zf_96_1 (h : z_FR fr) : fr 96 1 = some 103 := h (96, 1, 103) (by decide +kernel)
theorem zf_96_2 (h : z_FR fr) : fr 96 2 = some 108 := h (96, 2, 108) (by decide +kernel)
theorem zf_98_28 (h : z_FR fr) : fr 98 28 = some 99 := h (98, 28, 99) (by decide +kernel)
theorem zf_98_29 (h : z_FR fr) : fr 98 29 = some 100 := h (98, 29, 100) (by decide +kernel)
theorem zf_98_30 (h : z_FR fr) : fr 98 30 = some 101 := h (98, 30, 101) (by decide +kernel)
theorem zf_98_31 (h : z_FR fr) : fr 98 31 = some 102 := h (98, 31, 102) (by decide +kernel)
theorem zf_103_28 (h : z_FR fr) : fr 103 28 = some 104 := h (103, 28, 104) (by decide +kernel)
theorem zf_103_29 (h : z_FR fr) : fr 103 29 = some 105 := h (103, 29, 105) (by decide +kernel)
theorem zf_103_30 (h : z_FR fr) : fr 103 30 = some 106 := h (103, 30, 106) (by decide +kernel)
theorem zf_103_31 (h : z_FR fr) : fr 103 31 = some 107 := h (103, 31, 107) (by decide +kernel)
theorem zf_108_28 (h : z_FR fr) : fr 108 28 = some 109 := h (108, 28, 109) (by decide +kernel)
theorem zf_108_29 (h : z_FR fr) : fr 108 29 = some 110 := h (108, 29, 110) (by decide +kernel)
theorem zf_108_30 (h : z_FR fr) : fr 108 30 = some 111 := h (108, 30, 111) (by decide +kernel)
theorem zf_108_31 (h : z_FR fr) : fr 108 31 = some 112 := h (108, 31, 112) (by decide +kernel)
theorem zf_113_41 (h : z_FR fr) : fr 113 41 = some 114 := h (113, 41, 114) (by decide +kernel)
theorem zf_113_42 (h : z_FR fr) : fr 113 42 = some 115 := h (113, 42, 115) (by decide +kernel)
theorem zf_113_44 (h : z_FR fr) : fr 113 44 = some 116 := h (113, 44, 116) (by decide +kernel)
theorem zf_113_48 (h : z_FR fr) : fr 113 48 = some 117 := h (113, 48, 117) (by decide +kernel)
theorem zf_116_0 (h : z_FR fr) : fr 116 0 = some 118 := h (116, 0, 118) (by decide +kernel)
theorem zf_116_1 (h : z_FR fr) : fr 116 1 = some 123 := h (116, 1, 123) (by decide +kernel)
theorem zf_116_2 (h : z_FR fr) : fr 116 2 = some 128 := h (116, 2, 128) (by decide +kernel)
theorem zf_118_28 (h : z_FR fr) : fr 118 28 = some 119 := h (118, 28, 119) (by decide +kernel)
theorem zf_118_29 (h : z_FR fr) : fr 118 29 = some 120 := h (118, 29, 120) (by decide +kernel)
theorem zf_118_30 (h : z_FR fr) : fr 118 30 = some 121 := h (118, 30, 121) (by decide +kernel)
theorem zf_118_31 (h : z_FR fr) : fr 118 31 = some 122 := h (118, 31, 122) (by decide +kernel)
theorem zf_123_28 (h : z_FR fr) : fr 123 28 = some 124 := h (123, 28, 124) (by decide +kernel)
theorem zf_123_29 (h : z_FR fr) : fr 123 29 = some 125 := h (123, 29, 125) (by decide +kernel)
theorem zf_123_30 (h : z_FR fr) : fr 123 30 = some 126 := h (123, 30, 126) (by decide +kernel)
theorem zf_123_31 (h : z_FR fr) : fr 123 31 = some 127 := h (123, 31, 127) (by decide +kernel)
theorem zf_128_28 (h : z_FR fr) : fr 128 28 = some 129 := h (128, 28, 129) (by decide +kernel)
theorem zf_128_29 (h : z_FR fr) : fr 128 29 = some 130 := h (128, 29, 130) (by decide +kernel)
theorem zf_128_30 (h : z_FR fr) : fr 128 30 = some 131 := h (128, 30, 131) (by decide +kernel)
theorem zf_128_31 (h : z_FR fr) : fr 128 31 = some 132 := h (128, 31, 132) (by decide +kernel)
theorem zf_133_71 (h : z_FR fr) : fr 133 71 = some 134 := h (133, 71, 134) (by decide +kernel)
theorem zf_133_72 (h : z_FR fr) : fr 133 72 = some 135 := h (133, 72, 135) (by decide +kernel)
theorem zf_133_73 (h : z_FR fr) : fr 133 73 = some 136 := h (133, 73, 136) (by decide +kernel)
theorem zf_133_75 (h : z_FR fr) : fr 133 75 = some 137 := h (133, 75, 137) (by decide +kernel)
theorem zf_133_76 (h : z_FR fr) : fr 133 76 = some 138 := h (133, 76, 138) (by decide +kernel)
theorem zf_133_77 (h : z_FR fr) : fr 133 77 = some 139 := h (133, 77, 139) (by decide +kernel)
theorem zf_133_86 (h : z_FR fr) : fr 133 86 = some 140 := h (133, 86, 140) (by decide +kernel)
theorem zf_133_87 (h : z_FR fr) : fr 133 87 = some 141 := h (133, 87, 141) (by decide +kernel)
theorem zf_133_88 (h : z_FR fr) : fr 133 88 = some 142 := h (133, 88, 142) (by decide +kernel)
theorem zf_133_89 (h : z_FR fr) : fr 133 89 = some 143 := h (133, 89, 143) (by decide +kernel)
theorem zf_133_91 (h : z_FR fr) : fr 133 91 = some 144 := h (133, 91, 144) (by decide +kernel)
theorem zf_133_92 (h : z_FR fr) : fr 133 92 = some 145 := h (133, 92, 145) (by decide +kernel)
theorem zf_133_93 (h : z_FR fr) : fr 133 93 = some 146 := h (133, 93, 146) (by decide +kernel)
theorem zf_133_94 (h : z_FR fr) : fr 133 94 = some 147 := h (133, 94, 147) (by decide +kernel)
theorem zf_133_95 (h : z_FR fr) : fr 133 95 = some 148 := h (133, 95, 148) (by decide +kernel)
theorem zf_133_96 (h : z_FR fr) : fr 133 96 = some 149 := h (133, 96, 149) (by decide +kernel)
theorem zf_133_98 (h : z_FR fr) : fr 133 98 = some 150 := h (133, 98, 150) (by decide +kernel)
end
theorem zl_20 : z_al 20 = 6 := rfl
theorem zl_21 : z_al 21 = 6 := rfl
theorem zl_22 : z_al 22 = 3 := rfl
theorem zl_23 : z_al 23 = 45 := rfl
theorem zl_25 : z_al 25 = 3 := rfl
theorem zl_26 : z_al 26 = 3 := rfl
theorem zl_27 : z_al 27 = 3 := rfl
theorem zl_28 : z_al 28 = 3 := rfl
theorem zl_30 : z_al 30 = 3 := rfl
theorem zl_31 : z_al 31 = 3 := rfl
theorem zl_32 : z_al 32 = 3 := rfl
theorem zl_33 : z_al 33 = 3 := rfl
theorem zl_35 : z_al 35 = 3 := rfl
theorem zl_36 : z_al 36 = 3 := rfl
theorem zl_37 : z_al 37 = 3 := rfl
theorem zl_38 : z_al 38 = 3 := rfl
theorem zl_40 : z_al 40 = 6 := rfl
theorem zl_41 : z_al 41 = 6 := rfl
theorem zl_42 : z_al 42 = 3 := rfl
theorem zl_43 : z_al 43 = 45 := rfl
theorem zl_45 : z_al 45 = 3 := rfl
theorem zl_46 : z_al 46 = 3 := rfl
theorem zl_47 : z_al 47 = 3 := rfl
theorem zl_48 : z_al 48 = 3 := rfl
theorem zl_50 : z_al 50 = 3 := rfl
theorem zl_51 : z_al 51 = 3 := rfl
theorem zl_52 : z_al 52 = 3 := rfl
theorem zl_53 : z_al 53 = 3 := rfl
theorem zl_55 : z_al 55 = 3 := rfl
theorem zl_56 : z_al 56 = 3 := rfl
theorem zl_57 : z_al 57 = 3 := rfl
theorem zl_58 : z_al 58 = 3 := rfl
theorem zl_59 : z_al 59 = 2 := rfl
theorem zl_60 : z_al 60 = 2 := rfl
theorem zl_62 : z_al 62 = 6 := rfl
theorem zl_63 : z_al 63 = 6 := rfl
theorem zl_64 : z_al 64 = 6 := rfl
theorem zl_65 : z_al 65 = 6 := rfl
theorem zl_68 : z_al 68 = 18 := rfl
theorem zl_69 : z_al 69 = 3 := rfl
theorem zl_72 : z_al 72 = 45 := rfl
theorem zl_73 : z_al 73 = 135 := rfl
theorem zl_74 : z_al 74 = 3 := rfl
theorem zl_75 : z_al 75 = 3 := rfl
theorem zl_76 : z_al 76 = 48 := rfl
theorem zl_77 : z_al 77 = 48 := rfl
theorem zl_78 : z_al 78 = 64 := rfl
theorem zl_79 : z_al 79 = 64 := rfl
theorem zl_80 : z_al 80 = 4096 := rfl
theorem zl_81 : z_al 81 = 4096 := rfl
theorem zl_82 : z_al 82 = 4096 := rfl
theorem zl_83 : z_al 83 = 4096 := rfl
theorem zl_85 : z_al 85 = 200 := rfl
theorem zl_86 : z_al 86 = 40 := rfl
theorem zl_87 : z_al 87 = 200 := rfl
theorem zl_90 : z_al 90 = 8 := rfl
theorem zl_92 : z_al 92 = 8 := rfl
theorem zl_94 : z_al 94 = 6 := rfl
theorem zl_95 : z_al 95 = 6 := rfl
theorem zl_96 : z_al 96 = 3 := rfl
theorem zl_97 : z_al 97 = 45 := rfl
theorem zl_99 : z_al 99 = 3 := rfl
theorem zl_100 : z_al 100 = 3 := rfl
theorem zl_101 : z_al 101 = 3 := rfl
theorem zl_102 : z_al 102 = 3 := rfl
theorem zl_104 : z_al 104 = 3 := rfl
theorem zl_105 : z_al 105 = 3 := rfl
theorem zl_106 : z_al 106 = 3 := rfl
theorem zl_107 : z_al 107 = 3 := rfl
theorem zl_109 : z_al 109 = 3 := rfl
theorem zl_110 : z_al 110 = 3 := rfl
theorem zl_111 : z_al 111 = 3 := rfl
theorem zl_112 : z_al 112 = 3 := rfl
theorem zl_114 : z_al 114 = 6 := rfl
theorem zl_115 : z_al 115 = 6 := rfl
theorem zl_116 : z_al 116 = 3 := rfl
theorem zl_117 : z_al 117 = 45 := rfl
theorem zl_119 : z_al 119 = 3 := rfl
theorem zl_120 : z_al 120 = 3 := rfl
theorem zl_121 : z_al 121 = 3 := rfl
theorem zl_122 : z_al 122 = 3 := rfl
theorem zl_124 : z_al 124 = 3 := rfl
theorem zl_125 : z_al 125 = 3 := rfl
theorem zl_126 : z_al 126 = 3 := rfl
theorem zl_127 : z_al 127 = 3 := rfl
theorem zl_129 : z_al 129 = 3 := rfl
theorem zl_130 : z_al 130 = 3 := rfl
theorem zl_131 : z_al 131 = 3 := rfl
theorem zl_132 : z_al 132 = 3 := rfl
theorem zl_134 : z_al 134 = 440 := rfl
theorem zl_135 : z_al 135 = 2 := rfl
theorem zl_136 : z_al 136 = 200 := rfl
theorem zl_137 : z_al 137 = 3 := rfl
theorem zl_138 : z_al 138 = 50 := rfl
theorem zl_139 : z_al 139 = 250 := rfl
theorem zl_140 : z_al 140 = 4096 := rfl
theorem zl_141 : z_al 141 = 4096 := rfl
theorem zl_142 : z_al 142 = 3 := rfl
theorem zl_143 : z_al 143 = 18 := rfl
theorem zl_144 : z_al 144 = 18 := rfl
theorem zl_145 : z_al 145 = 6 := rfl
theorem zl_146 : z_al 146 = 18 := rfl
theorem zl_147 : z_al 147 = 4096 := rfl
theorem zl_148 : z_al 148 = 4096 := rfl
theorem zl_149 : z_al 149 = 10 := rfl
theorem zl_150 : z_al 150 = 10 := rfl
set_option maxRecDepth 100000 in
theorem z_made_fr (f : Nat → Nat → Option Nat) : z_FR (znr (u0 (zmr (u0 f 18 none)) 133 none)) := by
  unfold z_FR z_frT
  refine List.forall_mem_cons.mpr ⟨rfl, List.forall_mem_cons.mpr ⟨rfl, List.forall_mem_cons.mpr ⟨rfl, List.forall_mem_cons.mpr ⟨rfl, List.forall_mem_cons.mpr ⟨rfl, List.forall_mem_cons.mpr ⟨rfl, List.forall_mem_cons.mpr ⟨rfl, List.forall_mem_cons.mpr ⟨rfl, List.forall_mem_cons.mpr ⟨rfl, List.forall_mem_cons.mpr ⟨rfl, List.forall_mem_cons.mpr ⟨rfl, List.forall_mem_cons.mpr ⟨rfl, List.forall_mem_cons.mpr ⟨rfl, List.forall_mem_cons.mpr ⟨rfl, List.forall_mem_cons.mpr ⟨rfl, ?_⟩⟩⟩⟩⟩⟩⟩⟩⟩⟩⟩⟩⟩⟩⟩
  refine List.forall_mem_cons.mpr ⟨rfl, List.forall_mem_cons.mpr ⟨rfl, List.forall_mem_cons.mpr ⟨rfl, List.forall_mem_cons.mpr ⟨rfl, List.forall_mem_cons.mpr ⟨rfl, List.forall_mem_cons.mpr ⟨rfl, List.forall_mem_cons.mpr ⟨rfl, List.forall_mem_cons.mpr ⟨rfl, List.forall_mem_cons.mpr ⟨rfl, List.forall_mem_cons.mpr ⟨rfl, List.forall_mem_cons.mpr ⟨rfl, List.forall_mem_cons.mpr ⟨rfl, List.forall_mem_cons.mpr ⟨rfl, List.forall_mem_cons.mpr ⟨rfl, List.forall_mem_cons.mpr ⟨rfl, ?_⟩⟩⟩⟩⟩⟩⟩⟩⟩⟩⟩⟩⟩⟩⟩
  refine List.forall_mem_cons.mpr ⟨rfl, List.forall_mem_cons.mpr ⟨rfl, List.forall_mem_cons.mpr ⟨rfl, List.forall_mem_cons.mpr ⟨rfl, List.forall_mem_cons.mpr ⟨rfl, List.forall_mem_cons.mpr ⟨rfl, List.forall_mem_cons.mpr ⟨rfl, List.forall_mem_cons.mpr ⟨rfl, List.forall_mem_cons.mpr ⟨rfl, List.forall_mem_cons.mpr ⟨rfl, List.forall_mem_cons.mpr ⟨rfl, List.forall_mem_cons.mpr ⟨rfl, List.forall_mem_cons.mpr ⟨rfl, List.forall_mem_cons.mpr ⟨rfl, List.forall_mem_cons.mpr ⟨rfl, ?_⟩⟩⟩⟩⟩⟩⟩⟩⟩⟩⟩⟩⟩⟩⟩
  refine List.forall_mem_cons.mpr ⟨rfl, List.forall_mem_cons.mpr ⟨rfl, List.forall_mem_cons.mpr ⟨rfl, List.forall_mem_cons.mpr ⟨rfl, List.forall_mem_cons.mpr ⟨rfl, List.forall_mem_cons.mpr ⟨rfl, List.forall_mem_cons.mpr ⟨rfl, List.forall_mem_cons.mpr ⟨rfl, List.forall_mem_cons.mpr ⟨rfl, List.forall_mem_cons.mpr ⟨rfl, List.forall_mem_cons.mpr ⟨rfl, List.forall_mem_cons.mpr ⟨rfl, List.forall_mem_cons.mpr ⟨rfl, List.forall_mem_cons.mpr ⟨rfl, List.forall_mem_cons.mpr ⟨rfl, ?_⟩⟩⟩⟩⟩⟩⟩⟩⟩⟩⟩⟩⟩⟩⟩
  refine List.forall_mem_cons.mpr ⟨rfl, List.forall_mem_cons.mpr ⟨rfl, List.forall_mem_cons.mpr ⟨rfl, List.forall_mem_cons.mpr ⟨rfl, List.forall_mem_cons.mpr ⟨rfl, List.forall_mem_cons.mpr ⟨rfl, List.forall_mem_cons.mpr ⟨rfl, List.forall_mem_cons.mpr ⟨rfl, List.forall_mem_cons.mpr ⟨rfl, List.forall_mem_cons.mpr ⟨rfl, List.forall_mem_cons.mpr ⟨rfl, List.forall_mem_cons.mpr ⟨rfl, List.forall_mem_cons.mpr ⟨rfl, List.forall_mem_cons.mpr ⟨rfl, List.forall_mem_cons.mpr ⟨rfl, ?_⟩⟩⟩⟩⟩⟩⟩⟩⟩⟩⟩⟩⟩⟩⟩
  refine List.forall_mem_cons.mpr ⟨rfl, List.forall_mem_cons.mpr ⟨rfl, List.forall_mem_cons.mpr ⟨rfl, List.forall_mem_cons.mpr ⟨rfl, List.forall_mem_cons.mpr ⟨rfl, List.forall_mem_cons.mpr ⟨rfl, List.forall_mem_cons.mpr ⟨rfl, List.forall_mem_cons.mpr ⟨rfl, List.forall_mem_cons.mpr ⟨rfl, List.forall_mem_cons.mpr ⟨rfl, List.forall_mem_cons.mpr ⟨rfl, List.forall_mem_cons.mpr ⟨rfl, List.forall_mem_cons.mpr ⟨rfl, List.forall_mem_cons.mpr ⟨rfl, List.forall_mem_cons.mpr ⟨rfl, ?_⟩⟩⟩⟩⟩⟩⟩⟩⟩⟩⟩⟩⟩⟩⟩
  refine List.forall_mem_cons.mpr ⟨rfl, List.forall_mem_cons.mpr ⟨rfl, List.forall_mem_cons.mpr ⟨rfl, List.forall_mem_cons.mpr ⟨rfl, List.forall_mem_cons.mpr ⟨rfl, List.forall_mem_cons.mpr ⟨rfl, List.forall_mem_cons.mpr ⟨rfl, List.forall_mem_cons.mpr ⟨rfl, List.forall_mem_cons.mpr ⟨rfl, List.forall_mem_cons.mpr ⟨rfl, List.forall_mem_cons.mpr ⟨rfl, List.forall_mem_cons.mpr ⟨rfl, List.forall_mem_cons.mpr ⟨rfl, List.forall_mem_cons.mpr ⟨rfl, List.forall_mem_cons.mpr ⟨rfl, ?_⟩⟩⟩⟩⟩⟩⟩⟩⟩⟩⟩⟩⟩⟩⟩
  refine List.forall_mem_cons.mpr ⟨rfl, List.forall_mem_cons.mpr ⟨rfl, List.forall_mem_cons.mpr ⟨rfl, List.forall_mem_cons.mpr ⟨rfl, List.forall_mem_cons.mpr ⟨rfl, List.forall_mem_cons.mpr ⟨rfl, List.forall_mem_cons.mpr ⟨rfl, List.forall_mem_cons.mpr ⟨rfl, List.forall_mem_cons.mpr ⟨rfl, List.forall_mem_cons.mpr ⟨rfl, List.forall_mem_cons.mpr ⟨rfl, List.forall_mem_cons.mpr ⟨rfl, List.forall_mem_cons.mpr ⟨rfl, List.forall_mem_cons.mpr ⟨rfl, List.forall_mem_cons.mpr ⟨rfl, ?_⟩⟩⟩⟩⟩⟩⟩⟩⟩⟩⟩⟩⟩⟩⟩
  refine List.forall_mem_cons.mpr ⟨rfl, List.forall_mem_cons.mpr ⟨rfl, List.forall_mem_cons.mpr ⟨rfl, List.forall_mem_cons.mpr ⟨rfl, List.forall_mem_cons.mpr ⟨rfl, List.forall_mem_cons.mpr ⟨rfl, List.forall_mem_cons.mpr ⟨rfl, List.forall_mem_cons.mpr ⟨rfl, List.forall_mem_cons.mpr ⟨rfl, List.forall_mem_cons.mpr ⟨rfl, List.forall_mem_cons.mpr ⟨rfl, List.forall_mem_cons.mpr ⟨rfl, List.forall_mem_cons.mpr ⟨rfl, List.forall_mem_cons.mpr ⟨rfl, ?_⟩⟩⟩⟩⟩⟩⟩⟩⟩⟩⟩⟩⟩⟩
  exact fun _ h => absurd h List.not_mem_nil
