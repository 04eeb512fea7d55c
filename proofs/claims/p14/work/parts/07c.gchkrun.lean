/-! THE CHECK, RUN, on (wip/gen/gen07.py). -/
set_option maxRecDepth 1000000 in
theorem gkr_46 : [132, 133, 134, 135].all gPchkJ = true := by decide +kernel
set_option maxRecDepth 1000000 in
theorem gkr_47 : [136].all gPchkJ = true := by decide +kernel
set_option maxRecDepth 1000000 in
theorem gkr_48 : [137, 138].all gPchkJ = true := by decide +kernel
set_option maxRecDepth 1000000 in
theorem gkr_49 : [139, 140, 141, 142].all gPchkJ = true := by decide +kernel
set_option maxRecDepth 1000000 in
theorem gkr_50 : [143, 144].all gPchkJ = true := by decide +kernel
set_option maxRecDepth 1000000 in
theorem gkr_51 : [145, 146].all gPchkJ = true := by decide +kernel
set_option maxRecDepth 1000000 in
theorem gkr_52 : [147, 148, 149].all gPchkJ = true := by decide +kernel
set_option maxRecDepth 1000000 in
theorem gkr_53 : [150, 151, 152].all gPchkJ = true := by decide +kernel
set_option maxRecDepth 1000000 in
theorem gkr_54 : [153, 154, 155].all gPchkJ = true := by decide +kernel
set_option maxRecDepth 1000000 in
theorem gkr_55 : [156, 157, 158, 159, 160, 161, 162].all gPchkJ = true := by decide +kernel
set_option maxRecDepth 1000000 in
theorem gkr_56 : [163, 164, 165].all gPchkJ = true := by decide +kernel
set_option maxRecDepth 1000000 in
theorem gkr_57 : [166, 167, 168, 169].all gPchkJ = true := by decide +kernel
set_option maxRecDepth 1000000 in
theorem gkr_58 : [170, 171, 172, 173].all gPchkJ = true := by decide +kernel
set_option maxRecDepth 1000000 in
theorem gkr_59 : [174, 175, 176, 177].all gPchkJ = true := by decide +kernel
set_option maxRecDepth 1000000 in
theorem gkr_60 : [178, 179, 180, 181].all gPchkJ = true := by decide +kernel
set_option maxRecDepth 1000000 in
theorem gkr_61 : [182, 183, 184, 185].all gPchkJ = true := by decide +kernel
set_option maxRecDepth 1000000 in
theorem gkr_62 : [186, 187, 188].all gPchkJ = true := by decide +kernel
set_option maxRecDepth 1000000 in
theorem gkr_63 : [189, 190].all gPchkJ = true := by decide +kernel
set_option maxRecDepth 1000000 in
theorem gkr_64 : [191, 192, 193, 194, 195].all gPchkJ = true := by decide +kernel
set_option maxRecDepth 1000000 in
theorem gkr_65 : [196, 197, 198, 199, 200, 201, 202, 203].all gPchkJ = true := by decide +kernel
theorem gkr_66 : [204].all gPchkJ = true := by simp only [List.all_cons, List.all_nil, gk_204, Bool.and_self]
set_option maxRecDepth 1000000 in
theorem gkr_67 : [205, 206, 207, 208, 209, 210, 211].all gPchkJ = true := by decide +kernel
set_option maxRecDepth 1000000 in
theorem gkr_68 : [212, 213].all gPchkJ = true := by decide +kernel
theorem gkr_69 : [214].all gPchkJ = true := by simp only [List.all_cons, List.all_nil, gk_214, Bool.and_self]
set_option maxRecDepth 1000000 in
theorem gkr_70 : [215, 216].all gPchkJ = true := by decide +kernel
set_option maxRecDepth 1000000 in
theorem gkr_71 : [217, 218, 219, 220].all gPchkJ = true := by decide +kernel
set_option maxRecDepth 1000000 in
theorem gkr_72 : [221].all gPchkJ = true := by decide +kernel
set_option maxRecDepth 1000000 in
theorem gkr_73 : [222, 223, 224].all gPchkJ = true := by decide +kernel
set_option maxRecDepth 1000000 in
theorem gkr_74 : [225, 226].all gPchkJ = true := by decide +kernel
theorem gkr_75 : [227].all gPchkJ = true := by simp only [List.all_cons, List.all_nil, gk_227, Bool.and_self]
theorem gkr_76 : [228].all gPchkJ = true := by simp only [List.all_cons, List.all_nil, gk_228, Bool.and_self]
set_option maxRecDepth 1000000 in
theorem gkr_77 : [229].all gPchkJ = true := by decide +kernel
set_option maxRecDepth 1000000 in
theorem gkr_78 : [230, 231].all gPchkJ = true := by decide +kernel
theorem gkr_79 : [232].all gPchkJ = true := by simp only [List.all_cons, List.all_nil, gk_232, Bool.and_self]
set_option maxRecDepth 1000000 in
theorem gkr_80 : [233, 234].all gPchkJ = true := by decide +kernel
set_option maxRecDepth 1000000 in
theorem gkr_81 : [235].all gPchkJ = true := by decide +kernel
theorem gkr_82 : [236].all gPchkJ = true := by simp only [List.all_cons, List.all_nil, gk_236, Bool.and_self]
set_option maxRecDepth 1000000 in
theorem gkr_83 : [237].all gPchkJ = true := by decide +kernel
set_option maxRecDepth 1000000 in
theorem gkr_84 : [238].all gPchkJ = true := by decide +kernel
theorem gkr_85 : [239].all gPchkJ = true := by simp only [List.all_cons, List.all_nil, gk_239, Bool.and_self]
set_option maxRecDepth 1000000 in
theorem gkr_86 : [240, 241, 242].all gPchkJ = true := by decide +kernel
set_option maxRecDepth 1000000 in
theorem gkr_87 : [243, 244, 245, 246].all gPchkJ = true := by decide +kernel
set_option maxRecDepth 1000000 in
theorem gkr_88 : [247, 248, 249, 250, 251].all gPchkJ = true := by decide +kernel
set_option maxRecDepth 1000000 in
theorem gkr_89 : [252].all gPchkJ = true := by decide +kernel
set_option maxRecDepth 1000000 in
theorem gkr_90 : [253, 254, 255, 256].all gPchkJ = true := by decide +kernel
set_option maxRecDepth 1000000 in
theorem gkr_91 : [257, 258, 259].all gPchkJ = true := by decide +kernel
set_option maxRecDepth 1000000 in
theorem gkr_92 : [260, 261, 262].all gPchkJ = true := by decide +kernel
set_option maxRecDepth 1000000 in
theorem gkr_93 : [263, 264].all gPchkJ = true := by decide +kernel
set_option maxRecDepth 1000000 in
theorem gkr_94 : [265].all gPchkJ = true := by decide +kernel
set_option maxRecDepth 1000000 in
theorem gkr_95 : [266, 267, 268, 269].all gPchkJ = true := by decide +kernel
theorem gkr_96 : [270].all gPchkJ = true := by simp only [List.all_cons, List.all_nil, gk_270, Bool.and_self]
set_option maxRecDepth 1000000 in
theorem gkr_97 : [271, 272].all gPchkJ = true := by decide +kernel
set_option maxRecDepth 1000000 in
theorem gkr_98 : [273].all gPchkJ = true := by decide +kernel
theorem gkr_99 : [274].all gPchkJ = true := by simp only [List.all_cons, List.all_nil, gk_274, Bool.and_self]
set_option maxRecDepth 1000000 in
theorem gkr_100 : [275].all gPchkJ = true := by decide +kernel
set_option maxRecDepth 1000000 in
theorem gkr_101 : [276].all gPchkJ = true := by decide +kernel
set_option maxRecDepth 1000000 in
theorem gkr_102 : [277, 278].all gPchkJ = true := by decide +kernel
set_option maxRecDepth 1000000 in
theorem gkr_103 : [279, 280, 281, 282].all gPchkJ = true := by decide +kernel
set_option maxRecDepth 1000000 in
theorem gkr_104 : [283].all gPchkJ = true := by decide +kernel
set_option maxRecDepth 1000000 in
theorem gkr_105 : [284, 285].all gPchkJ = true := by decide +kernel
set_option maxRecDepth 1000000 in
theorem gkr_106 : [286].all gPchkJ = true := by decide +kernel
theorem gkr_107 : [287].all gPchkJ = true := by simp only [List.all_cons, List.all_nil, gk_287, Bool.and_self]
set_option maxRecDepth 1000000 in
theorem gkr_108 : [288].all gPchkJ = true := by decide +kernel
set_option maxRecDepth 1000000 in
theorem gkr_109 : [289, 290].all gPchkJ = true := by decide +kernel
set_option maxRecDepth 1000000 in
theorem gkr_110 : [291].all gPchkJ = true := by decide +kernel
set_option maxRecDepth 1000000 in
theorem gkr_111 : [292, 293, 294].all gPchkJ = true := by decide +kernel
set_option maxRecDepth 1000000 in
theorem gkr_112 : [295, 296, 297].all gPchkJ = true := by decide +kernel
set_option maxRecDepth 1000000 in
theorem gkr_113 : [298].all gPchkJ = true := by decide +kernel
set_option maxRecDepth 1000000 in
theorem gkr_114 : [299].all gPchkJ = true := by decide +kernel
set_option maxRecDepth 1000000 in
theorem gkr_115 : [300].all gPchkJ = true := by decide +kernel
set_option maxRecDepth 1000000 in
theorem gkr_116 : [301].all gPchkJ = true := by decide +kernel
set_option maxRecDepth 1000000 in
theorem gkr_117 : [302, 303].all gPchkJ = true := by decide +kernel
theorem gkr_118 : [304].all gPchkJ = true := by simp only [List.all_cons, List.all_nil, gk_304, Bool.and_self]
set_option maxRecDepth 1000000 in
theorem gkr_119 : [305, 306].all gPchkJ = true := by decide +kernel
set_option maxRecDepth 1000000 in
theorem gkr_120 : [307, 308].all gPchkJ = true := by decide +kernel
set_option maxRecDepth 1000000 in
theorem gkr_121 : [309].all gPchkJ = true := by decide +kernel
theorem gkr_122 : [310].all gPchkJ = true := by simp only [List.all_cons, List.all_nil, gk_310, Bool.and_self]
set_option maxRecDepth 1000000 in
theorem gkr_123 : [311, 312].all gPchkJ = true := by decide +kernel
set_option maxRecDepth 1000000 in
theorem gkr_124 : [313].all gPchkJ = true := by decide +kernel
set_option maxRecDepth 1000000 in
theorem gkr_125 : [314, 315, 316, 317, 318, 319, 320, 321].all gPchkJ = true := by decide +kernel
set_option maxRecDepth 1000000 in
theorem gkr_126 : [322, 323, 324, 325, 326, 327, 328, 329, 330, 331, 332].all gPchkJ = true := by decide +kernel
theorem gkr_all : (List.range 333).all gPchkJ = true := by
  rw [show List.range 333 = [0] ++ [1, 2, 3, 4, 5] ++ [6, 7, 8, 9, 10, 11] ++ [12, 13, 14] ++ [15, 16] ++ [17, 18, 19] ++ [20, 21] ++ [22, 23] ++ [24] ++ [25, 26] ++ [27, 28] ++ [29, 30, 31, 32] ++ [33, 34] ++ [35, 36] ++ [37] ++ [38, 39, 40, 41] ++ [42] ++ [43] ++ [44, 45, 46] ++ [47, 48] ++ [49, 50, 51, 52, 53] ++ [54, 55, 56, 57] ++ [58, 59] ++ [60, 61, 62, 63] ++ [64, 65, 66, 67, 68] ++ [69, 70, 71] ++ [72, 73] ++ [74, 75] ++ [76, 77, 78] ++ [79, 80] ++ [81, 82] ++ [83, 84] ++ [85, 86, 87] ++ [88, 89] ++ [90, 91] ++ [92] ++ [93, 94, 95, 96, 97] ++ [98, 99, 100, 101, 102, 103, 104, 105, 106] ++ [107, 108] ++ [109, 110, 111] ++ [112, 113, 114, 115] ++ [116] ++ [117, 118, 119] ++ [120, 121, 122, 123, 124, 125] ++ [126, 127] ++ [128, 129, 130, 131] ++ [132, 133, 134, 135] ++ [136] ++ [137, 138] ++ [139, 140, 141, 142] ++ [143, 144] ++ [145, 146] ++ [147, 148, 149] ++ [150, 151, 152] ++ [153, 154, 155] ++ [156, 157, 158, 159, 160, 161, 162] ++ [163, 164, 165] ++ [166, 167, 168, 169] ++ [170, 171, 172, 173] ++ [174, 175, 176, 177] ++ [178, 179, 180, 181] ++ [182, 183, 184, 185] ++ [186, 187, 188] ++ [189, 190] ++ [191, 192, 193, 194, 195] ++ [196, 197, 198, 199, 200, 201, 202, 203] ++ [204] ++ [205, 206, 207, 208, 209, 210, 211] ++ [212, 213] ++ [214] ++ [215, 216] ++ [217, 218, 219, 220] ++ [221] ++ [222, 223, 224] ++ [225, 226] ++ [227] ++ [228] ++ [229] ++ [230, 231] ++ [232] ++ [233, 234] ++ [235] ++ [236] ++ [237] ++ [238] ++ [239] ++ [240, 241, 242] ++ [243, 244, 245, 246] ++ [247, 248, 249, 250, 251] ++ [252] ++ [253, 254, 255, 256] ++ [257, 258, 259] ++ [260, 261, 262] ++ [263, 264] ++ [265] ++ [266, 267, 268, 269] ++ [270] ++ [271, 272] ++ [273] ++ [274] ++ [275] ++ [276] ++ [277, 278] ++ [279, 280, 281, 282] ++ [283] ++ [284, 285] ++ [286] ++ [287] ++ [288] ++ [289, 290] ++ [291] ++ [292, 293, 294] ++ [295, 296, 297] ++ [298] ++ [299] ++ [300] ++ [301] ++ [302, 303] ++ [304] ++ [305, 306] ++ [307, 308] ++ [309] ++ [310] ++ [311, 312] ++ [313] ++ [314, 315, 316, 317, 318, 319, 320, 321] ++ [322, 323, 324, 325, 326, 327, 328, 329, 330, 331, 332] by decide +kernel]
  simp only [List.all_append, gkr_0, gkr_1, gkr_2, gkr_3, gkr_4, gkr_5, gkr_6, gkr_7, gkr_8, gkr_9, gkr_10, gkr_11, gkr_12, gkr_13, gkr_14, gkr_15, gkr_16, gkr_17, gkr_18, gkr_19, gkr_20, gkr_21, gkr_22, gkr_23, gkr_24, gkr_25, gkr_26, gkr_27, gkr_28, gkr_29, gkr_30, gkr_31, gkr_32, gkr_33, gkr_34, gkr_35, gkr_36, gkr_37, gkr_38, gkr_39, gkr_40, gkr_41, gkr_42, gkr_43, gkr_44, gkr_45, gkr_46, gkr_47, gkr_48, gkr_49, gkr_50, gkr_51, gkr_52, gkr_53, gkr_54, gkr_55, gkr_56, gkr_57, gkr_58, gkr_59, gkr_60, gkr_61, gkr_62, gkr_63, gkr_64, gkr_65, gkr_66, gkr_67, gkr_68, gkr_69, gkr_70, gkr_71, gkr_72, gkr_73, gkr_74, gkr_75, gkr_76, gkr_77, gkr_78, gkr_79, gkr_80, gkr_81, gkr_82, gkr_83, gkr_84, gkr_85, gkr_86, gkr_87, gkr_88, gkr_89, gkr_90, gkr_91, gkr_92, gkr_93, gkr_94, gkr_95, gkr_96, gkr_97, gkr_98, gkr_99, gkr_100, gkr_101, gkr_102, gkr_103, gkr_104, gkr_105, gkr_106, gkr_107, gkr_108, gkr_109, gkr_110, gkr_111, gkr_112, gkr_113, gkr_114, gkr_115, gkr_116, gkr_117, gkr_118, gkr_119, gkr_120, gkr_121, gkr_122, gkr_123, gkr_124, gkr_125, gkr_126, Bool.and_self]
