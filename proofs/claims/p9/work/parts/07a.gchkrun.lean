/-! THE CHECK, RUN ALONG THE BYTES (printed by wip/gen/gen07r.py). -/
set_option maxRecDepth 1000000 in
theorem gkr_0 : [0].all gPchkS = true := by decide +kernel
set_option maxRecDepth 1000000 in
theorem gkr_1 : [1, 2, 3, 4, 5, 6, 7, 8, 9, 10, 11, 12, 13].all gPchkS = true := by decide +kernel
set_option maxRecDepth 1000000 in
theorem gkr_2 : [14, 15, 16, 17, 18, 19, 20].all gPchkS = true := by decide +kernel
set_option maxRecDepth 1000000 in
theorem gkr_3 : [21, 22, 23, 24, 25, 26].all gPchkS = true := by decide +kernel
set_option maxRecDepth 1000000 in
theorem gkr_4 : [27, 28, 29, 30, 31, 32, 33, 34].all gPchkS = true := by decide +kernel
set_option maxRecDepth 1000000 in
theorem gkr_5 : [35, 36, 37, 38, 39, 40, 41].all gPchkS = true := by decide +kernel
set_option maxRecDepth 1000000 in
theorem gkr_6 : [42, 43, 44, 45, 46].all gPchkS = true := by decide +kernel
set_option maxRecDepth 1000000 in
theorem gkr_7 : [47, 48, 49, 50, 51, 52, 53, 54, 55, 56].all gPchkS = true := by decide +kernel
set_option maxRecDepth 1000000 in
theorem gkr_8 : [57, 58, 59, 60, 61, 62, 63, 64].all gPchkS = true := by decide +kernel
set_option maxRecDepth 1000000 in
theorem gkr_9 : [65, 66, 67, 68, 69, 70, 71, 72, 73, 74].all gPchkS = true := by decide +kernel
set_option maxRecDepth 1000000 in
theorem gkr_10 : [75, 76, 77, 78, 79, 80].all gPchkS = true := by decide +kernel
set_option maxRecDepth 1000000 in
theorem gkr_11 : [81, 82, 83, 84, 85, 86, 87].all gPchkS = true := by decide +kernel
set_option maxRecDepth 1000000 in
theorem gkr_12 : [88, 89, 90, 91, 92, 93].all gPchkS = true := by decide +kernel
set_option maxRecDepth 1000000 in
theorem gkr_13 : [94, 95, 96, 97, 98, 99, 100, 101, 102, 103, 104, 105, 106, 107, 108].all gPchkS = true := by decide +kernel
set_option maxRecDepth 1000000 in
theorem gkr_14 : [109, 110, 111, 112, 113, 114, 115, 116].all gPchkS = true := by decide +kernel
set_option maxRecDepth 1000000 in
theorem gkr_15 : [117, 118, 119, 120, 121, 122, 123, 124, 125, 126].all gPchkS = true := by decide +kernel
set_option maxRecDepth 1000000 in
theorem gkr_16 : [127, 128, 129, 130, 131, 132, 133, 134].all gPchkS = true := by decide +kernel
set_option maxRecDepth 1000000 in
theorem gkr_17 : [135, 136, 137, 138, 139, 140, 141, 142].all gPchkS = true := by decide +kernel
set_option maxRecDepth 1000000 in
theorem gkr_18 : [143, 144, 145, 146, 147, 148, 149].all gPchkS = true := by decide +kernel
set_option maxRecDepth 1000000 in
theorem gkr_19 : [150, 151, 152, 153, 154, 155, 156, 157, 158, 159, 160].all gPchkS = true := by decide +kernel
set_option maxRecDepth 1000000 in
theorem gkr_20 : [161, 162, 163, 164, 165, 166, 167, 168, 169, 170, 171].all gPchkS = true := by decide +kernel
set_option maxRecDepth 1000000 in
theorem gkr_21 : [172, 173, 174, 175, 176, 177, 178, 179, 180, 181, 182].all gPchkS = true := by decide +kernel
set_option maxRecDepth 1000000 in
theorem gkr_22 : [183, 184, 185, 186, 187, 188, 189, 190, 191].all gPchkS = true := by decide +kernel
set_option maxRecDepth 1000000 in
theorem gkr_23 : [192, 193, 194, 195, 196, 197, 198, 199, 200, 201, 202, 203].all gPchkS = true := by decide +kernel
set_option maxRecDepth 1000000 in
theorem gkr_24 : [204].all gPchkS = true := by decide +kernel
set_option maxRecDepth 1000000 in
theorem gkr_25 : [205, 206, 207, 208, 209, 210, 211, 212, 213].all gPchkS = true := by decide +kernel
set_option maxRecDepth 1000000 in
theorem gkr_26 : [214, 215, 216, 217].all gPchkS = true := by decide +kernel
set_option maxRecDepth 1000000 in
theorem gkr_27 : [218, 219, 220, 221, 222, 223, 224].all gPchkS = true := by decide +kernel
set_option maxRecDepth 1000000 in
theorem gkr_28 : [225, 226].all gPchkS = true := by decide +kernel
set_option maxRecDepth 1000000 in
theorem gkr_29 : [227].all gPchkS = true := by decide +kernel
set_option maxRecDepth 1000000 in
theorem gkr_30 : [228, 229, 230].all gPchkS = true := by decide +kernel
set_option maxRecDepth 1000000 in
theorem gkr_31 : [231, 232, 233].all gPchkS = true := by decide +kernel
set_option maxRecDepth 1000000 in
theorem gkr_32 : [234, 235, 236, 237].all gPchkS = true := by decide +kernel
set_option maxRecDepth 1000000 in
theorem gkr_33 : [238, 239, 240].all gPchkS = true := by decide +kernel
set_option maxRecDepth 1000000 in
theorem gkr_34 : [241, 242, 243, 244, 245, 246, 247, 248, 249, 250, 251].all gPchkS = true := by decide +kernel
set_option maxRecDepth 1000000 in
theorem gkr_35 : [252, 253, 254, 255, 256, 257, 258].all gPchkS = true := by decide +kernel
set_option maxRecDepth 1000000 in
theorem gkr_36 : [259, 260, 261, 262, 263, 264].all gPchkS = true := by decide +kernel
set_option maxRecDepth 1000000 in
theorem gkr_37 : [265, 266, 267, 268, 269].all gPchkS = true := by decide +kernel
set_option maxRecDepth 1000000 in
theorem gkr_38 : [270, 271, 272, 273].all gPchkS = true := by decide +kernel
set_option maxRecDepth 1000000 in
theorem gkr_39 : [274].all gPchkS = true := by decide +kernel
set_option maxRecDepth 1000000 in
theorem gkr_40 : [275, 276, 277].all gPchkS = true := by decide +kernel
set_option maxRecDepth 1000000 in
theorem gkr_41 : [278, 279, 280, 281, 282, 283, 284].all gPchkS = true := by decide +kernel
set_option maxRecDepth 1000000 in
theorem gkr_42 : [285, 286, 287].all gPchkS = true := by decide +kernel
set_option maxRecDepth 1000000 in
theorem gkr_43 : [288, 289, 290].all gPchkS = true := by decide +kernel
set_option maxRecDepth 1000000 in
theorem gkr_44 : [291, 292, 293, 294, 295, 296].all gPchkS = true := by decide +kernel
set_option maxRecDepth 1000000 in
theorem gkr_45 : [297, 298, 299, 300].all gPchkS = true := by decide +kernel
set_option maxRecDepth 1000000 in
theorem gkr_46 : [301, 302, 303, 304].all gPchkS = true := by decide +kernel
set_option maxRecDepth 1000000 in
theorem gkr_47 : [305, 306, 307, 308, 309].all gPchkS = true := by decide +kernel
set_option maxRecDepth 1000000 in
theorem gkr_48 : [310, 311, 312, 313, 314].all gPchkS = true := by decide +kernel
set_option maxRecDepth 1000000 in
theorem gkr_49 : [315, 316, 317, 318, 319, 320, 321, 322, 323, 324, 325, 326, 327, 328, 329, 330, 331, 332].all gPchkS = true := by decide +kernel
theorem gkr_all : (List.range 333).all gPchkS = true := by
  rw [show List.range 333 = [0] ++ [1, 2, 3, 4, 5, 6, 7, 8, 9, 10, 11, 12, 13] ++ [14, 15, 16, 17, 18, 19, 20] ++ [21, 22, 23, 24, 25, 26] ++ [27, 28, 29, 30, 31, 32, 33, 34] ++ [35, 36, 37, 38, 39, 40, 41] ++ [42, 43, 44, 45, 46] ++ [47, 48, 49, 50, 51, 52, 53, 54, 55, 56] ++ [57, 58, 59, 60, 61, 62, 63, 64] ++ [65, 66, 67, 68, 69, 70, 71, 72, 73, 74] ++ [75, 76, 77, 78, 79, 80] ++ [81, 82, 83, 84, 85, 86, 87] ++ [88, 89, 90, 91, 92, 93] ++ [94, 95, 96, 97, 98, 99, 100, 101, 102, 103, 104, 105, 106, 107, 108] ++ [109, 110, 111, 112, 113, 114, 115, 116] ++ [117, 118, 119, 120, 121, 122, 123, 124, 125, 126] ++ [127, 128, 129, 130, 131, 132, 133, 134] ++ [135, 136, 137, 138, 139, 140, 141, 142] ++ [143, 144, 145, 146, 147, 148, 149] ++ [150, 151, 152, 153, 154, 155, 156, 157, 158, 159, 160] ++ [161, 162, 163, 164, 165, 166, 167, 168, 169, 170, 171] ++ [172, 173, 174, 175, 176, 177, 178, 179, 180, 181, 182] ++ [183, 184, 185, 186, 187, 188, 189, 190, 191] ++ [192, 193, 194, 195, 196, 197, 198, 199, 200, 201, 202, 203] ++ [204] ++ [205, 206, 207, 208, 209, 210, 211, 212, 213] ++ [214, 215, 216, 217] ++ [218, 219, 220, 221, 222, 223, 224] ++ [225, 226] ++ [227] ++ [228, 229, 230] ++ [231, 232, 233] ++ [234, 235, 236, 237] ++ [238, 239, 240] ++ [241, 242, 243, 244, 245, 246, 247, 248, 249, 250, 251] ++ [252, 253, 254, 255, 256, 257, 258] ++ [259, 260, 261, 262, 263, 264] ++ [265, 266, 267, 268, 269] ++ [270, 271, 272, 273] ++ [274] ++ [275, 276, 277] ++ [278, 279, 280, 281, 282, 283, 284] ++ [285, 286, 287] ++ [288, 289, 290] ++ [291, 292, 293, 294, 295, 296] ++ [297, 298, 299, 300] ++ [301, 302, 303, 304] ++ [305, 306, 307, 308, 309] ++ [310, 311, 312, 313, 314] ++ [315, 316, 317, 318, 319, 320, 321, 322, 323, 324, 325, 326, 327, 328, 329, 330, 331, 332] by decide +kernel]
  simp only [List.all_append, gkr_0, gkr_1, gkr_2, gkr_3, gkr_4, gkr_5, gkr_6, gkr_7, gkr_8, gkr_9, gkr_10, gkr_11, gkr_12, gkr_13, gkr_14, gkr_15, gkr_16, gkr_17, gkr_18, gkr_19, gkr_20, gkr_21, gkr_22, gkr_23, gkr_24, gkr_25, gkr_26, gkr_27, gkr_28, gkr_29, gkr_30, gkr_31, gkr_32, gkr_33, gkr_34, gkr_35, gkr_36, gkr_37, gkr_38, gkr_39, gkr_40, gkr_41, gkr_42, gkr_43, gkr_44, gkr_45, gkr_46, gkr_47, gkr_48, gkr_49, Bool.and_self]
