/-! THE CHECK, RUN, on (wip/gen/gen07.py). -/
set_option maxRecDepth 1000000 in
theorem gkr_29 : [79, 80].all gPchkJ = true := by decide +kernel
set_option maxRecDepth 1000000 in
theorem gkr_30 : [81, 82].all gPchkJ = true := by decide +kernel
set_option maxRecDepth 1000000 in
theorem gkr_31 : [83, 84].all gPchkJ = true := by decide +kernel
set_option maxRecDepth 1000000 in
theorem gkr_32 : [85, 86, 87].all gPchkJ = true := by decide +kernel
set_option maxRecDepth 1000000 in
theorem gkr_33 : [88, 89].all gPchkJ = true := by decide +kernel
set_option maxRecDepth 1000000 in
theorem gkr_34 : [90, 91].all gPchkJ = true := by decide +kernel
theorem gkr_35 : [92].all gPchkJ = true := by simp only [List.all_cons, List.all_nil, gk_92, Bool.and_self]
set_option maxRecDepth 1000000 in
theorem gkr_36 : [93, 94, 95, 96, 97].all gPchkJ = true := by decide +kernel
set_option maxRecDepth 1000000 in
theorem gkr_37 : [98, 99, 100, 101, 102, 103, 104, 105, 106].all gPchkJ = true := by decide +kernel
set_option maxRecDepth 1000000 in
theorem gkr_38 : [107, 108].all gPchkJ = true := by decide +kernel
set_option maxRecDepth 1000000 in
theorem gkr_39 : [109, 110, 111].all gPchkJ = true := by decide +kernel
set_option maxRecDepth 1000000 in
theorem gkr_40 : [112, 113, 114, 115].all gPchkJ = true := by decide +kernel
set_option maxRecDepth 1000000 in
theorem gkr_41 : [116].all gPchkJ = true := by decide +kernel
set_option maxRecDepth 1000000 in
theorem gkr_42 : [117, 118, 119].all gPchkJ = true := by decide +kernel
set_option maxRecDepth 1000000 in
theorem gkr_43 : [120, 121, 122, 123, 124, 125].all gPchkJ = true := by decide +kernel
set_option maxRecDepth 1000000 in
theorem gkr_44 : [126, 127].all gPchkJ = true := by decide +kernel
set_option maxRecDepth 1000000 in
theorem gkr_45 : [128, 129, 130, 131].all gPchkJ = true := by decide +kernel
set_option maxRecDepth 1000000 in
theorem gkr_46 : [132, 133, 134, 135].all gPchkJ = true := by decide +kernel
set_option maxRecDepth 1000000 in
theorem gkr_47 : [136].all gPchkJ = true := by decide +kernel
set_option maxRecDepth 1000000 in
theorem gkr_48 : [137, 138].all gPchkJ = true := by decide +kernel
set_option maxRecDepth 1000000 in
theorem gkr_49 : [139, 140, 141, 142].all gPchkJ = true := by decide +kernel
set_option maxRecDepth 1000000 in
theorem gkr_50 : [143, 144].all gPchkJ = true := by decide +kernel
set_option maxRecDepth 1000000 in
theorem gkr_51 : [145, 146].all gPchkJ = true := by decide +kernel
set_option maxRecDepth 1000000 in
theorem gkr_52 : [147, 148, 149].all gPchkJ = true := by decide +kernel
set_option maxRecDepth 1000000 in
theorem gkr_53 : [150, 151, 152].all gPchkJ = true := by decide +kernel
set_option maxRecDepth 1000000 in
theorem gkr_54 : [153, 154, 155].all gPchkJ = true := by decide +kernel
set_option maxRecDepth 1000000 in
theorem gkr_55 : [156, 157, 158, 159, 160, 161, 162].all gPchkJ = true := by decide +kernel
set_option maxRecDepth 1000000 in
theorem gkr_56 : [163, 164, 165].all gPchkJ = true := by decide +kernel
set_option maxRecDepth 1000000 in
theorem gkr_57 : [166, 167, 168, 169].all gPchkJ = true := by decide +kernel
set_option maxRecDepth 1000000 in
theorem gkr_58 : [170, 171, 172, 173].all gPchkJ = true := by decide +kernel
set_option maxRecDepth 1000000 in
theorem gkr_59 : [174, 175, 176, 177].all gPchkJ = true := by decide +kernel
set_option maxRecDepth 1000000 in
theorem gkr_60 : [178, 179, 180, 181].all gPchkJ = true := by decide +kernel
set_option maxRecDepth 1000000 in
theorem gkr_61 : [182, 183, 184, 185].all gPchkJ = true := by decide +kernel
set_option maxRecDepth 1000000 in
theorem gkr_62 : [186, 187, 188].all gPchkJ = true := by decide +kernel
set_option maxRecDepth 1000000 in
theorem gkr_63 : [189, 190].all gPchkJ = true := by decide +kernel
set_option maxRecDepth 1000000 in
theorem gkr_64 : [191, 192, 193, 194, 195].all gPchkJ = true := by decide +kernel
set_option maxRecDepth 1000000 in
theorem gkr_65 : [196, 197, 198, 199, 200, 201, 202, 203].all gPchkJ = true := by decide +kernel
theorem gkr_66 : [204].all gPchkJ = true := by simp only [List.all_cons, List.all_nil, gk_204, Bool.and_self]
set_option maxRecDepth 1000000 in
theorem gkr_67 : [205, 206, 207, 208, 209, 210, 211].all gPchkJ = true := by decide +kernel
set_option maxRecDepth 1000000 in
theorem gkr_68 : [212, 213].all gPchkJ = true := by decide +kernel
theorem gkr_69 : [214].all gPchkJ = true := by simp only [List.all_cons, List.all_nil, gk_214, Bool.and_self]
set_option maxRecDepth 1000000 in
theorem gkr_70 : [215, 216].all gPchkJ = true := by decide +kernel
set_option maxRecDepth 1000000 in
theorem gkr_71 : [217, 218, 219, 220].all gPchkJ = true := by decide +kernel
set_option maxRecDepth 1000000 in
theorem gkr_72 : [221].all gPchkJ = true := by decide +kernel
set_option maxRecDepth 1000000 in
theorem gkr_73 : [222, 223, 224].all gPchkJ = true := by decide +kernel
set_option maxRecDepth 1000000 in
theorem gkr_74 : [225, 226].all gPchkJ = true := by decide +kernel
theorem gkr_75 : [227].all gPchkJ = true := by simp only [List.all_cons, List.all_nil, gk_227, Bool.and_self]
theorem gkr_76 : [228].all gPchkJ = true := by simp only [List.all_cons, List.all_nil, gk_228, Bool.and_self]
set_option maxRecDepth 1000000 in
theorem gkr_77 : [229].all gPchkJ = true := by decide +kernel
