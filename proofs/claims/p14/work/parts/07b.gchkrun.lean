/-! THE CHECK, RUN, on (wip/gen/gen07.py). -/
set_option maxRecDepth 1000000 in
theorem gk_232_0 : (List.range' 0 3).all (gPchkC 232) = true := by decide +kernel
set_option maxRecDepth 1000000 in
theorem gk_232_3 : (List.range' 3 3).all (gPchkC 232) = true := by decide +kernel
set_option maxRecDepth 1000000 in
theorem gk_232_6 : (List.range' 6 3).all (gPchkC 232) = true := by decide +kernel
set_option maxRecDepth 1000000 in
theorem gk_232_9 : (List.range' 9 1).all (gPchkC 232) = true := by decide +kernel
theorem gk_232 : gPchkJ 232 = true := by
  unfold gPchkJ
  rw [show (gProg 232).length = 10 by decide +kernel, show List.range 10 = List.range' 0 3 ++ List.range' 3 3 ++ List.range' 6 3 ++ List.range' 9 1 by decide +kernel]
  simp only [List.all_append, gk_232_0, gk_232_3, gk_232_6, gk_232_9, Bool.and_self]
set_option maxRecDepth 1000000 in
theorem gk_236_0 : (List.range' 0 3).all (gPchkC 236) = true := by decide +kernel
set_option maxRecDepth 1000000 in
theorem gk_236_3 : (List.range' 3 3).all (gPchkC 236) = true := by decide +kernel
set_option maxRecDepth 1000000 in
theorem gk_236_6 : (List.range' 6 3).all (gPchkC 236) = true := by decide +kernel
theorem gk_236 : gPchkJ 236 = true := by
  unfold gPchkJ
  rw [show (gProg 236).length = 9 by decide +kernel, show List.range 9 = List.range' 0 3 ++ List.range' 3 3 ++ List.range' 6 3 by decide +kernel]
  simp only [List.all_append, gk_236_0, gk_236_3, gk_236_6, Bool.and_self]
set_option maxRecDepth 1000000 in
theorem gk_239_0 : (List.range' 0 3).all (gPchkC 239) = true := by decide +kernel
set_option maxRecDepth 1000000 in
theorem gk_239_3 : (List.range' 3 3).all (gPchkC 239) = true := by decide +kernel
set_option maxRecDepth 1000000 in
theorem gk_239_6 : (List.range' 6 3).all (gPchkC 239) = true := by decide +kernel
theorem gk_239 : gPchkJ 239 = true := by
  unfold gPchkJ
  rw [show (gProg 239).length = 9 by decide +kernel, show List.range 9 = List.range' 0 3 ++ List.range' 3 3 ++ List.range' 6 3 by decide +kernel]
  simp only [List.all_append, gk_239_0, gk_239_3, gk_239_6, Bool.and_self]
set_option maxRecDepth 1000000 in
theorem gk_270_0 : (List.range' 0 3).all (gPchkC 270) = true := by decide +kernel
set_option maxRecDepth 1000000 in
theorem gk_270_3 : (List.range' 3 3).all (gPchkC 270) = true := by decide +kernel
set_option maxRecDepth 1000000 in
theorem gk_270_6 : (List.range' 6 1).all (gPchkC 270) = true := by decide +kernel
theorem gk_270 : gPchkJ 270 = true := by
  unfold gPchkJ
  rw [show (gProg 270).length = 7 by decide +kernel, show List.range 7 = List.range' 0 3 ++ List.range' 3 3 ++ List.range' 6 1 by decide +kernel]
  simp only [List.all_append, gk_270_0, gk_270_3, gk_270_6, Bool.and_self]
set_option maxRecDepth 1000000 in
theorem gk_274_0 : (List.range' 0 3).all (gPchkC 274) = true := by decide +kernel
set_option maxRecDepth 1000000 in
theorem gk_274_3 : (List.range' 3 3).all (gPchkC 274) = true := by decide +kernel
set_option maxRecDepth 1000000 in
theorem gk_274_6 : (List.range' 6 3).all (gPchkC 274) = true := by decide +kernel
set_option maxRecDepth 1000000 in
theorem gk_274_9 : (List.range' 9 3).all (gPchkC 274) = true := by decide +kernel
set_option maxRecDepth 1000000 in
theorem gk_274_12 : (List.range' 12 3).all (gPchkC 274) = true := by decide +kernel
set_option maxRecDepth 1000000 in
theorem gk_274_15 : (List.range' 15 2).all (gPchkC 274) = true := by decide +kernel
theorem gk_274 : gPchkJ 274 = true := by
  unfold gPchkJ
  rw [show (gProg 274).length = 17 by decide +kernel, show List.range 17 = List.range' 0 3 ++ List.range' 3 3 ++ List.range' 6 3 ++ List.range' 9 3 ++ List.range' 12 3 ++ List.range' 15 2 by decide +kernel]
  simp only [List.all_append, gk_274_0, gk_274_3, gk_274_6, gk_274_9, gk_274_12, gk_274_15, Bool.and_self]
set_option maxRecDepth 1000000 in
theorem gk_287_0 : (List.range' 0 3).all (gPchkC 287) = true := by decide +kernel
set_option maxRecDepth 1000000 in
theorem gk_287_3 : (List.range' 3 3).all (gPchkC 287) = true := by decide +kernel
set_option maxRecDepth 1000000 in
theorem gk_287_6 : (List.range' 6 3).all (gPchkC 287) = true := by decide +kernel
theorem gk_287 : gPchkJ 287 = true := by
  unfold gPchkJ
  rw [show (gProg 287).length = 9 by decide +kernel, show List.range 9 = List.range' 0 3 ++ List.range' 3 3 ++ List.range' 6 3 by decide +kernel]
  simp only [List.all_append, gk_287_0, gk_287_3, gk_287_6, Bool.and_self]
set_option maxRecDepth 1000000 in
theorem gk_304_0 : (List.range' 0 3).all (gPchkC 304) = true := by decide +kernel
set_option maxRecDepth 1000000 in
theorem gk_304_3 : (List.range' 3 3).all (gPchkC 304) = true := by decide +kernel
set_option maxRecDepth 1000000 in
theorem gk_304_6 : (List.range' 6 3).all (gPchkC 304) = true := by decide +kernel
theorem gk_304 : gPchkJ 304 = true := by
  unfold gPchkJ
  rw [show (gProg 304).length = 9 by decide +kernel, show List.range 9 = List.range' 0 3 ++ List.range' 3 3 ++ List.range' 6 3 by decide +kernel]
  simp only [List.all_append, gk_304_0, gk_304_3, gk_304_6, Bool.and_self]
set_option maxRecDepth 1000000 in
theorem gk_310_0 : (List.range' 0 3).all (gPchkC 310) = true := by decide +kernel
set_option maxRecDepth 1000000 in
theorem gk_310_3 : (List.range' 3 3).all (gPchkC 310) = true := by decide +kernel
set_option maxRecDepth 1000000 in
theorem gk_310_6 : (List.range' 6 2).all (gPchkC 310) = true := by decide +kernel
theorem gk_310 : gPchkJ 310 = true := by
  unfold gPchkJ
  rw [show (gProg 310).length = 8 by decide +kernel, show List.range 8 = List.range' 0 3 ++ List.range' 3 3 ++ List.range' 6 2 by decide +kernel]
  simp only [List.all_append, gk_310_0, gk_310_3, gk_310_6, Bool.and_self]
theorem gkr_0 : [0].all gPchkJ = true := by simp only [List.all_cons, List.all_nil, gk_0, Bool.and_self]
set_option maxRecDepth 1000000 in
theorem gkr_1 : [1, 2, 3, 4, 5].all gPchkJ = true := by decide +kernel
set_option maxRecDepth 1000000 in
theorem gkr_2 : [6, 7, 8, 9, 10, 11].all gPchkJ = true := by decide +kernel
set_option maxRecDepth 1000000 in
theorem gkr_3 : [12, 13, 14].all gPchkJ = true := by decide +kernel
set_option maxRecDepth 1000000 in
theorem gkr_4 : [15, 16].all gPchkJ = true := by decide +kernel
set_option maxRecDepth 1000000 in
theorem gkr_5 : [17, 18, 19].all gPchkJ = true := by decide +kernel
set_option maxRecDepth 1000000 in
theorem gkr_6 : [20, 21].all gPchkJ = true := by decide +kernel
set_option maxRecDepth 1000000 in
theorem gkr_7 : [22, 23].all gPchkJ = true := by decide +kernel
set_option maxRecDepth 1000000 in
theorem gkr_8 : [24].all gPchkJ = true := by decide +kernel
set_option maxRecDepth 1000000 in
theorem gkr_9 : [25, 26].all gPchkJ = true := by decide +kernel
set_option maxRecDepth 1000000 in
theorem gkr_10 : [27, 28].all gPchkJ = true := by decide +kernel
set_option maxRecDepth 1000000 in
theorem gkr_11 : [29, 30, 31, 32].all gPchkJ = true := by decide +kernel
set_option maxRecDepth 1000000 in
theorem gkr_12 : [33, 34].all gPchkJ = true := by decide +kernel
set_option maxRecDepth 1000000 in
theorem gkr_13 : [35, 36].all gPchkJ = true := by decide +kernel
set_option maxRecDepth 1000000 in
theorem gkr_14 : [37].all gPchkJ = true := by decide +kernel
set_option maxRecDepth 1000000 in
theorem gkr_15 : [38, 39, 40, 41].all gPchkJ = true := by decide +kernel
set_option maxRecDepth 1000000 in
theorem gkr_16 : [42].all gPchkJ = true := by decide +kernel
set_option maxRecDepth 1000000 in
theorem gkr_17 : [43].all gPchkJ = true := by decide +kernel
set_option maxRecDepth 1000000 in
theorem gkr_18 : [44, 45, 46].all gPchkJ = true := by decide +kernel
set_option maxRecDepth 1000000 in
theorem gkr_19 : [47, 48].all gPchkJ = true := by decide +kernel
set_option maxRecDepth 1000000 in
theorem gkr_20 : [49, 50, 51, 52, 53].all gPchkJ = true := by decide +kernel
set_option maxRecDepth 1000000 in
theorem gkr_21 : [54, 55, 56, 57].all gPchkJ = true := by decide +kernel
set_option maxRecDepth 1000000 in
theorem gkr_22 : [58, 59].all gPchkJ = true := by decide +kernel
set_option maxRecDepth 1000000 in
theorem gkr_23 : [60, 61, 62, 63].all gPchkJ = true := by decide +kernel
set_option maxRecDepth 1000000 in
theorem gkr_24 : [64, 65, 66, 67, 68].all gPchkJ = true := by decide +kernel
set_option maxRecDepth 1000000 in
theorem gkr_25 : [69, 70, 71].all gPchkJ = true := by decide +kernel
set_option maxRecDepth 1000000 in
theorem gkr_26 : [72, 73].all gPchkJ = true := by decide +kernel
set_option maxRecDepth 1000000 in
theorem gkr_27 : [74, 75].all gPchkJ = true := by decide +kernel
set_option maxRecDepth 1000000 in
theorem gkr_28 : [76, 77, 78].all gPchkJ = true := by decide +kernel
set_option maxRecDepth 1000000 in
theorem gkr_29 : [79, 80].all gPchkJ = true := by decide +kernel
set_option maxRecDepth 1000000 in
theorem gkr_30 : [81, 82].all gPchkJ = true := by decide +kernel
set_option maxRecDepth 1000000 in
theorem gkr_31 : [83, 84].all gPchkJ = true := by decide +kernel
set_option maxRecDepth 1000000 in
theorem gkr_32 : [85, 86, 87].all gPchkJ = true := by decide +kernel
set_option maxRecDepth 1000000 in
theorem gkr_33 : [88, 89].all gPchkJ = true := by decide +kernel
set_option maxRecDepth 1000000 in
theorem gkr_34 : [90, 91].all gPchkJ = true := by decide +kernel
theorem gkr_35 : [92].all gPchkJ = true := by simp only [List.all_cons, List.all_nil, gk_92, Bool.and_self]
set_option maxRecDepth 1000000 in
theorem gkr_36 : [93, 94, 95, 96, 97].all gPchkJ = true := by decide +kernel
set_option maxRecDepth 1000000 in
theorem gkr_37 : [98, 99, 100, 101, 102, 103, 104, 105, 106].all gPchkJ = true := by decide +kernel
set_option maxRecDepth 1000000 in
theorem gkr_38 : [107, 108].all gPchkJ = true := by decide +kernel
set_option maxRecDepth 1000000 in
theorem gkr_39 : [109, 110, 111].all gPchkJ = true := by decide +kernel
set_option maxRecDepth 1000000 in
theorem gkr_40 : [112, 113, 114, 115].all gPchkJ = true := by decide +kernel
set_option maxRecDepth 1000000 in
theorem gkr_41 : [116].all gPchkJ = true := by decide +kernel
set_option maxRecDepth 1000000 in
theorem gkr_42 : [117, 118, 119].all gPchkJ = true := by decide +kernel
set_option maxRecDepth 1000000 in
theorem gkr_43 : [120, 121, 122, 123, 124, 125].all gPchkJ = true := by decide +kernel
set_option maxRecDepth 1000000 in
theorem gkr_44 : [126, 127].all gPchkJ = true := by decide +kernel
set_option maxRecDepth 1000000 in
theorem gkr_45 : [128, 129, 130, 131].all gPchkJ = true := by decide +kernel
