/-! THE CHECK, RUN: printed by wip/gen/gen07.py. -/
def gPchkC (j q : Nat) : Bool := ((gProg j).getD q []).all (gchk (gM j))
def gPchkJ (j : Nat) : Bool := (List.range (gProg j).length).all (gPchkC j)
set_option maxRecDepth 1000000 in
theorem gk_0_0 : (List.range' 0 1).all (gPchkC 0) = true := by decide +kernel
set_option maxRecDepth 1000000 in
theorem gk_0_1 : (List.range' 1 1).all (gPchkC 0) = true := by decide +kernel
set_option maxRecDepth 1000000 in
theorem gk_0_2 : (List.range' 2 1).all (gPchkC 0) = true := by decide +kernel
set_option maxRecDepth 1000000 in
theorem gk_0_3 : (List.range' 3 1).all (gPchkC 0) = true := by decide +kernel
set_option maxRecDepth 1000000 in
theorem gk_0_4 : (List.range' 4 1).all (gPchkC 0) = true := by decide +kernel
set_option maxRecDepth 1000000 in
theorem gk_0_5 : (List.range' 5 1).all (gPchkC 0) = true := by decide +kernel
set_option maxRecDepth 1000000 in
theorem gk_0_6 : (List.range' 6 1).all (gPchkC 0) = true := by decide +kernel
set_option maxRecDepth 1000000 in
theorem gk_0_7 : (List.range' 7 1).all (gPchkC 0) = true := by decide +kernel
set_option maxRecDepth 1000000 in
theorem gk_0_8 : (List.range' 8 1).all (gPchkC 0) = true := by decide +kernel
set_option maxRecDepth 1000000 in
theorem gk_0_9 : (List.range' 9 1).all (gPchkC 0) = true := by decide +kernel
set_option maxRecDepth 1000000 in
theorem gk_0_10 : (List.range' 10 1).all (gPchkC 0) = true := by decide +kernel
set_option maxRecDepth 1000000 in
theorem gk_0_11 : (List.range' 11 1).all (gPchkC 0) = true := by decide +kernel
set_option maxRecDepth 1000000 in
theorem gk_0_12 : (List.range' 12 1).all (gPchkC 0) = true := by decide +kernel
set_option maxRecDepth 1000000 in
theorem gk_0_13 : (List.range' 13 1).all (gPchkC 0) = true := by decide +kernel
set_option maxRecDepth 1000000 in
theorem gk_0_14 : (List.range' 14 1).all (gPchkC 0) = true := by decide +kernel
set_option maxRecDepth 1000000 in
theorem gk_0_15 : (List.range' 15 1).all (gPchkC 0) = true := by decide +kernel
set_option maxRecDepth 1000000 in
theorem gk_0_16 : (List.range' 16 1).all (gPchkC 0) = true := by decide +kernel
set_option maxRecDepth 1000000 in
theorem gk_0_17 : (List.range' 17 1).all (gPchkC 0) = true := by decide +kernel
set_option maxRecDepth 1000000 in
theorem gk_0_18 : (List.range' 18 1).all (gPchkC 0) = true := by decide +kernel
set_option maxRecDepth 1000000 in
theorem gk_0_19 : (List.range' 19 1).all (gPchkC 0) = true := by decide +kernel
set_option maxRecDepth 1000000 in
theorem gk_0_20 : (List.range' 20 1).all (gPchkC 0) = true := by decide +kernel
set_option maxRecDepth 1000000 in
theorem gk_0_21 : (List.range' 21 1).all (gPchkC 0) = true := by decide +kernel
set_option maxRecDepth 1000000 in
theorem gk_0_22 : (List.range' 22 1).all (gPchkC 0) = true := by decide +kernel
set_option maxRecDepth 1000000 in
theorem gk_0_23 : (List.range' 23 1).all (gPchkC 0) = true := by decide +kernel
set_option maxRecDepth 1000000 in
theorem gk_0_24 : (List.range' 24 1).all (gPchkC 0) = true := by decide +kernel
set_option maxRecDepth 1000000 in
theorem gk_0_25 : (List.range' 25 1).all (gPchkC 0) = true := by decide +kernel
set_option maxRecDepth 1000000 in
theorem gk_0_26 : (List.range' 26 1).all (gPchkC 0) = true := by decide +kernel
set_option maxRecDepth 1000000 in
theorem gk_0_27 : (List.range' 27 1).all (gPchkC 0) = true := by decide +kernel
set_option maxRecDepth 1000000 in
theorem gk_0_28 : (List.range' 28 1).all (gPchkC 0) = true := by decide +kernel
set_option maxRecDepth 1000000 in
theorem gk_0_29 : (List.range' 29 1).all (gPchkC 0) = true := by decide +kernel
set_option maxRecDepth 1000000 in
theorem gk_0_30 : (List.range' 30 1).all (gPchkC 0) = true := by decide +kernel
set_option maxRecDepth 1000000 in
theorem gk_0_31 : (List.range' 31 1).all (gPchkC 0) = true := by decide +kernel
set_option maxRecDepth 1000000 in
theorem gk_0_32 : (List.range' 32 1).all (gPchkC 0) = true := by decide +kernel
set_option maxRecDepth 1000000 in
theorem gk_0_33 : (List.range' 33 1).all (gPchkC 0) = true := by decide +kernel
set_option maxRecDepth 1000000 in
theorem gk_0_34 : (List.range' 34 1).all (gPchkC 0) = true := by decide +kernel
set_option maxRecDepth 1000000 in
theorem gk_0_35 : (List.range' 35 1).all (gPchkC 0) = true := by decide +kernel
set_option maxRecDepth 1000000 in
theorem gk_0_36 : (List.range' 36 1).all (gPchkC 0) = true := by decide +kernel
set_option maxRecDepth 1000000 in
theorem gk_0_37 : (List.range' 37 1).all (gPchkC 0) = true := by decide +kernel
set_option maxRecDepth 1000000 in
theorem gk_0_38 : (List.range' 38 1).all (gPchkC 0) = true := by decide +kernel
set_option maxRecDepth 1000000 in
theorem gk_0_39 : (List.range' 39 1).all (gPchkC 0) = true := by decide +kernel
set_option maxRecDepth 1000000 in
theorem gk_0_40 : (List.range' 40 1).all (gPchkC 0) = true := by decide +kernel
set_option maxRecDepth 1000000 in
theorem gk_0_41 : (List.range' 41 1).all (gPchkC 0) = true := by decide +kernel
set_option maxRecDepth 1000000 in
theorem gk_0_42 : (List.range' 42 1).all (gPchkC 0) = true := by decide +kernel
set_option maxRecDepth 1000000 in
theorem gk_0_43 : (List.range' 43 1).all (gPchkC 0) = true := by decide +kernel
set_option maxRecDepth 1000000 in
theorem gk_0_44 : (List.range' 44 1).all (gPchkC 0) = true := by decide +kernel
theorem gk_0 : gPchkJ 0 = true := by
  unfold gPchkJ
  rw [show (gProg 0).length = 45 by decide +kernel, show List.range 45 = List.range' 0 1 ++ List.range' 1 1 ++ List.range' 2 1 ++ List.range' 3 1 ++ List.range' 4 1 ++ List.range' 5 1 ++ List.range' 6 1 ++ List.range' 7 1 ++ List.range' 8 1 ++ List.range' 9 1 ++ List.range' 10 1 ++ List.range' 11 1 ++ List.range' 12 1 ++ List.range' 13 1 ++ List.range' 14 1 ++ List.range' 15 1 ++ List.range' 16 1 ++ List.range' 17 1 ++ List.range' 18 1 ++ List.range' 19 1 ++ List.range' 20 1 ++ List.range' 21 1 ++ List.range' 22 1 ++ List.range' 23 1 ++ List.range' 24 1 ++ List.range' 25 1 ++ List.range' 26 1 ++ List.range' 27 1 ++ List.range' 28 1 ++ List.range' 29 1 ++ List.range' 30 1 ++ List.range' 31 1 ++ List.range' 32 1 ++ List.range' 33 1 ++ List.range' 34 1 ++ List.range' 35 1 ++ List.range' 36 1 ++ List.range' 37 1 ++ List.range' 38 1 ++ List.range' 39 1 ++ List.range' 40 1 ++ List.range' 41 1 ++ List.range' 42 1 ++ List.range' 43 1 ++ List.range' 44 1 by decide +kernel]
  simp only [List.all_append, gk_0_0, gk_0_1, gk_0_2, gk_0_3, gk_0_4, gk_0_5, gk_0_6, gk_0_7, gk_0_8, gk_0_9, gk_0_10, gk_0_11, gk_0_12, gk_0_13, gk_0_14, gk_0_15, gk_0_16, gk_0_17, gk_0_18, gk_0_19, gk_0_20, gk_0_21, gk_0_22, gk_0_23, gk_0_24, gk_0_25, gk_0_26, gk_0_27, gk_0_28, gk_0_29, gk_0_30, gk_0_31, gk_0_32, gk_0_33, gk_0_34, gk_0_35, gk_0_36, gk_0_37, gk_0_38, gk_0_39, gk_0_40, gk_0_41, gk_0_42, gk_0_43, gk_0_44, Bool.and_self]
set_option maxRecDepth 1000000 in
theorem gk_92_0 : (List.range' 0 3).all (gPchkC 92) = true := by decide +kernel
set_option maxRecDepth 1000000 in
theorem gk_92_3 : (List.range' 3 3).all (gPchkC 92) = true := by decide +kernel
set_option maxRecDepth 1000000 in
theorem gk_92_6 : (List.range' 6 3).all (gPchkC 92) = true := by decide +kernel
theorem gk_92 : gPchkJ 92 = true := by
  unfold gPchkJ
  rw [show (gProg 92).length = 9 by decide +kernel, show List.range 9 = List.range' 0 3 ++ List.range' 3 3 ++ List.range' 6 3 by decide +kernel]
  simp only [List.all_append, gk_92_0, gk_92_3, gk_92_6, Bool.and_self]
set_option maxRecDepth 1000000 in
theorem gk_204_0 : (List.range' 0 3).all (gPchkC 204) = true := by decide +kernel
set_option maxRecDepth 1000000 in
theorem gk_204_3 : (List.range' 3 3).all (gPchkC 204) = true := by decide +kernel
set_option maxRecDepth 1000000 in
theorem gk_204_6 : (List.range' 6 3).all (gPchkC 204) = true := by decide +kernel
set_option maxRecDepth 1000000 in
theorem gk_204_9 : (List.range' 9 3).all (gPchkC 204) = true := by decide +kernel
set_option maxRecDepth 1000000 in
theorem gk_204_12 : (List.range' 12 3).all (gPchkC 204) = true := by decide +kernel
set_option maxRecDepth 1000000 in
theorem gk_204_15 : (List.range' 15 3).all (gPchkC 204) = true := by decide +kernel
set_option maxRecDepth 1000000 in
theorem gk_204_18 : (List.range' 18 3).all (gPchkC 204) = true := by decide +kernel
set_option maxRecDepth 1000000 in
theorem gk_204_21 : (List.range' 21 3).all (gPchkC 204) = true := by decide +kernel
set_option maxRecDepth 1000000 in
theorem gk_204_24 : (List.range' 24 3).all (gPchkC 204) = true := by decide +kernel
set_option maxRecDepth 1000000 in
theorem gk_204_27 : (List.range' 27 3).all (gPchkC 204) = true := by decide +kernel
set_option maxRecDepth 1000000 in
theorem gk_204_30 : (List.range' 30 3).all (gPchkC 204) = true := by decide +kernel
set_option maxRecDepth 1000000 in
theorem gk_204_33 : (List.range' 33 3).all (gPchkC 204) = true := by decide +kernel
set_option maxRecDepth 1000000 in
theorem gk_204_36 : (List.range' 36 3).all (gPchkC 204) = true := by decide +kernel
set_option maxRecDepth 1000000 in
theorem gk_204_39 : (List.range' 39 3).all (gPchkC 204) = true := by decide +kernel
theorem gk_204 : gPchkJ 204 = true := by
  unfold gPchkJ
  rw [show (gProg 204).length = 42 by decide +kernel, show List.range 42 = List.range' 0 3 ++ List.range' 3 3 ++ List.range' 6 3 ++ List.range' 9 3 ++ List.range' 12 3 ++ List.range' 15 3 ++ List.range' 18 3 ++ List.range' 21 3 ++ List.range' 24 3 ++ List.range' 27 3 ++ List.range' 30 3 ++ List.range' 33 3 ++ List.range' 36 3 ++ List.range' 39 3 by decide +kernel]
  simp only [List.all_append, gk_204_0, gk_204_3, gk_204_6, gk_204_9, gk_204_12, gk_204_15, gk_204_18, gk_204_21, gk_204_24, gk_204_27, gk_204_30, gk_204_33, gk_204_36, gk_204_39, Bool.and_self]
set_option maxRecDepth 1000000 in
theorem gk_214_0 : (List.range' 0 3).all (gPchkC 214) = true := by decide +kernel
set_option maxRecDepth 1000000 in
theorem gk_214_3 : (List.range' 3 3).all (gPchkC 214) = true := by decide +kernel
set_option maxRecDepth 1000000 in
theorem gk_214_6 : (List.range' 6 3).all (gPchkC 214) = true := by decide +kernel
set_option maxRecDepth 1000000 in
theorem gk_214_9 : (List.range' 9 1).all (gPchkC 214) = true := by decide +kernel
theorem gk_214 : gPchkJ 214 = true := by
  unfold gPchkJ
  rw [show (gProg 214).length = 10 by decide +kernel, show List.range 10 = List.range' 0 3 ++ List.range' 3 3 ++ List.range' 6 3 ++ List.range' 9 1 by decide +kernel]
  simp only [List.all_append, gk_214_0, gk_214_3, gk_214_6, gk_214_9, Bool.and_self]
set_option maxRecDepth 1000000 in
theorem gk_227_0 : (List.range' 0 3).all (gPchkC 227) = true := by decide +kernel
set_option maxRecDepth 1000000 in
theorem gk_227_3 : (List.range' 3 3).all (gPchkC 227) = true := by decide +kernel
set_option maxRecDepth 1000000 in
theorem gk_227_6 : (List.range' 6 3).all (gPchkC 227) = true := by decide +kernel
set_option maxRecDepth 1000000 in
theorem gk_227_9 : (List.range' 9 3).all (gPchkC 227) = true := by decide +kernel
set_option maxRecDepth 1000000 in
theorem gk_227_12 : (List.range' 12 3).all (gPchkC 227) = true := by decide +kernel
set_option maxRecDepth 1000000 in
theorem gk_227_15 : (List.range' 15 3).all (gPchkC 227) = true := by decide +kernel
set_option maxRecDepth 1000000 in
theorem gk_227_18 : (List.range' 18 2).all (gPchkC 227) = true := by decide +kernel
theorem gk_227 : gPchkJ 227 = true := by
  unfold gPchkJ
  rw [show (gProg 227).length = 20 by decide +kernel, show List.range 20 = List.range' 0 3 ++ List.range' 3 3 ++ List.range' 6 3 ++ List.range' 9 3 ++ List.range' 12 3 ++ List.range' 15 3 ++ List.range' 18 2 by decide +kernel]
  simp only [List.all_append, gk_227_0, gk_227_3, gk_227_6, gk_227_9, gk_227_12, gk_227_15, gk_227_18, Bool.and_self]
set_option maxRecDepth 1000000 in
theorem gk_228_0 : (List.range' 0 3).all (gPchkC 228) = true := by decide +kernel
set_option maxRecDepth 1000000 in
theorem gk_228_3 : (List.range' 3 3).all (gPchkC 228) = true := by decide +kernel
set_option maxRecDepth 1000000 in
theorem gk_228_6 : (List.range' 6 2).all (gPchkC 228) = true := by decide +kernel
theorem gk_228 : gPchkJ 228 = true := by
  unfold gPchkJ
  rw [show (gProg 228).length = 8 by decide +kernel, show List.range 8 = List.range' 0 3 ++ List.range' 3 3 ++ List.range' 6 2 by decide +kernel]
  simp only [List.all_append, gk_228_0, gk_228_3, gk_228_6, Bool.and_self]
set_option maxRecDepth 1000000 in
theorem gk_232_0 : (List.range' 0 3).all (gPchkC 232) = true := by decide +kernel
set_option maxRecDepth 1000000 in
theorem gk_232_3 : (List.range' 3 3).all (gPchkC 232) = true := by decide +kernel
set_option maxRecDepth 1000000 in
theorem gk_232_6 : (List.range' 6 3).all (gPchkC 232) = true := by decide +kernel
set_option maxRecDepth 1000000 in
theorem gk_232_9 : (List.range' 9 1).all (gPchkC 232) = true := by decide +kernel
theorem gk_232 : gPchkJ 232 = true := by
  unfold gPchkJ
  rw [show (gProg 232).length = 10 by decide +kernel, show List.range 10 = List.range' 0 3 ++ List.range' 3 3 ++ List.range' 6 3 ++ List.range' 9 1 by decide +kernel]
  simp only [List.all_append, gk_232_0, gk_232_3, gk_232_6, gk_232_9, Bool.and_self]
set_option maxRecDepth 1000000 in
theorem gk_236_0 : (List.range' 0 3).all (gPchkC 236) = true := by decide +kernel
set_option maxRecDepth 1000000 in
theorem gk_236_3 : (List.range' 3 3).all (gPchkC 236) = true := by decide +kernel
set_option maxRecDepth 1000000 in
theorem gk_236_6 : (List.range' 6 3).all (gPchkC 236) = true := by decide +kernel
theorem gk_236 : gPchkJ 236 = true := by
  unfold gPchkJ
  rw [show (gProg 236).length = 9 by decide +kernel, show List.range 9 = List.range' 0 3 ++ List.range' 3 3 ++ List.range' 6 3 by decide +kernel]
  simp only [List.all_append, gk_236_0, gk_236_3, gk_236_6, Bool.and_self]
set_option maxRecDepth 1000000 in
theorem gk_239_0 : (List.range' 0 3).all (gPchkC 239) = true := by decide +kernel
set_option maxRecDepth 1000000 in
theorem gk_239_3 : (List.range' 3 3).all (gPchkC 239) = true := by decide +kernel
set_option maxRecDepth 1000000 in
theorem gk_239_6 : (List.range' 6 3).all (gPchkC 239) = true := by decide +kernel
theorem gk_239 : gPchkJ 239 = true := by
  unfold gPchkJ
  rw [show (gProg 239).length = 9 by decide +kernel, show List.range 9 = List.range' 0 3 ++ List.range' 3 3 ++ List.range' 6 3 by decide +kernel]
  simp only [List.all_append, gk_239_0, gk_239_3, gk_239_6, Bool.and_self]
set_option maxRecDepth 1000000 in
theorem gk_270_0 : (List.range' 0 3).all (gPchkC 270) = true := by decide +kernel
set_option maxRecDepth 1000000 in
theorem gk_270_3 : (List.range' 3 3).all (gPchkC 270) = true := by decide +kernel
set_option maxRecDepth 1000000 in
theorem gk_270_6 : (List.range' 6 1).all (gPchkC 270) = true := by decide +kernel
theorem gk_270 : gPchkJ 270 = true := by
  unfold gPchkJ
  rw [show (gProg 270).length = 7 by decide +kernel, show List.range 7 = List.range' 0 3 ++ List.range' 3 3 ++ List.range' 6 1 by decide +kernel]
  simp only [List.all_append, gk_270_0, gk_270_3, gk_270_6, Bool.and_self]
set_option maxRecDepth 1000000 in
theorem gk_274_0 : (List.range' 0 3).all (gPchkC 274) = true := by decide +kernel
set_option maxRecDepth 1000000 in
theorem gk_274_3 : (List.range' 3 3).all (gPchkC 274) = true := by decide +kernel
set_option maxRecDepth 1000000 in
theorem gk_274_6 : (List.range' 6 3).all (gPchkC 274) = true := by decide +kernel
set_option maxRecDepth 1000000 in
theorem gk_274_9 : (List.range' 9 3).all (gPchkC 274) = true := by decide +kernel
set_option maxRecDepth 1000000 in
theorem gk_274_12 : (List.range' 12 3).all (gPchkC 274) = true := by decide +kernel
set_option maxRecDepth 1000000 in
theorem gk_274_15 : (List.range' 15 2).all (gPchkC 274) = true := by decide +kernel
theorem gk_274 : gPchkJ 274 = true := by
  unfold gPchkJ
  rw [show (gProg 274).length = 17 by decide +kernel, show List.range 17 = List.range' 0 3 ++ List.range' 3 3 ++ List.range' 6 3 ++ List.range' 9 3 ++ List.range' 12 3 ++ List.range' 15 2 by decide +kernel]
  simp only [List.all_append, gk_274_0, gk_274_3, gk_274_6, gk_274_9, gk_274_12, gk_274_15, Bool.and_self]
set_option maxRecDepth 1000000 in
theorem gk_287_0 : (List.range' 0 3).all (gPchkC 287) = true := by decide +kernel
set_option maxRecDepth 1000000 in
theorem gk_287_3 : (List.range' 3 3).all (gPchkC 287) = true := by decide +kernel
set_option maxRecDepth 1000000 in
theorem gk_287_6 : (List.range' 6 3).all (gPchkC 287) = true := by decide +kernel
theorem gk_287 : gPchkJ 287 = true := by
  unfold gPchkJ
  rw [show (gProg 287).length = 9 by decide +kernel, show List.range 9 = List.range' 0 3 ++ List.range' 3 3 ++ List.range' 6 3 by decide +kernel]
  simp only [List.all_append, gk_287_0, gk_287_3, gk_287_6, Bool.and_self]
set_option maxRecDepth 1000000 in
theorem gk_304_0 : (List.range' 0 3).all (gPchkC 304) = true := by decide +kernel
set_option maxRecDepth 1000000 in
theorem gk_304_3 : (List.range' 3 3).all (gPchkC 304) = true := by decide +kernel
set_option maxRecDepth 1000000 in
theorem gk_304_6 : (List.range' 6 3).all (gPchkC 304) = true := by decide +kernel
theorem gk_304 : gPchkJ 304 = true := by
  unfold gPchkJ
  rw [show (gProg 304).length = 9 by decide +kernel, show List.range 9 = List.range' 0 3 ++ List.range' 3 3 ++ List.range' 6 3 by decide +kernel]
  simp only [List.all_append, gk_304_0, gk_304_3, gk_304_6, Bool.and_self]
set_option maxRecDepth 1000000 in
theorem gk_310_0 : (List.range' 0 3).all (gPchkC 310) = true := by decide +kernel
set_option maxRecDepth 1000000 in
theorem gk_310_3 : (List.range' 3 3).all (gPchkC 310) = true := by decide +kernel
set_option maxRecDepth 1000000 in
theorem gk_310_6 : (List.range' 6 2).all (gPchkC 310) = true := by decide +kernel
theorem gk_310 : gPchkJ 310 = true := by
  unfold gPchkJ
  rw [show (gProg 310).length = 8 by decide +kernel, show List.range 8 = List.range' 0 3 ++ List.range' 3 3 ++ List.range' 6 2 by decide +kernel]
  simp only [List.all_append, gk_310_0, gk_310_3, gk_310_6, Bool.and_self]
theorem gr_0 : [0].all gPchkJ = true := by simp only [List.all_cons, List.all_nil, gk_0, Bool.and_self]
set_option maxRecDepth 1000000 in
theorem gr_1 : [1, 2, 3, 4, 5].all gPchkJ = true := by decide +kernel
set_option maxRecDepth 1000000 in
theorem gr_2 : [6, 7, 8, 9, 10, 11].all gPchkJ = true := by decide +kernel
set_option maxRecDepth 1000000 in
theorem gr_3 : [12, 13, 14].all gPchkJ = true := by decide +kernel
set_option maxRecDepth 1000000 in
theorem gr_4 : [15, 16].all gPchkJ = true := by decide +kernel
set_option maxRecDepth 1000000 in
theorem gr_5 : [17, 18, 19].all gPchkJ = true := by decide +kernel
set_option maxRecDepth 1000000 in
theorem gr_6 : [20, 21].all gPchkJ = true := by decide +kernel
set_option maxRecDepth 1000000 in
theorem gr_7 : [22, 23].all gPchkJ = true := by decide +kernel
set_option maxRecDepth 1000000 in
theorem gr_8 : [24].all gPchkJ = true := by decide +kernel
set_option maxRecDepth 1000000 in
theorem gr_9 : [25, 26].all gPchkJ = true := by decide +kernel
set_option maxRecDepth 1000000 in
theorem gr_10 : [27, 28].all gPchkJ = true := by decide +kernel
set_option maxRecDepth 1000000 in
theorem gr_11 : [29, 30, 31, 32].all gPchkJ = true := by decide +kernel
set_option maxRecDepth 1000000 in
theorem gr_12 : [33, 34].all gPchkJ = true := by decide +kernel
set_option maxRecDepth 1000000 in
theorem gr_13 : [35, 36].all gPchkJ = true := by decide +kernel
set_option maxRecDepth 1000000 in
theorem gr_14 : [37].all gPchkJ = true := by decide +kernel
set_option maxRecDepth 1000000 in
theorem gr_15 : [38, 39, 40, 41].all gPchkJ = true := by decide +kernel
set_option maxRecDepth 1000000 in
theorem gr_16 : [42].all gPchkJ = true := by decide +kernel
set_option maxRecDepth 1000000 in
theorem gr_17 : [43].all gPchkJ = true := by decide +kernel
set_option maxRecDepth 1000000 in
theorem gr_18 : [44, 45, 46].all gPchkJ = true := by decide +kernel
set_option maxRecDepth 1000000 in
theorem gr_19 : [47, 48].all gPchkJ = true := by decide +kernel
set_option maxRecDepth 1000000 in
theorem gr_20 : [49, 50, 51, 52, 53].all gPchkJ = true := by decide +kernel
set_option maxRecDepth 1000000 in
theorem gr_21 : [54, 55, 56, 57].all gPchkJ = true := by decide +kernel
set_option maxRecDepth 1000000 in
theorem gr_22 : [58, 59].all gPchkJ = true := by decide +kernel
set_option maxRecDepth 1000000 in
theorem gr_23 : [60, 61, 62, 63].all gPchkJ = true := by decide +kernel
set_option maxRecDepth 1000000 in
theorem gr_24 : [64, 65, 66, 67, 68].all gPchkJ = true := by decide +kernel
set_option maxRecDepth 1000000 in
theorem gr_25 : [69, 70, 71].all gPchkJ = true := by decide +kernel
set_option maxRecDepth 1000000 in
theorem gr_26 : [72, 73].all gPchkJ = true := by decide +kernel
set_option maxRecDepth 1000000 in
theorem gr_27 : [74, 75].all gPchkJ = true := by decide +kernel
set_option maxRecDepth 1000000 in
theorem gr_28 : [76, 77, 78].all gPchkJ = true := by decide +kernel
set_option maxRecDepth 1000000 in
theorem gr_29 : [79, 80].all gPchkJ = true := by decide +kernel
set_option maxRecDepth 1000000 in
theorem gr_30 : [81, 82].all gPchkJ = true := by decide +kernel
set_option maxRecDepth 1000000 in
theorem gr_31 : [83, 84].all gPchkJ = true := by decide +kernel
set_option maxRecDepth 1000000 in
theorem gr_32 : [85, 86, 87].all gPchkJ = true := by decide +kernel
set_option maxRecDepth 1000000 in
theorem gr_33 : [88, 89].all gPchkJ = true := by decide +kernel
set_option maxRecDepth 1000000 in
theorem gr_34 : [90, 91].all gPchkJ = true := by decide +kernel
theorem gr_35 : [92].all gPchkJ = true := by simp only [List.all_cons, List.all_nil, gk_92, Bool.and_self]
set_option maxRecDepth 1000000 in
theorem gr_36 : [93, 94, 95, 96, 97].all gPchkJ = true := by decide +kernel
set_option maxRecDepth 1000000 in
theorem gr_37 : [98, 99, 100, 101, 102, 103, 104, 105, 106].all gPchkJ = true := by decide +kernel
set_option maxRecDepth 1000000 in
theorem gr_38 : [107, 108].all gPchkJ = true := by decide +kernel
set_option maxRecDepth 1000000 in
theorem gr_39 : [109, 110, 111].all gPchkJ = true := by decide +kernel
set_option maxRecDepth 1000000 in
theorem gr_40 : [112, 113, 114, 115].all gPchkJ = true := by decide +kernel
set_option maxRecDepth 1000000 in
theorem gr_41 : [116].all gPchkJ = true := by decide +kernel
set_option maxRecDepth 1000000 in
theorem gr_42 : [117, 118, 119].all gPchkJ = true := by decide +kernel
set_option maxRecDepth 1000000 in
theorem gr_43 : [120, 121, 122, 123, 124, 125].all gPchkJ = true := by decide +kernel
set_option maxRecDepth 1000000 in
theorem gr_44 : [126, 127].all gPchkJ = true := by decide +kernel
set_option maxRecDepth 1000000 in
theorem gr_45 : [128, 129, 130, 131].all gPchkJ = true := by decide +kernel
set_option maxRecDepth 1000000 in
theorem gr_46 : [132, 133, 134, 135].all gPchkJ = true := by decide +kernel
set_option maxRecDepth 1000000 in
theorem gr_47 : [136].all gPchkJ = true := by decide +kernel
set_option maxRecDepth 1000000 in
theorem gr_48 : [137, 138].all gPchkJ = true := by decide +kernel
set_option maxRecDepth 1000000 in
theorem gr_49 : [139, 140, 141, 142].all gPchkJ = true := by decide +kernel
set_option maxRecDepth 1000000 in
theorem gr_50 : [143, 144].all gPchkJ = true := by decide +kernel
set_option maxRecDepth 1000000 in
theorem gr_51 : [145, 146].all gPchkJ = true := by decide +kernel
set_option maxRecDepth 1000000 in
theorem gr_52 : [147, 148, 149].all gPchkJ = true := by decide +kernel
set_option maxRecDepth 1000000 in
theorem gr_53 : [150, 151, 152].all gPchkJ = true := by decide +kernel
set_option maxRecDepth 1000000 in
theorem gr_54 : [153, 154, 155].all gPchkJ = true := by decide +kernel
set_option maxRecDepth 1000000 in
theorem gr_55 : [156, 157, 158, 159, 160, 161, 162].all gPchkJ = true := by decide +kernel
set_option maxRecDepth 1000000 in
theorem gr_56 : [163, 164, 165].all gPchkJ = true := by decide +kernel
set_option maxRecDepth 1000000 in
theorem gr_57 : [166, 167, 168, 169].all gPchkJ = true := by decide +kernel
set_option maxRecDepth 1000000 in
theorem gr_58 : [170, 171, 172, 173].all gPchkJ = true := by decide +kernel
set_option maxRecDepth 1000000 in
theorem gr_59 : [174, 175, 176, 177].all gPchkJ = true := by decide +kernel
set_option maxRecDepth 1000000 in
theorem gr_60 : [178, 179, 180, 181].all gPchkJ = true := by decide +kernel
set_option maxRecDepth 1000000 in
theorem gr_61 : [182, 183, 184, 185].all gPchkJ = true := by decide +kernel
set_option maxRecDepth 1000000 in
theorem gr_62 : [186, 187, 188].all gPchkJ = true := by decide +kernel
set_option maxRecDepth 1000000 in
theorem gr_63 : [189, 190].all gPchkJ = true := by decide +kernel
set_option maxRecDepth 1000000 in
theorem gr_64 : [191, 192, 193, 194, 195].all gPchkJ = true := by decide +kernel
set_option maxRecDepth 1000000 in
theorem gr_65 : [196, 197, 198, 199, 200, 201, 202, 203].all gPchkJ = true := by decide +kernel
theorem gr_66 : [204].all gPchkJ = true := by simp only [List.all_cons, List.all_nil, gk_204, Bool.and_self]
set_option maxRecDepth 1000000 in
theorem gr_67 : [205, 206, 207, 208, 209, 210, 211].all gPchkJ = true := by decide +kernel
set_option maxRecDepth 1000000 in
theorem gr_68 : [212, 213].all gPchkJ = true := by decide +kernel
theorem gr_69 : [214].all gPchkJ = true := by simp only [List.all_cons, List.all_nil, gk_214, Bool.and_self]
set_option maxRecDepth 1000000 in
theorem gr_70 : [215, 216].all gPchkJ = true := by decide +kernel
set_option maxRecDepth 1000000 in
theorem gr_71 : [217, 218, 219, 220].all gPchkJ = true := by decide +kernel
set_option maxRecDepth 1000000 in
theorem gr_72 : [221].all gPchkJ = true := by decide +kernel
set_option maxRecDepth 1000000 in
theorem gr_73 : [222, 223, 224].all gPchkJ = true := by decide +kernel
set_option maxRecDepth 1000000 in
theorem gr_74 : [225, 226].all gPchkJ = true := by decide +kernel
theorem gr_75 : [227].all gPchkJ = true := by simp only [List.all_cons, List.all_nil, gk_227, Bool.and_self]
theorem gr_76 : [228].all gPchkJ = true := by simp only [List.all_cons, List.all_nil, gk_228, Bool.and_self]
set_option maxRecDepth 1000000 in
theorem gr_77 : [229].all gPchkJ = true := by decide +kernel
set_option maxRecDepth 1000000 in
theorem gr_78 : [230, 231].all gPchkJ = true := by decide +kernel
theorem gr_79 : [232].all gPchkJ = true := by simp only [List.all_cons, List.all_nil, gk_232, Bool.and_self]
set_option maxRecDepth 1000000 in
theorem gr_80 : [233, 234].all gPchkJ = true := by decide +kernel
set_option maxRecDepth 1000000 in
theorem gr_81 : [235].all gPchkJ = true := by decide +kernel
theorem gr_82 : [236].all gPchkJ = true := by simp only [List.all_cons, List.all_nil, gk_236, Bool.and_self]
set_option maxRecDepth 1000000 in
theorem gr_83 : [237].all gPchkJ = true := by decide +kernel
set_option maxRecDepth 1000000 in
theorem gr_84 : [238].all gPchkJ = true := by decide +kernel
theorem gr_85 : [239].all gPchkJ = true := by simp only [List.all_cons, List.all_nil, gk_239, Bool.and_self]
set_option maxRecDepth 1000000 in
theorem gr_86 : [240, 241, 242].all gPchkJ = true := by decide +kernel
set_option maxRecDepth 1000000 in
theorem gr_87 : [243, 244, 245, 246].all gPchkJ = true := by decide +kernel
set_option maxRecDepth 1000000 in
theorem gr_88 : [247, 248, 249, 250, 251].all gPchkJ = true := by decide +kernel
set_option maxRecDepth 1000000 in
theorem gr_89 : [252].all gPchkJ = true := by decide +kernel
set_option maxRecDepth 1000000 in
theorem gr_90 : [253, 254, 255, 256].all gPchkJ = true := by decide +kernel
set_option maxRecDepth 1000000 in
theorem gr_91 : [257, 258, 259].all gPchkJ = true := by decide +kernel
set_option maxRecDepth 1000000 in
theorem gr_92 : [260, 261, 262].all gPchkJ = true := by decide +kernel
set_option maxRecDepth 1000000 in
theorem gr_93 : [263, 264].all gPchkJ = true := by decide +kernel
set_option maxRecDepth 1000000 in
theorem gr_94 : [265].all gPchkJ = true := by decide +kernel
set_option maxRecDepth 1000000 in
theorem gr_95 : [266, 267, 268, 269].all gPchkJ = true := by decide +kernel
theorem gr_96 : [270].all gPchkJ = true := by simp only [List.all_cons, List.all_nil, gk_270, Bool.and_self]
set_option maxRecDepth 1000000 in
theorem gr_97 : [271, 272].all gPchkJ = true := by decide +kernel
set_option maxRecDepth 1000000 in
theorem gr_98 : [273].all gPchkJ = true := by decide +kernel
theorem gr_99 : [274].all gPchkJ = true := by simp only [List.all_cons, List.all_nil, gk_274, Bool.and_self]
set_option maxRecDepth 1000000 in
theorem gr_100 : [275].all gPchkJ = true := by decide +kernel
set_option maxRecDepth 1000000 in
theorem gr_101 : [276].all gPchkJ = true := by decide +kernel
set_option maxRecDepth 1000000 in
theorem gr_102 : [277, 278].all gPchkJ = true := by decide +kernel
set_option maxRecDepth 1000000 in
theorem gr_103 : [279, 280, 281, 282].all gPchkJ = true := by decide +kernel
set_option maxRecDepth 1000000 in
theorem gr_104 : [283].all gPchkJ = true := by decide +kernel
set_option maxRecDepth 1000000 in
theorem gr_105 : [284, 285].all gPchkJ = true := by decide +kernel
set_option maxRecDepth 1000000 in
theorem gr_106 : [286].all gPchkJ = true := by decide +kernel
theorem gr_107 : [287].all gPchkJ = true := by simp only [List.all_cons, List.all_nil, gk_287, Bool.and_self]
set_option maxRecDepth 1000000 in
theorem gr_108 : [288].all gPchkJ = true := by decide +kernel
set_option maxRecDepth 1000000 in
theorem gr_109 : [289, 290].all gPchkJ = true := by decide +kernel
set_option maxRecDepth 1000000 in
theorem gr_110 : [291].all gPchkJ = true := by decide +kernel
set_option maxRecDepth 1000000 in
theorem gr_111 : [292, 293, 294].all gPchkJ = true := by decide +kernel
set_option maxRecDepth 1000000 in
theorem gr_112 : [295, 296, 297].all gPchkJ = true := by decide +kernel
set_option maxRecDepth 1000000 in
theorem gr_113 : [298].all gPchkJ = true := by decide +kernel
set_option maxRecDepth 1000000 in
theorem gr_114 : [299].all gPchkJ = true := by decide +kernel
set_option maxRecDepth 1000000 in
theorem gr_115 : [300].all gPchkJ = true := by decide +kernel
set_option maxRecDepth 1000000 in
theorem gr_116 : [301].all gPchkJ = true := by decide +kernel
set_option maxRecDepth 1000000 in
theorem gr_117 : [302, 303].all gPchkJ = true := by decide +kernel
theorem gr_118 : [304].all gPchkJ = true := by simp only [List.all_cons, List.all_nil, gk_304, Bool.and_self]
set_option maxRecDepth 1000000 in
theorem gr_119 : [305, 306].all gPchkJ = true := by decide +kernel
set_option maxRecDepth 1000000 in
theorem gr_120 : [307, 308].all gPchkJ = true := by decide +kernel
set_option maxRecDepth 1000000 in
theorem gr_121 : [309].all gPchkJ = true := by decide +kernel
theorem gr_122 : [310].all gPchkJ = true := by simp only [List.all_cons, List.all_nil, gk_310, Bool.and_self]
set_option maxRecDepth 1000000 in
theorem gr_123 : [311, 312].all gPchkJ = true := by decide +kernel
set_option maxRecDepth 1000000 in
theorem gr_124 : [313].all gPchkJ = true := by decide +kernel
set_option maxRecDepth 1000000 in
theorem gr_125 : [314, 315, 316, 317, 318, 319, 320, 321].all gPchkJ = true := by decide +kernel
set_option maxRecDepth 1000000 in
theorem gr_126 : [322, 323, 324, 325, 326, 327, 328, 329, 330, 331, 332].all gPchkJ = true := by decide +kernel
theorem gr_all : (List.range 333).all gPchkJ = true := by
  rw [show List.range 333 = [0] ++ [1, 2, 3, 4, 5] ++ [6, 7, 8, 9, 10, 11] ++ [12, 13, 14] ++ [15, 16] ++ [17, 18, 19] ++ [20, 21] ++ [22, 23] ++ [24] ++ [25, 26] ++ [27, 28] ++ [29, 30, 31, 32] ++ [33, 34] ++ [35, 36] ++ [37] ++ [38, 39, 40, 41] ++ [42] ++ [43] ++ [44, 45, 46] ++ [47, 48] ++ [49, 50, 51, 52, 53] ++ [54, 55, 56, 57] ++ [58, 59] ++ [60, 61, 62, 63] ++ [64, 65, 66, 67, 68] ++ [69, 70, 71] ++ [72, 73] ++ [74, 75] ++ [76, 77, 78] ++ [79, 80] ++ [81, 82] ++ [83, 84] ++ [85, 86, 87] ++ [88, 89] ++ [90, 91] ++ [92] ++ [93, 94, 95, 96, 97] ++ [98, 99, 100, 101, 102, 103, 104, 105, 106] ++ [107, 108] ++ [109, 110, 111] ++ [112, 113, 114, 115] ++ [116] ++ [117, 118, 119] ++ [120, 121, 122, 123, 124, 125] ++ [126, 127] ++ [128, 129, 130, 131] ++ [132, 133, 134, 135] ++ [136] ++ [137, 138] ++ [139, 140, 141, 142] ++ [143, 144] ++ [145, 146] ++ [147, 148, 149] ++ [150, 151, 152] ++ [153, 154, 155] ++ [156, 157, 158, 159, 160, 161, 162] ++ [163, 164, 165] ++ [166, 167, 168, 169] ++ [170, 171, 172, 173] ++ [174, 175, 176, 177] ++ [178, 179, 180, 181] ++ [182, 183, 184, 185] ++ [186, 187, 188] ++ [189, 190] ++ [191, 192, 193, 194, 195] ++ [196, 197, 198, 199, 200, 201, 202, 203] ++ [204] ++ [205, 206, 207, 208, 209, 210, 211] ++ [212, 213] ++ [214] ++ [215, 216] ++ [217, 218, 219, 220] ++ [221] ++ [222, 223, 224] ++ [225, 226] ++ [227] ++ [228] ++ [229] ++ [230, 231] ++ [232] ++ [233, 234] ++ [235] ++ [236] ++ [237] ++ [238] ++ [239] ++ [240, 241, 242] ++ [243, 244, 245, 246] ++ [247, 248, 249, 250, 251] ++ [252] ++ [253, 254, 255, 256] ++ [257, 258, 259] ++ [260, 261, 262] ++ [263, 264] ++ [265] ++ [266, 267, 268, 269] ++ [270] ++ [271, 272] ++ [273] ++ [274] ++ [275] ++ [276] ++ [277, 278] ++ [279, 280, 281, 282] ++ [283] ++ [284, 285] ++ [286] ++ [287] ++ [288] ++ [289, 290] ++ [291] ++ [292, 293, 294] ++ [295, 296, 297] ++ [298] ++ [299] ++ [300] ++ [301] ++ [302, 303] ++ [304] ++ [305, 306] ++ [307, 308] ++ [309] ++ [310] ++ [311, 312] ++ [313] ++ [314, 315, 316, 317, 318, 319, 320, 321] ++ [322, 323, 324, 325, 326, 327, 328, 329, 330, 331, 332] by decide +kernel]
  simp only [List.all_append, gr_0, gr_1, gr_2, gr_3, gr_4, gr_5, gr_6, gr_7, gr_8, gr_9, gr_10, gr_11, gr_12, gr_13, gr_14, gr_15, gr_16, gr_17, gr_18, gr_19, gr_20, gr_21, gr_22, gr_23, gr_24, gr_25, gr_26, gr_27, gr_28, gr_29, gr_30, gr_31, gr_32, gr_33, gr_34, gr_35, gr_36, gr_37, gr_38, gr_39, gr_40, gr_41, gr_42, gr_43, gr_44, gr_45, gr_46, gr_47, gr_48, gr_49, gr_50, gr_51, gr_52, gr_53, gr_54, gr_55, gr_56, gr_57, gr_58, gr_59, gr_60, gr_61, gr_62, gr_63, gr_64, gr_65, gr_66, gr_67, gr_68, gr_69, gr_70, gr_71, gr_72, gr_73, gr_74, gr_75, gr_76, gr_77, gr_78, gr_79, gr_80, gr_81, gr_82, gr_83, gr_84, gr_85, gr_86, gr_87, gr_88, gr_89, gr_90, gr_91, gr_92, gr_93, gr_94, gr_95, gr_96, gr_97, gr_98, gr_99, gr_100, gr_101, gr_102, gr_103, gr_104, gr_105, gr_106, gr_107, gr_108, gr_109, gr_110, gr_111, gr_112, gr_113, gr_114, gr_115, gr_116, gr_117, gr_118, gr_119, gr_120, gr_121, gr_122, gr_123, gr_124, gr_125, gr_126, Bool.and_self]
theorem gAtt_chk {j pc : Nat} {e : gE} (h : gAtt j pc = some e) : e.1 = pc ∧ gchk (gM j) e = true := by
  unfold gAtt at h
  have h1 : e.1 = pc := Nat.eq_of_beq_eq_true (List.find?_some h)
  have h2 := List.mem_of_find?_eq_some h
  refine ⟨h1, ?_⟩
  by_cases hj : j < 333
  · have h3 := List.all_eq_true.mp gr_all j (List.mem_range.mpr hj)
    unfold gPchkJ at h3
    by_cases hq : pc / 32 < (gProg j).length
    · have h4 := List.all_eq_true.mp h3 (pc / 32) (List.mem_range.mpr hq)
      exact List.all_eq_true.mp h4 e h2
    · rw [List.getD_eq_getElem?_getD, List.getElem?_eq_none (by omega)] at h2
      exact absurd h2 List.not_mem_nil
  · have h5 : gProg j = [] := by
      unfold gProg
      by_cases hg : j / 16 < gPgs.length
      · have hl : gPgs.length = 21 := by decide +kernel
        have h6 : j / 16 = 20 := by omega
        rw [h6]
        have h7 : (gPgs.getD 20 []).length = 13 := by decide +kernel
        rw [List.getD_eq_getElem?_getD, List.getElem?_eq_none (by omega)]
        rfl
      · rw [List.getD_eq_getElem?_getD (l := gPgs), List.getElem?_eq_none (by omega)]
        rfl
    rw [h5] at h2
    rw [List.getD_eq_getElem?_getD, List.getElem?_eq_none (by simp)] at h2
    exact absurd h2 List.not_mem_nil
