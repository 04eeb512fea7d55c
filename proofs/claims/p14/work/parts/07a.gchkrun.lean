/-! THE CHECK, RUN: printed by wip/gen/gen07.py. -/
def gPchkC (j q : Nat) : Bool := ((gProg j).getD q []).all (gchkq j)
def gPchkJ (j : Nat) : Bool := (List.range (gProg j).length).all (gPchkC j)
set_option maxRecDepth 1000000 in
theorem gk_0_0 : (List.range' 0 1).all (gPchkC 0) = true := by decide +kernel
set_option maxRecDepth 1000000 in
theorem gk_0_1 : (List.range' 1 1).all (gPchkC 0) = true := by decide +kernel
set_option maxRecDepth 1000000 in
theorem gk_0_2 : (List.range' 2 1).all (gPchkC 0) = true := by decide +kernel
set_option maxRecDepth 1000000 in
theorem gk_0_3 : (List.range' 3 1).all (gPchkC 0) = true := by decide +kernel
set_option maxRecDepth 1000000 in
theorem gk_0_4 : (List.range' 4 1).all (gPchkC 0) = true := by decide +kernel
set_option maxRecDepth 1000000 in
theorem gk_0_5 : (List.range' 5 1).all (gPchkC 0) = true := by decide +kernel
set_option maxRecDepth 1000000 in
theorem gk_0_6 : (List.range' 6 1).all (gPchkC 0) = true := by decide +kernel
set_option maxRecDepth 1000000 in
theorem gk_0_7 : (List.range' 7 1).all (gPchkC 0) = true := by decide +kernel
set_option maxRecDepth 1000000 in
theorem gk_0_8 : (List.range' 8 1).all (gPchkC 0) = true := by decide +kernel
set_option maxRecDepth 1000000 in
theorem gk_0_9 : (List.range' 9 1).all (gPchkC 0) = true := by decide +kernel
set_option maxRecDepth 1000000 in
theorem gk_0_10 : (List.range' 10 1).all (gPchkC 0) = true := by decide +kernel
set_option maxRecDepth 1000000 in
theorem gk_0_11 : (List.range' 11 1).all (gPchkC 0) = true := by decide +kernel
set_option maxRecDepth 1000000 in
theorem gk_0_12 : (List.range' 12 1).all (gPchkC 0) = true := by decide +kernel
set_option maxRecDepth 1000000 in
theorem gk_0_13 : (List.range' 13 1).all (gPchkC 0) = true := by decide +kernel
set_option maxRecDepth 1000000 in
theorem gk_0_14 : (List.range' 14 1).all (gPchkC 0) = true := by decide +kernel
set_option maxRecDepth 1000000 in
theorem gk_0_15 : (List.range' 15 1).all (gPchkC 0) = true := by decide +kernel
set_option maxRecDepth 1000000 in
theorem gk_0_16 : (List.range' 16 1).all (gPchkC 0) = true := by decide +kernel
set_option maxRecDepth 1000000 in
theorem gk_0_17 : (List.range' 17 1).all (gPchkC 0) = true := by decide +kernel
set_option maxRecDepth 1000000 in
theorem gk_0_18 : (List.range' 18 1).all (gPchkC 0) = true := by decide +kernel
set_option maxRecDepth 1000000 in
theorem gk_0_19 : (List.range' 19 1).all (gPchkC 0) = true := by decide +kernel
set_option maxRecDepth 1000000 in
theorem gk_0_20 : (List.range' 20 1).all (gPchkC 0) = true := by decide +kernel
set_option maxRecDepth 1000000 in
theorem gk_0_21 : (List.range' 21 1).all (gPchkC 0) = true := by decide +kernel
set_option maxRecDepth 1000000 in
theorem gk_0_22 : (List.range' 22 1).all (gPchkC 0) = true := by decide +kernel
set_option maxRecDepth 1000000 in
theorem gk_0_23 : (List.range' 23 1).all (gPchkC 0) = true := by decide +kernel
set_option maxRecDepth 1000000 in
theorem gk_0_24 : (List.range' 24 1).all (gPchkC 0) = true := by decide +kernel
set_option maxRecDepth 1000000 in
theorem gk_0_25 : (List.range' 25 1).all (gPchkC 0) = true := by decide +kernel
set_option maxRecDepth 1000000 in
theorem gk_0_26 : (List.range' 26 1).all (gPchkC 0) = true := by decide +kernel
set_option maxRecDepth 1000000 in
theorem gk_0_27 : (List.range' 27 1).all (gPchkC 0) = true := by decide +kernel
set_option maxRecDepth 1000000 in
theorem gk_0_28 : (List.range' 28 1).all (gPchkC 0) = true := by decide +kernel
set_option maxRecDepth 1000000 in
theorem gk_0_29 : (List.range' 29 1).all (gPchkC 0) = true := by decide +kernel
set_option maxRecDepth 1000000 in
theorem gk_0_30 : (List.range' 30 1).all (gPchkC 0) = true := by decide +kernel
set_option maxRecDepth 1000000 in
theorem gk_0_31 : (List.range' 31 1).all (gPchkC 0) = true := by decide +kernel
set_option maxRecDepth 1000000 in
theorem gk_0_32 : (List.range' 32 1).all (gPchkC 0) = true := by decide +kernel
set_option maxRecDepth 1000000 in
theorem gk_0_33 : (List.range' 33 1).all (gPchkC 0) = true := by decide +kernel
set_option maxRecDepth 1000000 in
theorem gk_0_34 : (List.range' 34 1).all (gPchkC 0) = true := by decide +kernel
set_option maxRecDepth 1000000 in
theorem gk_0_35 : (List.range' 35 1).all (gPchkC 0) = true := by decide +kernel
set_option maxRecDepth 1000000 in
theorem gk_0_36 : (List.range' 36 1).all (gPchkC 0) = true := by decide +kernel
set_option maxRecDepth 1000000 in
theorem gk_0_37 : (List.range' 37 1).all (gPchkC 0) = true := by decide +kernel
set_option maxRecDepth 1000000 in
theorem gk_0_38 : (List.range' 38 1).all (gPchkC 0) = true := by decide +kernel
set_option maxRecDepth 1000000 in
theorem gk_0_39 : (List.range' 39 1).all (gPchkC 0) = true := by decide +kernel
set_option maxRecDepth 1000000 in
theorem gk_0_40 : (List.range' 40 1).all (gPchkC 0) = true := by decide +kernel
set_option maxRecDepth 1000000 in
theorem gk_0_41 : (List.range' 41 1).all (gPchkC 0) = true := by decide +kernel
set_option maxRecDepth 1000000 in
theorem gk_0_42 : (List.range' 42 1).all (gPchkC 0) = true := by decide +kernel
set_option maxRecDepth 1000000 in
theorem gk_0_43 : (List.range' 43 1).all (gPchkC 0) = true := by decide +kernel
set_option maxRecDepth 1000000 in
theorem gk_0_44 : (List.range' 44 1).all (gPchkC 0) = true := by decide +kernel
theorem gk_0 : gPchkJ 0 = true := by
  unfold gPchkJ
  rw [show (gProg 0).length = 45 by decide +kernel, show List.range 45 = List.range' 0 1 ++ List.range' 1 1 ++ List.range' 2 1 ++ List.range' 3 1 ++ List.range' 4 1 ++ List.range' 5 1 ++ List.range' 6 1 ++ List.range' 7 1 ++ List.range' 8 1 ++ List.range' 9 1 ++ List.range' 10 1 ++ List.range' 11 1 ++ List.range' 12 1 ++ List.range' 13 1 ++ List.range' 14 1 ++ List.range' 15 1 ++ List.range' 16 1 ++ List.range' 17 1 ++ List.range' 18 1 ++ List.range' 19 1 ++ List.range' 20 1 ++ List.range' 21 1 ++ List.range' 22 1 ++ List.range' 23 1 ++ List.range' 24 1 ++ List.range' 25 1 ++ List.range' 26 1 ++ List.range' 27 1 ++ List.range' 28 1 ++ List.range' 29 1 ++ List.range' 30 1 ++ List.range' 31 1 ++ List.range' 32 1 ++ List.range' 33 1 ++ List.range' 34 1 ++ List.range' 35 1 ++ List.range' 36 1 ++ List.range' 37 1 ++ List.range' 38 1 ++ List.range' 39 1 ++ List.range' 40 1 ++ List.range' 41 1 ++ List.range' 42 1 ++ List.range' 43 1 ++ List.range' 44 1 by decide +kernel]
  simp only [List.all_append, gk_0_0, gk_0_1, gk_0_2, gk_0_3, gk_0_4, gk_0_5, gk_0_6, gk_0_7, gk_0_8, gk_0_9, gk_0_10, gk_0_11, gk_0_12, gk_0_13, gk_0_14, gk_0_15, gk_0_16, gk_0_17, gk_0_18, gk_0_19, gk_0_20, gk_0_21, gk_0_22, gk_0_23, gk_0_24, gk_0_25, gk_0_26, gk_0_27, gk_0_28, gk_0_29, gk_0_30, gk_0_31, gk_0_32, gk_0_33, gk_0_34, gk_0_35, gk_0_36, gk_0_37, gk_0_38, gk_0_39, gk_0_40, gk_0_41, gk_0_42, gk_0_43, gk_0_44, Bool.and_self]
set_option maxRecDepth 1000000 in
theorem gk_92_0 : (List.range' 0 3).all (gPchkC 92) = true := by decide +kernel
set_option maxRecDepth 1000000 in
theorem gk_92_3 : (List.range' 3 3).all (gPchkC 92) = true := by decide +kernel
set_option maxRecDepth 1000000 in
theorem gk_92_6 : (List.range' 6 3).all (gPchkC 92) = true := by decide +kernel
theorem gk_92 : gPchkJ 92 = true := by
  unfold gPchkJ
  rw [show (gProg 92).length = 9 by decide +kernel, show List.range 9 = List.range' 0 3 ++ List.range' 3 3 ++ List.range' 6 3 by decide +kernel]
  simp only [List.all_append, gk_92_0, gk_92_3, gk_92_6, Bool.and_self]
set_option maxRecDepth 1000000 in
theorem gk_204_0 : (List.range' 0 3).all (gPchkC 204) = true := by decide +kernel
set_option maxRecDepth 1000000 in
theorem gk_204_3 : (List.range' 3 3).all (gPchkC 204) = true := by decide +kernel
set_option maxRecDepth 1000000 in
theorem gk_204_6 : (List.range' 6 3).all (gPchkC 204) = true := by decide +kernel
set_option maxRecDepth 1000000 in
theorem gk_204_9 : (List.range' 9 3).all (gPchkC 204) = true := by decide +kernel
set_option maxRecDepth 1000000 in
theorem gk_204_12 : (List.range' 12 3).all (gPchkC 204) = true := by decide +kernel
set_option maxRecDepth 1000000 in
theorem gk_204_15 : (List.range' 15 3).all (gPchkC 204) = true := by decide +kernel
set_option maxRecDepth 1000000 in
theorem gk_204_18 : (List.range' 18 3).all (gPchkC 204) = true := by decide +kernel
set_option maxRecDepth 1000000 in
theorem gk_204_21 : (List.range' 21 3).all (gPchkC 204) = true := by decide +kernel
set_option maxRecDepth 1000000 in
theorem gk_204_24 : (List.range' 24 3).all (gPchkC 204) = true := by decide +kernel
set_option maxRecDepth 1000000 in
theorem gk_204_27 : (List.range' 27 3).all (gPchkC 204) = true := by decide +kernel
set_option maxRecDepth 1000000 in
theorem gk_204_30 : (List.range' 30 3).all (gPchkC 204) = true := by decide +kernel
set_option maxRecDepth 1000000 in
theorem gk_204_33 : (List.range' 33 3).all (gPchkC 204) = true := by decide +kernel
set_option maxRecDepth 1000000 in
theorem gk_204_36 : (List.range' 36 3).all (gPchkC 204) = true := by decide +kernel
set_option maxRecDepth 1000000 in
theorem gk_204_39 : (List.range' 39 3).all (gPchkC 204) = true := by decide +kernel
theorem gk_204 : gPchkJ 204 = true := by
  unfold gPchkJ
  rw [show (gProg 204).length = 42 by decide +kernel, show List.range 42 = List.range' 0 3 ++ List.range' 3 3 ++ List.range' 6 3 ++ List.range' 9 3 ++ List.range' 12 3 ++ List.range' 15 3 ++ List.range' 18 3 ++ List.range' 21 3 ++ List.range' 24 3 ++ List.range' 27 3 ++ List.range' 30 3 ++ List.range' 33 3 ++ List.range' 36 3 ++ List.range' 39 3 by decide +kernel]
  simp only [List.all_append, gk_204_0, gk_204_3, gk_204_6, gk_204_9, gk_204_12, gk_204_15, gk_204_18, gk_204_21, gk_204_24, gk_204_27, gk_204_30, gk_204_33, gk_204_36, gk_204_39, Bool.and_self]
set_option maxRecDepth 1000000 in
theorem gk_214_0 : (List.range' 0 3).all (gPchkC 214) = true := by decide +kernel
set_option maxRecDepth 1000000 in
theorem gk_214_3 : (List.range' 3 3).all (gPchkC 214) = true := by decide +kernel
set_option maxRecDepth 1000000 in
theorem gk_214_6 : (List.range' 6 3).all (gPchkC 214) = true := by decide +kernel
set_option maxRecDepth 1000000 in
theorem gk_214_9 : (List.range' 9 1).all (gPchkC 214) = true := by decide +kernel
theorem gk_214 : gPchkJ 214 = true := by
  unfold gPchkJ
  rw [show (gProg 214).length = 10 by decide +kernel, show List.range 10 = List.range' 0 3 ++ List.range' 3 3 ++ List.range' 6 3 ++ List.range' 9 1 by decide +kernel]
  simp only [List.all_append, gk_214_0, gk_214_3, gk_214_6, gk_214_9, Bool.and_self]
set_option maxRecDepth 1000000 in
theorem gk_227_0 : (List.range' 0 3).all (gPchkC 227) = true := by decide +kernel
set_option maxRecDepth 1000000 in
theorem gk_227_3 : (List.range' 3 3).all (gPchkC 227) = true := by decide +kernel
set_option maxRecDepth 1000000 in
theorem gk_227_6 : (List.range' 6 3).all (gPchkC 227) = true := by decide +kernel
set_option maxRecDepth 1000000 in
theorem gk_227_9 : (List.range' 9 3).all (gPchkC 227) = true := by decide +kernel
set_option maxRecDepth 1000000 in
theorem gk_227_12 : (List.range' 12 3).all (gPchkC 227) = true := by decide +kernel
set_option maxRecDepth 1000000 in
theorem gk_227_15 : (List.range' 15 3).all (gPchkC 227) = true := by decide +kernel
set_option maxRecDepth 1000000 in
theorem gk_227_18 : (List.range' 18 2).all (gPchkC 227) = true := by decide +kernel
theorem gk_227 : gPchkJ 227 = true := by
  unfold gPchkJ
  rw [show (gProg 227).length = 20 by decide +kernel, show List.range 20 = List.range' 0 3 ++ List.range' 3 3 ++ List.range' 6 3 ++ List.range' 9 3 ++ List.range' 12 3 ++ List.range' 15 3 ++ List.range' 18 2 by decide +kernel]
  simp only [List.all_append, gk_227_0, gk_227_3, gk_227_6, gk_227_9, gk_227_12, gk_227_15, gk_227_18, Bool.and_self]
set_option maxRecDepth 1000000 in
theorem gk_228_0 : (List.range' 0 3).all (gPchkC 228) = true := by decide +kernel
set_option maxRecDepth 1000000 in
theorem gk_228_3 : (List.range' 3 3).all (gPchkC 228) = true := by decide +kernel
set_option maxRecDepth 1000000 in
theorem gk_228_6 : (List.range' 6 2).all (gPchkC 228) = true := by decide +kernel
theorem gk_228 : gPchkJ 228 = true := by
  unfold gPchkJ
  rw [show (gProg 228).length = 8 by decide +kernel, show List.range 8 = List.range' 0 3 ++ List.range' 3 3 ++ List.range' 6 2 by decide +kernel]
  simp only [List.all_append, gk_228_0, gk_228_3, gk_228_6, Bool.and_self]
