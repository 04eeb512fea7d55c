/-! THE CHECK, RUN, on (wip/gen/gen07.py). -/
theorem gk_92 : gPchkJ 92 = true := by
  unfold gPchkJ
  rw [show (gProg 92).length = 9 by decide +kernel, show List.range 9 = List.range' 0 3 ++ List.range' 3 3 ++ List.range' 6 3 by decide +kernel]
  simp only [List.all_append, gk_92_0, gk_92_3, gk_92_6, Bool.and_self]
set_option maxRecDepth 1000000 in
theorem gk_204_0 : (List.range' 0 3).all (gPchkC 204) = true := by decide +kernel
set_option maxRecDepth 1000000 in
theorem gk_204_3 : (List.range' 3 3).all (gPchkC 204) = true := by decide +kernel
set_option maxRecDepth 1000000 in
theorem gk_204_6 : (List.range' 6 3).all (gPchkC 204) = true := by decide +kernel
set_option maxRecDepth 1000000 in
theorem gk_204_9 : (List.range' 9 3).all (gPchkC 204) = true := by decide +kernel
set_option maxRecDepth 1000000 in
theorem gk_204_12 : (List.range' 12 3).all (gPchkC 204) = true := by decide +kernel
set_option maxRecDepth 1000000 in
theorem gk_204_15 : (List.range' 15 3).all (gPchkC 204) = true := by decide +kernel
set_option maxRecDepth 1000000 in
theorem gk_204_18 : (List.range' 18 3).all (gPchkC 204) = true := by decide +kernel
set_option maxRecDepth 1000000 in
theorem gk_204_21 : (List.range' 21 3).all (gPchkC 204) = true := by decide +kernel
set_option maxRecDepth 1000000 in
theorem gk_204_24 : (List.range' 24 3).all (gPchkC 204) = true := by decide +kernel
set_option maxRecDepth 1000000 in
theorem gk_204_27 : (List.range' 27 3).all (gPchkC 204) = true := by decide +kernel
set_option maxRecDepth 1000000 in
theorem gk_204_30 : (List.range' 30 3).all (gPchkC 204) = true := by decide +kernel
set_option maxRecDepth 1000000 in
theorem gk_204_33 : (List.range' 33 3).all (gPchkC 204) = true := by decide +kernel
set_option maxRecDepth 1000000 in
theorem gk_204_36 : (List.range' 36 3).all (gPchkC 204) = true := by decide +kernel
set_option maxRecDepth 1000000 in
theorem gk_204_39 : (List.range' 39 3).all (gPchkC 204) = true := by decide +kernel
theorem gk_204 : gPchkJ 204 = true := by
  unfold gPchkJ
  rw [show (gProg 204).length = 42 by decide +kernel, show List.range 42 = List.range' 0 3 ++ List.range' 3 3 ++ List.range' 6 3 ++ List.range' 9 3 ++ List.range' 12 3 ++ List.range' 15 3 ++ List.range' 18 3 ++ List.range' 21 3 ++ List.range' 24 3 ++ List.range' 27 3 ++ List.range' 30 3 ++ List.range' 33 3 ++ List.range' 36 3 ++ List.range' 39 3 by decide +kernel]
  simp only [List.all_append, gk_204_0, gk_204_3, gk_204_6, gk_204_9, gk_204_12, gk_204_15, gk_204_18, gk_204_21, gk_204_24, gk_204_27, gk_204_30, gk_204_33, gk_204_36, gk_204_39, Bool.and_self]
set_option maxRecDepth 1000000 in
theorem gk_214_0 : (List.range' 0 3).all (gPchkC 214) = true := by decide +kernel
set_option maxRecDepth 1000000 in
theorem gk_214_3 : (List.range' 3 3).all (gPchkC 214) = true := by decide +kernel
set_option maxRecDepth 1000000 in
theorem gk_214_6 : (List.range' 6 3).all (gPchkC 214) = true := by decide +kernel
set_option maxRecDepth 1000000 in
theorem gk_214_9 : (List.range' 9 1).all (gPchkC 214) = true := by decide +kernel
theorem gk_214 : gPchkJ 214 = true := by
  unfold gPchkJ
  rw [show (gProg 214).length = 10 by decide +kernel, show List.range 10 = List.range' 0 3 ++ List.range' 3 3 ++ List.range' 6 3 ++ List.range' 9 1 by decide +kernel]
  simp only [List.all_append, gk_214_0, gk_214_3, gk_214_6, gk_214_9, Bool.and_self]
set_option maxRecDepth 1000000 in
theorem gk_227_0 : (List.range' 0 3).all (gPchkC 227) = true := by decide +kernel
set_option maxRecDepth 1000000 in
theorem gk_227_3 : (List.range' 3 3).all (gPchkC 227) = true := by decide +kernel
set_option maxRecDepth 1000000 in
theorem gk_227_6 : (List.range' 6 3).all (gPchkC 227) = true := by decide +kernel
set_option maxRecDepth 1000000 in
theorem gk_227_9 : (List.range' 9 3).all (gPchkC 227) = true := by decide +kernel
set_option maxRecDepth 1000000 in
theorem gk_227_12 : (List.range' 12 3).all (gPchkC 227) = true := by decide +kernel
set_option maxRecDepth 1000000 in
theorem gk_227_15 : (List.range' 15 3).all (gPchkC 227) = true := by decide +kernel
set_option maxRecDepth 1000000 in
theorem gk_227_18 : (List.range' 18 2).all (gPchkC 227) = true := by decide +kernel
theorem gk_227 : gPchkJ 227 = true := by
  unfold gPchkJ
  rw [show (gProg 227).length = 20 by decide +kernel, show List.range 20 = List.range' 0 3 ++ List.range' 3 3 ++ List.range' 6 3 ++ List.range' 9 3 ++ List.range' 12 3 ++ List.range' 15 3 ++ List.range' 18 2 by decide +kernel]
  simp only [List.all_append, gk_227_0, gk_227_3, gk_227_6, gk_227_9, gk_227_12, gk_227_15, gk_227_18, Bool.and_self]
set_option maxRecDepth 1000000 in
theorem gk_228_0 : (List.range' 0 3).all (gPchkC 228) = true := by decide +kernel
set_option maxRecDepth 1000000 in
theorem gk_228_3 : (List.range' 3 3).all (gPchkC 228) = true := by decide +kernel
set_option maxRecDepth 1000000 in
theorem gk_228_6 : (List.range' 6 2).all (gPchkC 228) = true := by decide +kernel
theorem gk_228 : gPchkJ 228 = true := by
  unfold gPchkJ
  rw [show (gProg 228).length = 8 by decide +kernel, show List.range 8 = List.range' 0 3 ++ List.range' 3 3 ++ List.range' 6 2 by decide +kernel]
  simp only [List.all_append, gk_228_0, gk_228_3, gk_228_6, Bool.and_self]
set_option maxRecDepth 1000000 in
theorem gk_232_0 : (List.range' 0 3).all (gPchkC 232) = true := by decide +kernel
set_option maxRecDepth 1000000 in
theorem gk_232_3 : (List.range' 3 3).all (gPchkC 232) = true := by decide +kernel
set_option maxRecDepth 1000000 in
theorem gk_232_6 : (List.range' 6 3).all (gPchkC 232) = true := by decide +kernel
set_option maxRecDepth 1000000 in
theorem gk_232_9 : (List.range' 9 1).all (gPchkC 232) = true := by decide +kernel
theorem gk_232 : gPchkJ 232 = true := by
  unfold gPchkJ
  rw [show (gProg 232).length = 10 by decide +kernel, show List.range 10 = List.range' 0 3 ++ List.range' 3 3 ++ List.range' 6 3 ++ List.range' 9 1 by decide +kernel]
  simp only [List.all_append, gk_232_0, gk_232_3, gk_232_6, gk_232_9, Bool.and_self]
set_option maxRecDepth 1000000 in
theorem gk_236_0 : (List.range' 0 3).all (gPchkC 236) = true := by decide +kernel
set_option maxRecDepth 1000000 in
theorem gk_236_3 : (List.range' 3 3).all (gPchkC 236) = true := by decide +kernel
set_option maxRecDepth 1000000 in
theorem gk_236_6 : (List.range' 6 3).all (gPchkC 236) = true := by decide +kernel
theorem gk_236 : gPchkJ 236 = true := by
  unfold gPchkJ
  rw [show (gProg 236).length = 9 by decide +kernel, show List.range 9 = List.range' 0 3 ++ List.range' 3 3 ++ List.range' 6 3 by decide +kernel]
  simp only [List.all_append, gk_236_0, gk_236_3, gk_236_6, Bool.and_self]
set_option maxRecDepth 1000000 in
theorem gk_239_0 : (List.range' 0 3).all (gPchkC 239) = true := by decide +kernel
set_option maxRecDepth 1000000 in
theorem gk_239_3 : (List.range' 3 3).all (gPchkC 239) = true := by decide +kernel
set_option maxRecDepth 1000000 in
theorem gk_239_6 : (List.range' 6 3).all (gPchkC 239) = true := by decide +kernel
theorem gk_239 : gPchkJ 239 = true := by
  unfold gPchkJ
  rw [show (gProg 239).length = 9 by decide +kernel, show List.range 9 = List.range' 0 3 ++ List.range' 3 3 ++ List.range' 6 3 by decide +kernel]
  simp only [List.all_append, gk_239_0, gk_239_3, gk_239_6, Bool.and_self]
set_option maxRecDepth 1000000 in
theorem gk_270_0 : (List.range' 0 3).all (gPchkC 270) = true := by decide +kernel
set_option maxRecDepth 1000000 in
theorem gk_270_3 : (List.range' 3 3).all (gPchkC 270) = true := by decide +kernel
set_option maxRecDepth 1000000 in
theorem gk_270_6 : (List.range' 6 1).all (gPchkC 270) = true := by decide +kernel
