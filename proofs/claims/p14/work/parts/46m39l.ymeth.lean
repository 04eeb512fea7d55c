/-! CONTRACTS of methods (printed by wip/gen/emit.py). -/
/- MixStageModel.tellLay (I)V -/
noncomputable def s_228 : vM := ([(3, 12, 285, 0), (0, 0, 1007, 0)], (9, 0, 0, 0), 1, 0, [(12, 11), (12, 13), (12, 14), (12, 15), (12, 16), (228, 0), (236, 0), (244, 0), (252, 0), (260, 0), (268, 0)])
def preb_228 (a0 a1 : Int) (h : gH) : Prop := PA h ∧ hV h 285 32 = hV h 285 18 ∧ hV h 285 18 ≤ 7 ∧ 7 * hV h 285 32 + hV h 294 ((hV h 285 32).toNat) ≤ hV h 285 33 ∧ hV h 285 33 ≤ 7 * hV h 285 32 + 6 ∧ (hV h 285 13 = 0 → hV h 285 15 = 0 → PW h) ∧ 16 * hV h 285 33 + hV h 296 ((hV h 285 33).toNat) ≤ a1 ∧ PQ h
def pre_228 : List Int → gH → Prop := fun xs h => match xs with
  | [a0, a1] => preb_228 a0 a1 h
  | _ => False
def postb_228 (a0 a1 : Int) (h0 h : gH) : Prop := PA h ∧ (hV h 285 13 = 0 → hV h 285 15 = 0 → PW h) ∧ hV h0 285 11 ≤ hV h 285 11 ∧ hV h0 285 11 + 1 ≤ hV h 285 11 + hV h 285 13 ∧ hV h0 285 13 ≤ hV h 285 13 ∧ hV h0 285 15 ≤ 6 * hV h 285 15 ∧ hV h0 285 15 ≤ 6 ∧ 0 ≤ hV h 300 ((a1).toNat) ∧ hV h 300 ((a1).toNat) ≤ 19 + 9999 * (hV h 285 13 + hV h 285 15) ∧ hV h 300 ((a1).toNat) ≤ 9999 ∧ hV h 301 ((a1).toNat) ≤ 7 + 9999 * (hV h 285 13 + hV h 285 15) ∧ hV h 301 ((a1).toNat) ≤ 9999 ∧ 1 - 9999 * (hV h 285 13 + hV h 285 15) ≤ hV h 305 ((6 * a1 + 4).toNat) ∧ 0 ≤ hV h 305 ((6 * a1 + 4).toNat) ∧ 0 ≤ hV h 305 ((6 * a1 + 5).toNat) ∧ hV h 305 ((6 * a1 + 5).toNat) ≤ 2 + 9999 * (hV h 285 13 + hV h 285 15)
def post_228 : List Int → gH → gH → Prop := fun xs h0 h => match xs with
  | [a0, a1] => postb_228 a0 a1 h0 h
  | _ => True
noncomputable def e_228 : vE := (228, s_228, pre_228, post_228)
noncomputable def L_228 : List vE := [e_216, e_219, e_220, e_223, e_229]
def cs_228 : List vC := [(113, [(0, (3, 12, 285, 0)), (1, (0, 0, 1007, 0))]), (144, [(0, (3, 12, 285, 0)), (1, (0, 0, 1007, 0))]), (176, [(0, (3, 12, 285, 0)), (1, (0, 0, 1007, 0))]), (231, [(0, (3, 12, 285, 0)), (1, (0, 0, 1007, 0))])]
def Ab_228_113 (a0 a1 x0 x1 : Int) (h0 h : gH) : Prop := x1 = a1 ∧ PA h ∧ (hV h 285 13 = 0 → hV h 285 15 = 0 → PW h) ∧ hV h0 285 11 ≤ hV h 285 11 ∧ hV h0 285 11 + 1 ≤ hV h 285 11 + hV h 285 13 ∧ hV h0 285 13 ≤ hV h 285 13 ∧ hV h0 285 15 ≤ 6 * hV h 285 15 ∧ hV h0 285 15 ≤ 6 ∧ 0 ≤ hV h 300 ((a1).toNat) ∧ hV h 300 ((a1).toNat) ≤ 19 + 9999 * (hV h 285 13 + hV h 285 15) ∧ hV h 300 ((a1).toNat) ≤ 9999 ∧ hV h 301 ((a1).toNat) ≤ 7 + 9999 * (hV h 285 13 + hV h 285 15) ∧ hV h 301 ((a1).toNat) ≤ 9999 ∧ 1 - 9999 * (hV h 285 13 + hV h 285 15) ≤ hV h 305 ((6 * a1 + 4).toNat) ∧ 0 ≤ hV h 305 ((6 * a1 + 4).toNat)
def mub_228_113 (a0 a1 x0 x1 : Int) (h0 h : gH) : Nat := 4
def Ab_228_144 (a0 a1 x0 x1 : Int) (h0 h : gH) : Prop := x1 = a1 ∧ PA h ∧ (hV h 285 13 = 0 → hV h 285 15 = 0 → PW h) ∧ hV h0 285 11 ≤ hV h 285 11 ∧ hV h0 285 11 + 1 ≤ hV h 285 11 + hV h 285 13 ∧ hV h0 285 13 ≤ hV h 285 13 ∧ hV h0 285 15 ≤ 6 * hV h 285 15 ∧ hV h0 285 15 ≤ 6 ∧ 0 ≤ hV h 300 ((a1).toNat) ∧ hV h 300 ((a1).toNat) ≤ 19 + 9999 * (hV h 285 13 + hV h 285 15) ∧ hV h 300 ((a1).toNat) ≤ 9999 ∧ hV h 301 ((a1).toNat) ≤ 7 + 9999 * (hV h 285 13 + hV h 285 15) ∧ hV h 301 ((a1).toNat) ≤ 9999 ∧ 1 - 9999 * (hV h 285 13 + hV h 285 15) ≤ hV h 305 ((6 * a1 + 4).toNat) ∧ 0 ≤ hV h 305 ((6 * a1 + 4).toNat)
def mub_228_144 (a0 a1 x0 x1 : Int) (h0 h : gH) : Nat := 3
def Ab_228_176 (a0 a1 x0 x1 : Int) (h0 h : gH) : Prop := x1 = a1 ∧ PA h ∧ (hV h 285 13 = 0 → hV h 285 15 = 0 → PW h) ∧ hV h0 285 11 ≤ hV h 285 11 ∧ hV h0 285 11 + 1 ≤ hV h 285 11 + hV h 285 13 ∧ hV h0 285 13 ≤ hV h 285 13 ∧ hV h0 285 15 ≤ 6 * hV h 285 15 ∧ hV h0 285 15 ≤ 6 ∧ 0 ≤ hV h 300 ((a1).toNat) ∧ hV h 300 ((a1).toNat) ≤ 19 + 9999 * (hV h 285 13 + hV h 285 15) ∧ hV h 300 ((a1).toNat) ≤ 9999 ∧ hV h 301 ((a1).toNat) ≤ 7 + 9999 * (hV h 285 13 + hV h 285 15) ∧ hV h 301 ((a1).toNat) ≤ 9999 ∧ 1 - 9999 * (hV h 285 13 + hV h 285 15) ≤ hV h 305 ((6 * a1 + 4).toNat) ∧ 0 ≤ hV h 305 ((6 * a1 + 4).toNat)
def mub_228_176 (a0 a1 x0 x1 : Int) (h0 h : gH) : Nat := 2
def Ab_228_231 (a0 a1 x0 x1 : Int) (h0 h : gH) : Prop := x1 = a1 ∧ PA h ∧ (hV h 285 13 = 0 → hV h 285 15 = 0 → PW h) ∧ hV h0 285 11 ≤ hV h 285 11 ∧ hV h0 285 11 + 1 ≤ hV h 285 11 + hV h 285 13 ∧ hV h0 285 13 ≤ hV h 285 13 ∧ hV h0 285 15 ≤ 6 * hV h 285 15 ∧ hV h0 285 15 ≤ 6 ∧ 0 ≤ hV h 300 ((a1).toNat) ∧ hV h 300 ((a1).toNat) ≤ 19 + 9999 * (hV h 285 13 + hV h 285 15) ∧ hV h 300 ((a1).toNat) ≤ 9999 ∧ hV h 301 ((a1).toNat) ≤ 7 + 9999 * (hV h 285 13 + hV h 285 15) ∧ hV h 301 ((a1).toNat) ≤ 9999 ∧ 1 - 9999 * (hV h 285 13 + hV h 285 15) ≤ hV h 305 ((6 * a1 + 4).toNat) ∧ 0 ≤ hV h 305 ((6 * a1 + 4).toNat)
def mub_228_231 (a0 a1 x0 x1 : Int) (h0 h : gH) : Nat := 1
def A_228 : Int → List Int → gH → gH → Prop := fun c xs h0 h => match c.toNat with
  | 113 => (match xs with
    | [a0, a1, x0, x1] => Ab_228_113 a0 a1 x0 x1 h0 h
    | _ => False)
  | 144 => (match xs with
    | [a0, a1, x0, x1] => Ab_228_144 a0 a1 x0 x1 h0 h
    | _ => False)
  | 176 => (match xs with
    | [a0, a1, x0, x1] => Ab_228_176 a0 a1 x0 x1 h0 h
    | _ => False)
  | 231 => (match xs with
    | [a0, a1, x0, x1] => Ab_228_231 a0 a1 x0 x1 h0 h
    | _ => False)
  | _ => True
def mu_228 : Int → List Int → gH → gH → Nat := fun c xs h0 h => match c.toNat with
  | 113 => 4
  | 144 => 3
  | 176 => 2
  | 231 => 1
  | _ => 0
set_option maxHeartbeats 20000000 in
theorem q_228_0 {n0 n1 n2 n3 n4 n5 n6 n7 : Int} {H0 H1 H2 H3 : gH} (f0 : n0 ≤ 1007) (f1 : 0 ≤ n0) (f2 : n1 = 285) (f3 : hWt T0 H0 ∧ preb_228 n1 n0 H0) (f4 : n2 = 300) (f5 : n2 = hV H0 (n1).toNat 26) (f6 : n3 = 0) (f7 : n4 = 19) (f8 : n5 ≤ 9999) (f9 : 0 ≤ n5) (f10 : (hLe T0 H0 H1 ∧ hFr s_223.2.2.2.2 H0 H1 ∧ ((0 : Int) = 0 → H1.length = H0.length) ∧ hWt T0 H1) ∧ postb_223 n5 n1 n3 n4 H0 H1) (f11 : hUpd H2 H1 n2 n0 n5) (f12 : n6 = 25) (f13 : (hLe T0 H2 H3 ∧ hFr s_220.2.2.2.2 H2 H3 ∧ ((0 : Int) = 0 → H3.length = H2.length) ∧ hWt T0 H3) ∧ postb_220 n1 n6 H2 H3) (f14 : n7 = 0) : preb_229 n1 n0 n7 H3 := by
  unfold preb_228 at f3
  unfold postb_223 at f10
  unfold postb_220 at f13
  unfold preb_229
  have e1 : hV H2 285 11 = hV H1 285 11 := uPlace f11 _ _ (iS (show n2 = ((300 : Nat) : Int) from f4) rfl)
  have e2 : hV H2 285 11 = hV H1 285 11 := e1
  have e3 : hV H2 285 13 = hV H1 285 13 := uPlace f11 _ _ (iS (show n2 = ((300 : Nat) : Int) from f4) rfl)
  have e4 : hV H2 285 13 = hV H1 285 13 := e3
  have e5 : hV H3 285 15 = hV H2 285 15 := f13.1.2.1.1 285 15 kF_220_285_15
  have e6 : hV H2 285 15 = hV H1 285 15 := uPlace f11 _ _ (iS (show n2 = ((300 : Nat) : Int) from f4) rfl)
  have e7 : hV H3 285 15 = hV H1 285 15 := (e5).trans e6
  have e8 : hV H3 285 18 = hV H2 285 18 := f13.1.2.1.1 285 18 kF_220_285_18
  have e9 : hV H2 285 18 = hV H1 285 18 := uPlace f11 _ _ (iS (show n2 = ((300 : Nat) : Int) from f4) rfl)
  have e10 : hV H1 285 18 = hV H0 285 18 := f10.1.2.1.1 285 18 kF_223_285_18
  have e11 : hV H3 285 18 = hV H0 285 18 := (e8).trans ((e9).trans e10)
  have e12 : hV H3 285 32 = hV H2 285 32 := f13.1.2.1.1 285 32 kF_220_285_32
  have e13 : hV H2 285 32 = hV H1 285 32 := uPlace f11 _ _ (iS (show n2 = ((300 : Nat) : Int) from f4) rfl)
  have e14 : hV H1 285 32 = hV H0 285 32 := f10.1.2.1.1 285 32 kF_223_285_32
  have e15 : hV H3 285 32 = hV H0 285 32 := (e12).trans ((e13).trans e14)
  have e16 : hV H3 285 33 = hV H2 285 33 := f13.1.2.1.1 285 33 kF_220_285_33
  have e17 : hV H2 285 33 = hV H1 285 33 := uPlace f11 _ _ (iS (show n2 = ((300 : Nat) : Int) from f4) rfl)
  have e18 : hV H1 285 33 = hV H0 285 33 := f10.1.2.1.1 285 33 kF_223_285_33
  have e19 : hV H3 285 33 = hV H0 285 33 := (e16).trans ((e17).trans e18)
  have e20 : hV H3 285 64 = hV H2 285 64 := f13.1.2.1.1 285 64 kF_220_285_64
  have e21 : hV H2 285 64 = hV H1 285 64 := uPlace f11 _ _ (iS (show n2 = ((300 : Nat) : Int) from f4) rfl)
  have e22 : hV H1 285 64 = hV H0 285 64 := f10.1.2.1.1 285 64 kF_223_285_64
  have e23 : hV H3 285 64 = hV H0 285 64 := (e20).trans ((e21).trans e22)
  have e28 : hV H3 294 = hV H2 294 := fRow f13.1.2.1 294 kR_220_294
  have e29 : hV H2 294 = hV H1 294 := uRowNe f11 _ (iS (show n2 = ((300 : Nat) : Int) from f4) rfl)
  have e30 : hV H1 294 = hV H0 294 := fRow f10.1.2.1 294 kR_223_294
  have e31 : hV H2 294 = hV H0 294 := e29.trans e30
  have e32 : hV H3 294 = hV H0 294 := e28.trans e31
  have e33 : hV H3 296 = hV H2 296 := fRow f13.1.2.1 296 kR_220_296
  have e34 : hV H2 296 = hV H1 296 := uRowNe f11 _ (iS (show n2 = ((300 : Nat) : Int) from f4) rfl)
  have e35 : hV H1 296 = hV H0 296 := fRow f10.1.2.1 296 kR_223_296
  have e36 : hV H2 296 = hV H0 296 := e34.trans e35
  have e37 : hV H3 296 = hV H0 296 := e33.trans e36
  have e38 : hV H3 297 = hV H2 297 := fRow f13.1.2.1 297 kR_220_297
  have e39 : hV H2 297 = hV H1 297 := uRowNe f11 _ (iS (show n2 = ((300 : Nat) : Int) from f4) rfl)
  have e40 : hV H1 297 = hV H0 297 := fRow f10.1.2.1 297 kR_223_297
  have e41 : hV H2 297 = hV H0 297 := e39.trans e40
  have e42 : hV H3 297 = hV H0 297 := e38.trans e41
  have e43 : hV H3 298 = hV H2 298 := fRow f13.1.2.1 298 kR_220_298
  have e44 : hV H2 298 = hV H1 298 := uRowNe f11 _ (iS (show n2 = ((300 : Nat) : Int) from f4) rfl)
  have e45 : hV H1 298 = hV H0 298 := fRow f10.1.2.1 298 kR_223_298
  have e46 : hV H2 298 = hV H0 298 := e44.trans e45
  have e47 : hV H3 298 = hV H0 298 := e43.trans e46
  have e48 : hV H3 300 = hV H2 300 := fRow f13.1.2.1 300 kR_220_300
  have e49 : hV H2 300 = uF (hV H1 300) n0 n5 := uRow f11 _ f4.symm
  have e50 : hV H1 300 = hV H0 300 := fRow f10.1.2.1 300 kR_223_300
  have e51 : hV H2 300 = (uF (hV H0 300) n0 n5) := e49.trans (congrArg (fun z => uF z n0 n5) e50)
  have e52 : hV H3 300 = (uF (hV H0 300) n0 n5) := e48.trans e51
  have e53 : hV H3 301 = hV H2 301 := fRow f13.1.2.1 301 kR_220_301
  have e54 : hV H2 301 = hV H1 301 := uRowNe f11 _ (iS (show n2 = ((300 : Nat) : Int) from f4) rfl)
  have e55 : hV H1 301 = hV H0 301 := fRow f10.1.2.1 301 kR_223_301
  have e56 : hV H2 301 = hV H0 301 := e54.trans e55
  have e57 : hV H3 301 = hV H0 301 := e53.trans e56
  have e58 : hV H3 302 = hV H2 302 := fRow f13.1.2.1 302 kR_220_302
  have e59 : hV H2 302 = hV H1 302 := uRowNe f11 _ (iS (show n2 = ((300 : Nat) : Int) from f4) rfl)
  have e60 : hV H1 302 = hV H0 302 := fRow f10.1.2.1 302 kR_223_302
  have e61 : hV H2 302 = hV H0 302 := e59.trans e60
  have e62 : hV H3 302 = hV H0 302 := e58.trans e61
  have e63 : hV H3 303 = hV H2 303 := fRow f13.1.2.1 303 kR_220_303
  have e64 : hV H2 303 = hV H1 303 := uRowNe f11 _ (iS (show n2 = ((300 : Nat) : Int) from f4) rfl)
  have e65 : hV H1 303 = hV H0 303 := fRow f10.1.2.1 303 kR_223_303
  have e66 : hV H2 303 = hV H0 303 := e64.trans e65
  have e67 : hV H3 303 = hV H0 303 := e63.trans e66
  have e68 : hV H3 305 = hV H2 305 := fRow f13.1.2.1 305 kR_220_305
  have e69 : hV H2 305 = hV H1 305 := uRowNe f11 _ (iS (show n2 = ((300 : Nat) : Int) from f4) rfl)
  have e70 : hV H1 305 = hV H0 305 := fRow f10.1.2.1 305 kR_223_305
  have e71 : hV H2 305 = hV H0 305 := e69.trans e70
  have e72 : hV H3 305 = hV H0 305 := e68.trans e71
  have e73 : hV H3 328 = hV H2 328 := fRow f13.1.2.1 328 kR_220_328
  have e74 : hV H2 328 = hV H1 328 := uRowNe f11 _ (iS (show n2 = ((300 : Nat) : Int) from f4) rfl)
  have e75 : hV H1 328 = hV H0 328 := fRow f10.1.2.1 328 kR_223_328
  have e76 : hV H2 328 = hV H0 328 := e74.trans e75
  have e77 : hV H3 328 = hV H0 328 := e73.trans e76
  have e78 : hV H3 332 = hV H2 332 := fRow f13.1.2.1 332 kR_220_332
  have e79 : hV H2 332 = hV H1 332 := uRowNe f11 _ (iS (show n2 = ((300 : Nat) : Int) from f4) rfl)
  have e80 : hV H1 332 = hV H0 332 := fRow f10.1.2.1 332 kR_223_332
  have e81 : hV H2 332 = hV H0 332 := e79.trans e80
  have e82 : hV H3 332 = hV H0 332 := e78.trans e81
  have e83 : hV H3 335 = hV H2 335 := fRow f13.1.2.1 335 kR_220_335
  have e84 : hV H2 335 = hV H1 335 := uRowNe f11 _ (iS (show n2 = ((300 : Nat) : Int) from f4) rfl)
  have e85 : hV H1 335 = hV H0 335 := fRow f10.1.2.1 335 kR_223_335
  have e86 : hV H2 335 = hV H0 335 := e84.trans e85
  have e87 : hV H3 335 = hV H0 335 := e83.trans e86
  have e88 : PQ H1 = PQ H0 := PQ_fr f10.1.2.1 (by decide +kernel)
  have e89 : PQ H2 = PQ H1 := PQ_upR f11 (show n2 = ((300 : Nat) : Int) from f4) (by decide)
  have e90 : PQ H2 = PQ H0 := e89.trans e88
  have e91 : PQ H3 = PQ H2 := PQ_fr f13.1.2.1 (by decide +kernel)
  have e92 : PQ H3 = PQ H0 := e91.trans e90
  have e93 : (0 : Int) ≤ hV H0 285 11 ∧ hV H0 285 11 ≤ 500 := f3.1 285 11 _ _ kW_285_11
  have e94 : (0 : Int) ≤ hV H0 285 13 ∧ hV H0 285 13 ≤ 2 := f3.1 285 13 _ _ kW_285_13
  have e95 : (0 : Int) ≤ hV H0 285 15 ∧ hV H0 285 15 ≤ 6 := f3.1 285 15 _ _ kW_285_15
  have e96 : (0 : Int) ≤ hV H0 285 18 ∧ hV H0 285 18 ≤ 8 := f3.1 285 18 _ _ kW_285_18
  have e97 : (0 : Int) ≤ hV H0 285 32 ∧ hV H0 285 32 ≤ 7 := f3.1 285 32 _ _ kW_285_32
  have e98 : (0 : Int) ≤ hV H0 285 33 ∧ hV H0 285 33 ≤ 62 := f3.1 285 33 _ _ kW_285_33
  have e99 : (0 : Int) ≤ hV H0 285 64 ∧ hV H0 285 64 ≤ 20 := f3.1 285 64 _ _ kW_285_64
  have e100 : (0 : Int) ≤ hV H1 285 11 ∧ hV H1 285 11 ≤ 500 := f10.1.2.2.2 285 11 _ _ kW_285_11
  have e101 : (0 : Int) ≤ hV H1 285 13 ∧ hV H1 285 13 ≤ 2 := f10.1.2.2.2 285 13 _ _ kW_285_13
  have e102 : (0 : Int) ≤ hV H1 285 15 ∧ hV H1 285 15 ≤ 6 := f10.1.2.2.2 285 15 _ _ kW_285_15
  have e103 : (0 : Int) ≤ hV H3 285 11 ∧ hV H3 285 11 ≤ 500 := f13.1.2.2.2 285 11 _ _ kW_285_11
  have e104 : (0 : Int) ≤ hV H3 285 13 ∧ hV H3 285 13 ≤ 2 := f13.1.2.2.2 285 13 _ _ kW_285_13
  have e105 : (0 : Int) ≤ hV H3 285 15 ∧ hV H3 285 15 ≤ 6 := f13.1.2.2.2 285 15 _ _ kW_285_15
  have e106 : (0 : Int) ≤ hV H3 285 18 ∧ hV H3 285 18 ≤ 8 := f13.1.2.2.2 285 18 _ _ kW_285_18
  have e107 : (0 : Int) ≤ hV H3 285 32 ∧ hV H3 285 32 ≤ 7 := f13.1.2.2.2 285 32 _ _ kW_285_32
  have e108 : (0 : Int) ≤ hV H3 285 33 ∧ hV H3 285 33 ≤ 62 := f13.1.2.2.2 285 33 _ _ kW_285_33
  have e109 : (0 : Int) ≤ hV H3 285 64 ∧ hV H3 285 64 ≤ 20 := f13.1.2.2.2 285 64 _ _ kW_285_64
  try simp only [PA, PW]
  try simp only [e7] at e105
  try simp only [e11] at e106
  try simp only [e15] at e107
  try simp only [e19] at e108
  try simp only [e23] at e109
  try simp only [e7, e11, e15, e19, e23, e32, e37, e42, e47, e52, e57, e62, e67, e72, e77, e82, e87, e92]
  have p0 := f3.2.1
  have p1 := f3.2.2.1
  have p2 := f3.2.2.2.1
  have p3 := f3.2.2.2.2.1
  have p4 := f3.2.2.2.2.2.1
  have p5 := f3.2.2.2.2.2.2.1
  have p6 := f3.2.2.2.2.2.2.2.1
  have p7 := f3.2.2.2.2.2.2.2.2
  have r0_0 := f10.2.1
  have r0_1 := f10.2.2.1
  have r0_2 := f10.2.2.2.1
  have r0_3 := f10.2.2.2.2.1
  have r0_4 := f10.2.2.2.2.2.1
  have r0_5 := f10.2.2.2.2.2.2.1
  have r0_6 := f10.2.2.2.2.2.2.2.1
  have r1_0 := f13.2.1
  have r1_1 := f13.2.2.1
  have r1_2 := f13.2.2.2.1
  have r1_3 := f13.2.2.2.2.1
  try simp only [PA] at p0
  try simp only [PW] at p5
  try simp only [e2] at r1_0
  try simp only [e2] at r1_1
  try simp only [e4] at r1_2
  try simp only [e2] at r1_3
  have wb0 := (p7 (hV H0 285 32).toNat).1
  have wp0 := (p7 (hV H0 285 33).toNat).2
  clear f5 e1 e2 e3 e4 e5 e6 e7 e8 e9 e10 e11 e12 e13 e14 e15 e16 e17 e18 e19 e20 e21 e22 e23 e28 e29 e30 e31 e32 e33 e34 e35 e36 e37 e38 e39 e40 e41 e42 e43 e44 e45 e46 e47 e48 e50 e51 e52 e53 e54 e55 e56 e57 e58 e59 e60 e61 e62 e63 e64 e65 e66 e67 e68 e69 e70 e71 e72 e73 e74 e75 e76 e77 e78 e79 e80 e81 e82 e83 e84 e85 e86 e87 e88 e89 e90 e91 e92
  clear f3 f10 f13

  refine ⟨?_, ?_, ?_, ?_, ?_, ?_, ?_, ?_⟩
  · refine PA_cw ?_ (by omega)
    exact p0
  · (try clear p0 p5 p7)
    first | exact True.intro | omega
  · (try clear p0 p5 p7)
    first | exact True.intro | omega
  · (try clear p0 p5 p7)
    first | exact True.intro | omega
  · (try clear p0 p5 p7)
    first | exact True.intro | omega
  · intro z1 z2
    refine PW_cw ?_ (by omega) (by omega) (by omega) (by omega)
    exact p5 (by omega) (by omega)
  · (try clear p0 p5 p7)
    first | exact True.intro | omega
  · exact p7

def g_228_s_0 : vG := ([(0, [7], [], 0), (1220, [0, 6], [2, 3], 0), (0, [6], [], 25), (80, [2, 1, 5], [2, 1], 0), (1223, [5, 0, 3, 4], [0, 1], 0), (90, [5], [], 0), (91, [5], [], 9999), (0, [4], [], 19), (0, [3], [], 0), (20, [2, 0], [0], 26), (0, [2], [], 300), (6000, [0, 1], [0], 0), (0, [0], [], 285), (90, [1], [], 0), (91, [1], [], 1007)], (2229, [0, 1, 7], [3], 0))
theorem c_228_s_0 : vOkm T0 (eP e_228 L_228 A_228 mu_228 none) 2 g_228_s_0 := vOk_inI fun ρ η f0 f1 f2 f3 f4 f5 f6 f7 f8 f9 f10 f11 f12 f13 f14 => q_228_0 (n0 := ρ 1) (n1 := ρ 0) (n2 := ρ 2) (n3 := ρ 3) (n4 := ρ 4) (n5 := ρ 5) (n6 := ρ 6) (n7 := ρ 7) (H0 := η 0) (H1 := η 1) (H2 := η 2) (H3 := η 3) f14 f13 f12 f11 f10 f9 f8 f7 f6 f5 f4 f3 f2 f1 f0
set_option maxHeartbeats 20000000 in
theorem q_228_1 {n0 n1 n2 n3 n4 n5 n6 n7 n8 n9 : Int} {H0 H1 H2 H3 H4 : gH} (f0 : n0 ≤ 1007) (f1 : 0 ≤ n0) (f2 : n1 = 285) (f3 : hWt T0 H0 ∧ preb_228 n1 n0 H0) (f4 : n2 = 300) (f5 : n2 = hV H0 (n1).toNat 26) (f6 : n3 = 0) (f7 : n4 = 19) (f8 : n5 ≤ 9999) (f9 : 0 ≤ n5) (f10 : (hLe T0 H0 H1 ∧ hFr s_223.2.2.2.2 H0 H1 ∧ ((0 : Int) = 0 → H1.length = H0.length) ∧ hWt T0 H1) ∧ postb_223 n5 n1 n3 n4 H0 H1) (f11 : hUpd H2 H1 n2 n0 n5) (f12 : n6 = 25) (f13 : (hLe T0 H2 H3 ∧ hFr s_220.2.2.2.2 H2 H3 ∧ ((0 : Int) = 0 → H3.length = H2.length) ∧ hWt T0 H3) ∧ postb_220 n1 n6 H2 H3) (f14 : n7 = 0) (f15 : (hLe T0 H3 H4 ∧ hFr s_229.2.2.2.2 H3 H4 ∧ ((0 : Int) = 0 → H4.length = H3.length) ∧ hWt T0 H4) ∧ postb_229 n1 n0 n7 H3 H4) (f16 : n8 = 6) (f17 : n9 = w32 (n8 * n0)) : 0 ≤ n9 ∧ n9 < 6048 := by
  unfold preb_228 at f3
  unfold postb_223 at f10
  unfold postb_220 at f13
  unfold postb_229 at f15
  have e0 : hV H1 288 = hV H0 288 := fRow f10.1.2.1 288 kR_223_288
  have e1 : hV H2 285 11 = hV H1 285 11 := uPlace f11 _ _ (iS (show n2 = ((300 : Nat) : Int) from f4) rfl)
  have e2 : hV H2 285 11 = hV H1 285 11 := e1
  have e3 : hV H2 285 13 = hV H1 285 13 := uPlace f11 _ _ (iS (show n2 = ((300 : Nat) : Int) from f4) rfl)
  have e4 : hV H2 285 13 = hV H1 285 13 := e3
  have e5 : hV H3 285 15 = hV H2 285 15 := f13.1.2.1.1 285 15 kF_220_285_15
  have e6 : hV H2 285 15 = hV H1 285 15 := uPlace f11 _ _ (iS (show n2 = ((300 : Nat) : Int) from f4) rfl)
  have e7 : hV H3 285 15 = hV H1 285 15 := (e5).trans e6
  have e8 : hV H3 288 = hV H2 288 := fRow f13.1.2.1 288 kR_220_288
  have e9 : hV H2 288 = hV H1 288 := uRowNe f11 _ (iS (show n2 = ((300 : Nat) : Int) from f4) rfl)
  have e10 : hV H2 288 = hV H0 288 := e9.trans e0
  have e11 : hV H3 288 = hV H0 288 := e8.trans e10
  have e12 : hV H3 301 = hV H2 301 := fRow f13.1.2.1 301 kR_220_301
  have e13 : hV H2 301 = hV H1 301 := uRowNe f11 _ (iS (show n2 = ((300 : Nat) : Int) from f4) rfl)
  have e14 : hV H1 301 = hV H0 301 := fRow f10.1.2.1 301 kR_223_301
  have e15 : hV H2 301 = hV H0 301 := e13.trans e14
  have e16 : hV H3 301 = hV H0 301 := e12.trans e15
  have e17 : hV H3 302 = hV H2 302 := fRow f13.1.2.1 302 kR_220_302
  have e18 : hV H2 302 = hV H1 302 := uRowNe f11 _ (iS (show n2 = ((300 : Nat) : Int) from f4) rfl)
  have e19 : hV H1 302 = hV H0 302 := fRow f10.1.2.1 302 kR_223_302
  have e20 : hV H2 302 = hV H0 302 := e18.trans e19
  have e21 : hV H3 302 = hV H0 302 := e17.trans e20
  have e22 : hV H3 303 = hV H2 303 := fRow f13.1.2.1 303 kR_220_303
  have e23 : hV H2 303 = hV H1 303 := uRowNe f11 _ (iS (show n2 = ((300 : Nat) : Int) from f4) rfl)
  have e24 : hV H1 303 = hV H0 303 := fRow f10.1.2.1 303 kR_223_303
  have e25 : hV H2 303 = hV H0 303 := e23.trans e24
  have e26 : hV H3 303 = hV H0 303 := e22.trans e25
  have e27 : hV H4 285 18 = hV H3 285 18 := f15.1.2.1.1 285 18 kF_229_285_18
  have e28 : hV H3 285 18 = hV H2 285 18 := f13.1.2.1.1 285 18 kF_220_285_18
  have e29 : hV H2 285 18 = hV H1 285 18 := uPlace f11 _ _ (iS (show n2 = ((300 : Nat) : Int) from f4) rfl)
  have e30 : hV H1 285 18 = hV H0 285 18 := f10.1.2.1.1 285 18 kF_223_285_18
  have e31 : hV H4 285 18 = hV H0 285 18 := (e27).trans ((e28).trans ((e29).trans e30))
  have e32 : hV H4 285 32 = hV H3 285 32 := f15.1.2.1.1 285 32 kF_229_285_32
  have e33 : hV H3 285 32 = hV H2 285 32 := f13.1.2.1.1 285 32 kF_220_285_32
  have e34 : hV H2 285 32 = hV H1 285 32 := uPlace f11 _ _ (iS (show n2 = ((300 : Nat) : Int) from f4) rfl)
  have e35 : hV H1 285 32 = hV H0 285 32 := f10.1.2.1.1 285 32 kF_223_285_32
  have e36 : hV H4 285 32 = hV H0 285 32 := (e32).trans ((e33).trans ((e34).trans e35))
  have e37 : hV H4 285 33 = hV H3 285 33 := f15.1.2.1.1 285 33 kF_229_285_33
  have e38 : hV H3 285 33 = hV H2 285 33 := f13.1.2.1.1 285 33 kF_220_285_33
  have e39 : hV H2 285 33 = hV H1 285 33 := uPlace f11 _ _ (iS (show n2 = ((300 : Nat) : Int) from f4) rfl)
  have e40 : hV H1 285 33 = hV H0 285 33 := f10.1.2.1.1 285 33 kF_223_285_33
  have e41 : hV H4 285 33 = hV H0 285 33 := (e37).trans ((e38).trans ((e39).trans e40))
  have e42 : hV H4 285 64 = hV H3 285 64 := f15.1.2.1.1 285 64 kF_229_285_64
  have e43 : hV H3 285 64 = hV H2 285 64 := f13.1.2.1.1 285 64 kF_220_285_64
  have e44 : hV H2 285 64 = hV H1 285 64 := uPlace f11 _ _ (iS (show n2 = ((300 : Nat) : Int) from f4) rfl)
  have e45 : hV H1 285 64 = hV H0 285 64 := f10.1.2.1.1 285 64 kF_223_285_64
  have e46 : hV H4 285 64 = hV H0 285 64 := (e42).trans ((e43).trans ((e44).trans e45))
  have e47 : hV H4 294 = hV H3 294 := fRow f15.1.2.1 294 kR_229_294
  have e48 : hV H3 294 = hV H2 294 := fRow f13.1.2.1 294 kR_220_294
  have e49 : hV H2 294 = hV H1 294 := uRowNe f11 _ (iS (show n2 = ((300 : Nat) : Int) from f4) rfl)
  have e50 : hV H1 294 = hV H0 294 := fRow f10.1.2.1 294 kR_223_294
  have e51 : hV H2 294 = hV H0 294 := e49.trans e50
  have e52 : hV H3 294 = hV H0 294 := e48.trans e51
  have e53 : hV H4 294 = hV H0 294 := e47.trans e52
  have e54 : hV H4 296 = hV H3 296 := fRow f15.1.2.1 296 kR_229_296
  have e55 : hV H3 296 = hV H2 296 := fRow f13.1.2.1 296 kR_220_296
  have e56 : hV H2 296 = hV H1 296 := uRowNe f11 _ (iS (show n2 = ((300 : Nat) : Int) from f4) rfl)
  have e57 : hV H1 296 = hV H0 296 := fRow f10.1.2.1 296 kR_223_296
  have e58 : hV H2 296 = hV H0 296 := e56.trans e57
  have e59 : hV H3 296 = hV H0 296 := e55.trans e58
  have e60 : hV H4 296 = hV H0 296 := e54.trans e59
  have e61 : hV H4 297 = hV H3 297 := fRow f15.1.2.1 297 kR_229_297
  have e62 : hV H3 297 = hV H2 297 := fRow f13.1.2.1 297 kR_220_297
  have e63 : hV H2 297 = hV H1 297 := uRowNe f11 _ (iS (show n2 = ((300 : Nat) : Int) from f4) rfl)
  have e64 : hV H1 297 = hV H0 297 := fRow f10.1.2.1 297 kR_223_297
  have e65 : hV H2 297 = hV H0 297 := e63.trans e64
  have e66 : hV H3 297 = hV H0 297 := e62.trans e65
  have e67 : hV H4 297 = hV H0 297 := e61.trans e66
  have e68 : hV H4 298 = hV H3 298 := fRow f15.1.2.1 298 kR_229_298
  have e69 : hV H3 298 = hV H2 298 := fRow f13.1.2.1 298 kR_220_298
  have e70 : hV H2 298 = hV H1 298 := uRowNe f11 _ (iS (show n2 = ((300 : Nat) : Int) from f4) rfl)
  have e71 : hV H1 298 = hV H0 298 := fRow f10.1.2.1 298 kR_223_298
  have e72 : hV H2 298 = hV H0 298 := e70.trans e71
  have e73 : hV H3 298 = hV H0 298 := e69.trans e72
  have e74 : hV H4 298 = hV H0 298 := e68.trans e73
  have e75 : hV H4 300 = hV H3 300 := fRow f15.1.2.1 300 kR_229_300
  have e76 : hV H3 300 = hV H2 300 := fRow f13.1.2.1 300 kR_220_300
  have e77 : hV H2 300 = uF (hV H1 300) n0 n5 := uRow f11 _ f4.symm
  have e78 : hV H1 300 = hV H0 300 := fRow f10.1.2.1 300 kR_223_300
  have e79 : hV H2 300 = (uF (hV H0 300) n0 n5) := e77.trans (congrArg (fun z => uF z n0 n5) e78)
  have e80 : hV H3 300 = (uF (hV H0 300) n0 n5) := e76.trans e79
  have e81 : hV H4 300 = (uF (hV H0 300) n0 n5) := e75.trans e80
  have e82 : hV H4 305 = hV H3 305 := fRow f15.1.2.1 305 kR_229_305
  have e83 : hV H3 305 = hV H2 305 := fRow f13.1.2.1 305 kR_220_305
  have e84 : hV H2 305 = hV H1 305 := uRowNe f11 _ (iS (show n2 = ((300 : Nat) : Int) from f4) rfl)
  have e85 : hV H1 305 = hV H0 305 := fRow f10.1.2.1 305 kR_223_305
  have e86 : hV H2 305 = hV H0 305 := e84.trans e85
  have e87 : hV H3 305 = hV H0 305 := e83.trans e86
  have e88 : hV H4 305 = hV H0 305 := e82.trans e87
  have e89 : hV H4 328 = hV H3 328 := fRow f15.1.2.1 328 kR_229_328
  have e90 : hV H3 328 = hV H2 328 := fRow f13.1.2.1 328 kR_220_328
  have e91 : hV H2 328 = hV H1 328 := uRowNe f11 _ (iS (show n2 = ((300 : Nat) : Int) from f4) rfl)
  have e92 : hV H1 328 = hV H0 328 := fRow f10.1.2.1 328 kR_223_328
  have e93 : hV H2 328 = hV H0 328 := e91.trans e92
  have e94 : hV H3 328 = hV H0 328 := e90.trans e93
  have e95 : hV H4 328 = hV H0 328 := e89.trans e94
  have e96 : hV H4 332 = hV H3 332 := fRow f15.1.2.1 332 kR_229_332
  have e97 : hV H3 332 = hV H2 332 := fRow f13.1.2.1 332 kR_220_332
  have e98 : hV H2 332 = hV H1 332 := uRowNe f11 _ (iS (show n2 = ((300 : Nat) : Int) from f4) rfl)
  have e99 : hV H1 332 = hV H0 332 := fRow f10.1.2.1 332 kR_223_332
  have e100 : hV H2 332 = hV H0 332 := e98.trans e99
  have e101 : hV H3 332 = hV H0 332 := e97.trans e100
  have e102 : hV H4 332 = hV H0 332 := e96.trans e101
  have e103 : hV H4 335 = hV H3 335 := fRow f15.1.2.1 335 kR_229_335
  have e104 : hV H3 335 = hV H2 335 := fRow f13.1.2.1 335 kR_220_335
  have e105 : hV H2 335 = hV H1 335 := uRowNe f11 _ (iS (show n2 = ((300 : Nat) : Int) from f4) rfl)
  have e106 : hV H1 335 = hV H0 335 := fRow f10.1.2.1 335 kR_223_335
  have e107 : hV H2 335 = hV H0 335 := e105.trans e106
  have e108 : hV H3 335 = hV H0 335 := e104.trans e107
  have e109 : hV H4 335 = hV H0 335 := e103.trans e108
  have e110 : (0 : Int) ≤ hV H0 285 11 ∧ hV H0 285 11 ≤ 500 := f3.1 285 11 _ _ kW_285_11
  have e111 : (0 : Int) ≤ hV H0 285 13 ∧ hV H0 285 13 ≤ 2 := f3.1 285 13 _ _ kW_285_13
  have e112 : (0 : Int) ≤ hV H0 285 15 ∧ hV H0 285 15 ≤ 6 := f3.1 285 15 _ _ kW_285_15
  have e113 : (0 : Int) ≤ hV H0 285 18 ∧ hV H0 285 18 ≤ 8 := f3.1 285 18 _ _ kW_285_18
  have e114 : (0 : Int) ≤ hV H0 285 32 ∧ hV H0 285 32 ≤ 7 := f3.1 285 32 _ _ kW_285_32
  have e115 : (0 : Int) ≤ hV H0 285 33 ∧ hV H0 285 33 ≤ 62 := f3.1 285 33 _ _ kW_285_33
  have e116 : (0 : Int) ≤ hV H0 285 64 ∧ hV H0 285 64 ≤ 20 := f3.1 285 64 _ _ kW_285_64
  have e117 : (0 : Int) ≤ hV H1 285 11 ∧ hV H1 285 11 ≤ 500 := f10.1.2.2.2 285 11 _ _ kW_285_11
  have e118 : (0 : Int) ≤ hV H1 285 13 ∧ hV H1 285 13 ≤ 2 := f10.1.2.2.2 285 13 _ _ kW_285_13
  have e119 : (0 : Int) ≤ hV H1 285 15 ∧ hV H1 285 15 ≤ 6 := f10.1.2.2.2 285 15 _ _ kW_285_15
  have e120 : (0 : Int) ≤ hV H3 285 11 ∧ hV H3 285 11 ≤ 500 := f13.1.2.2.2 285 11 _ _ kW_285_11
  have e121 : (0 : Int) ≤ hV H3 285 13 ∧ hV H3 285 13 ≤ 2 := f13.1.2.2.2 285 13 _ _ kW_285_13
  have e122 : (0 : Int) ≤ hV H3 285 15 ∧ hV H3 285 15 ≤ 6 := f13.1.2.2.2 285 15 _ _ kW_285_15
  have e123 : (0 : Int) ≤ hV H4 285 11 ∧ hV H4 285 11 ≤ 500 := f15.1.2.2.2 285 11 _ _ kW_285_11
  have e124 : (0 : Int) ≤ hV H4 285 13 ∧ hV H4 285 13 ≤ 2 := f15.1.2.2.2 285 13 _ _ kW_285_13
  have e125 : (0 : Int) ≤ hV H4 285 15 ∧ hV H4 285 15 ≤ 6 := f15.1.2.2.2 285 15 _ _ kW_285_15
  have e126 : (0 : Int) ≤ hV H4 285 18 ∧ hV H4 285 18 ≤ 8 := f15.1.2.2.2 285 18 _ _ kW_285_18
  have e127 : (0 : Int) ≤ hV H4 285 32 ∧ hV H4 285 32 ≤ 7 := f15.1.2.2.2 285 32 _ _ kW_285_32
  have e128 : (0 : Int) ≤ hV H4 285 33 ∧ hV H4 285 33 ≤ 62 := f15.1.2.2.2 285 33 _ _ kW_285_33
  have e129 : (0 : Int) ≤ hV H4 285 64 ∧ hV H4 285 64 ≤ 20 := f15.1.2.2.2 285 64 _ _ kW_285_64
  try simp only [PA, PW]
  try simp only [e7] at e122
  try simp only [e31] at e126
  try simp only [e36] at e127
  try simp only [e41] at e128
  try simp only [e46] at e129
  have p0 := f3.2.1
  have p1 := f3.2.2.1
  have p2 := f3.2.2.2.1
  have p3 := f3.2.2.2.2.1
  have p4 := f3.2.2.2.2.2.1
  have p5 := f3.2.2.2.2.2.2.1
  have p6 := f3.2.2.2.2.2.2.2.1
  have p7 := f3.2.2.2.2.2.2.2.2
  have r0_0 := f10.2.1
  have r0_1 := f10.2.2.1
  have r0_2 := f10.2.2.2.1
  have r0_3 := f10.2.2.2.2.1
  have r0_4 := f10.2.2.2.2.2.1
  have r0_5 := f10.2.2.2.2.2.2.1
  have r0_6 := f10.2.2.2.2.2.2.2.1
  have r1_0 := f13.2.1
  have r1_1 := f13.2.2.1
  have r1_2 := f13.2.2.2.1
  have r1_3 := f13.2.2.2.2.1
  have r2_0 := f15.2.1
  have r2_1 := f15.2.2.1
  have r2_2 := f15.2.2.2.1
  have r2_3 := f15.2.2.2.2.1
  have r2_4 := f15.2.2.2.2.2.1
  have r2_5 := f15.2.2.2.2.2.2.1
  have r2_6 := f15.2.2.2.2.2.2.2.1
  have r2_7 := f15.2.2.2.2.2.2.2.2.1 f14
  try simp only [PA] at p0
  try simp only [PW] at p5
  try simp only [PA] at r2_0
  try simp only [PW] at r2_1
  try simp only [e2] at r1_0
  try simp only [e2] at r1_1
  try simp only [e4] at r1_2
  try simp only [e2] at r1_3
  try simp only [e31, e46, e53, e60, e74, e81, e88, e95, e102, e109] at r2_0
  try simp only [e36, e41, e53, e60, e67, e74, e81, e88] at r2_1
  try simp only [e7] at r2_5
  try simp only [e7] at r2_6
  try simp only [e7, e11, e16, e21, e26, e31, e36, e41, e46, e53, e60, e67, e74, e81, e88, e95, e102, e109] at r2_7
  have wb0 := (p7 (hV H0 285 32).toNat).1
  have wp0 := (p7 (hV H0 285 33).toNat).2
  clear f5 e0 e1 e2 e3 e4 e5 e6 e7 e8 e9 e10 e11 e12 e13 e14 e15 e16 e17 e18 e19 e20 e21 e22 e23 e24 e25 e26 e27 e28 e29 e30 e31 e32 e33 e34 e35 e36 e37 e38 e39 e40 e41 e42 e43 e44 e45 e46 e47 e48 e49 e50 e51 e52 e53 e54 e55 e56 e57 e58 e59 e60 e61 e62 e63 e64 e65 e66 e67 e68 e69 e70 e71 e72 e73 e74 e75 e76 e78 e79 e80 e81 e82 e83 e84 e85 e86 e87 e88 e89 e90 e91 e92 e93 e94 e95 e96 e97 e98 e99 e100 e101 e102 e103 e104 e105 e106 e107 e108 e109
  clear f3 f10 f13 f15
  rw [f16] at f17
  unfold w32 at *
  try (have ix0 : n9 = 6 * n0 := (by omega); subst ix0)

  (try clear p0 p5 p7 r2_0 r2_1)
  omega
def g_228_s_1 : vG := ([(3, [10, 9, 1], [], 0), (0, [9], [], 6), (1229, [0, 1, 7], [3, 4], 0), (0, [7], [], 0), (1220, [0, 6], [2, 3], 0), (0, [6], [], 25), (80, [2, 1, 5], [2, 1], 0), (1223, [5, 0, 3, 4], [0, 1], 0), (90, [5], [], 0), (91, [5], [], 9999), (0, [4], [], 19), (0, [3], [], 0), (20, [2, 0], [0], 26), (0, [2], [], 300), (6000, [0, 1], [0], 0), (0, [0], [], 285), (90, [1], [], 0), (91, [1], [], 1007)], (70, [10], [], 6048))
theorem c_228_s_1 : vOkm T0 (eP e_228 L_228 A_228 mu_228 none) 2 g_228_s_1 := vOk_inI fun ρ η f0 f1 f2 f3 f4 f5 f6 f7 f8 f9 f10 f11 f12 f13 f14 f15 f16 f17 => q_228_1 (n0 := ρ 1) (n1 := ρ 0) (n2 := ρ 2) (n3 := ρ 3) (n4 := ρ 4) (n5 := ρ 5) (n6 := ρ 6) (n7 := ρ 7) (n8 := ρ 9) (n9 := ρ 10) (H0 := η 0) (H1 := η 1) (H2 := η 2) (H3 := η 3) (H4 := η 4) f17 f16 f15 f14 f13 f12 f11 f10 f9 f8 f7 f6 f5 f4 f3 f2 f1 f0
set_option maxHeartbeats 20000000 in
theorem q_228_2 {n0 n1 n2 n3 n4 n5 n6 n7 n8 n9 n10 n11 n12 n13 : Int} {H0 H1 H2 H3 H4 : gH} (f0 : n0 ≤ 1007) (f1 : 0 ≤ n0) (f2 : n1 = 285) (f3 : hWt T0 H0 ∧ preb_228 n1 n0 H0) (f4 : n2 = 300) (f5 : n2 = hV H0 (n1).toNat 26) (f6 : n3 = 0) (f7 : n4 = 19) (f8 : n5 ≤ 9999) (f9 : 0 ≤ n5) (f10 : (hLe T0 H0 H1 ∧ hFr s_223.2.2.2.2 H0 H1 ∧ ((0 : Int) = 0 → H1.length = H0.length) ∧ hWt T0 H1) ∧ postb_223 n5 n1 n3 n4 H0 H1) (f11 : hUpd H2 H1 n2 n0 n5) (f12 : n6 = 25) (f13 : (hLe T0 H2 H3 ∧ hFr s_220.2.2.2.2 H2 H3 ∧ ((0 : Int) = 0 → H3.length = H2.length) ∧ hWt T0 H3) ∧ postb_220 n1 n6 H2 H3) (f14 : n7 = 0) (f15 : (hLe T0 H3 H4 ∧ hFr s_229.2.2.2.2 H3 H4 ∧ ((0 : Int) = 0 → H4.length = H3.length) ∧ hWt T0 H4) ∧ postb_229 n1 n0 n7 H3 H4) (f16 : n8 = 6) (f17 : n9 = w32 (n8 * n0)) (f18 : n10 = 6) (f19 : n11 = w32 (n10 * n0)) (f20 : n12 = 1) (f21 : n13 = w32 (n11 + n12)) : 0 ≤ n13 ∧ n13 < 6048 := by
  unfold preb_228 at f3
  unfold postb_223 at f10
  unfold postb_220 at f13
  unfold postb_229 at f15
  have e0 : hV H1 288 = hV H0 288 := fRow f10.1.2.1 288 kR_223_288
  have e1 : hV H2 285 11 = hV H1 285 11 := uPlace f11 _ _ (iS (show n2 = ((300 : Nat) : Int) from f4) rfl)
  have e2 : hV H2 285 11 = hV H1 285 11 := e1
  have e3 : hV H2 285 13 = hV H1 285 13 := uPlace f11 _ _ (iS (show n2 = ((300 : Nat) : Int) from f4) rfl)
  have e4 : hV H2 285 13 = hV H1 285 13 := e3
  have e5 : hV H3 285 15 = hV H2 285 15 := f13.1.2.1.1 285 15 kF_220_285_15
  have e6 : hV H2 285 15 = hV H1 285 15 := uPlace f11 _ _ (iS (show n2 = ((300 : Nat) : Int) from f4) rfl)
  have e7 : hV H3 285 15 = hV H1 285 15 := (e5).trans e6
  have e8 : hV H3 288 = hV H2 288 := fRow f13.1.2.1 288 kR_220_288
  have e9 : hV H2 288 = hV H1 288 := uRowNe f11 _ (iS (show n2 = ((300 : Nat) : Int) from f4) rfl)
  have e10 : hV H2 288 = hV H0 288 := e9.trans e0
  have e11 : hV H3 288 = hV H0 288 := e8.trans e10
  have e12 : hV H3 301 = hV H2 301 := fRow f13.1.2.1 301 kR_220_301
  have e13 : hV H2 301 = hV H1 301 := uRowNe f11 _ (iS (show n2 = ((300 : Nat) : Int) from f4) rfl)
  have e14 : hV H1 301 = hV H0 301 := fRow f10.1.2.1 301 kR_223_301
  have e15 : hV H2 301 = hV H0 301 := e13.trans e14
  have e16 : hV H3 301 = hV H0 301 := e12.trans e15
  have e17 : hV H3 302 = hV H2 302 := fRow f13.1.2.1 302 kR_220_302
  have e18 : hV H2 302 = hV H1 302 := uRowNe f11 _ (iS (show n2 = ((300 : Nat) : Int) from f4) rfl)
  have e19 : hV H1 302 = hV H0 302 := fRow f10.1.2.1 302 kR_223_302
  have e20 : hV H2 302 = hV H0 302 := e18.trans e19
  have e21 : hV H3 302 = hV H0 302 := e17.trans e20
  have e22 : hV H3 303 = hV H2 303 := fRow f13.1.2.1 303 kR_220_303
  have e23 : hV H2 303 = hV H1 303 := uRowNe f11 _ (iS (show n2 = ((300 : Nat) : Int) from f4) rfl)
  have e24 : hV H1 303 = hV H0 303 := fRow f10.1.2.1 303 kR_223_303
  have e25 : hV H2 303 = hV H0 303 := e23.trans e24
  have e26 : hV H3 303 = hV H0 303 := e22.trans e25
  have e27 : hV H4 285 18 = hV H3 285 18 := f15.1.2.1.1 285 18 kF_229_285_18
  have e28 : hV H3 285 18 = hV H2 285 18 := f13.1.2.1.1 285 18 kF_220_285_18
  have e29 : hV H2 285 18 = hV H1 285 18 := uPlace f11 _ _ (iS (show n2 = ((300 : Nat) : Int) from f4) rfl)
  have e30 : hV H1 285 18 = hV H0 285 18 := f10.1.2.1.1 285 18 kF_223_285_18
  have e31 : hV H4 285 18 = hV H0 285 18 := (e27).trans ((e28).trans ((e29).trans e30))
  have e32 : hV H4 285 32 = hV H3 285 32 := f15.1.2.1.1 285 32 kF_229_285_32
  have e33 : hV H3 285 32 = hV H2 285 32 := f13.1.2.1.1 285 32 kF_220_285_32
  have e34 : hV H2 285 32 = hV H1 285 32 := uPlace f11 _ _ (iS (show n2 = ((300 : Nat) : Int) from f4) rfl)
  have e35 : hV H1 285 32 = hV H0 285 32 := f10.1.2.1.1 285 32 kF_223_285_32
  have e36 : hV H4 285 32 = hV H0 285 32 := (e32).trans ((e33).trans ((e34).trans e35))
  have e37 : hV H4 285 33 = hV H3 285 33 := f15.1.2.1.1 285 33 kF_229_285_33
  have e38 : hV H3 285 33 = hV H2 285 33 := f13.1.2.1.1 285 33 kF_220_285_33
  have e39 : hV H2 285 33 = hV H1 285 33 := uPlace f11 _ _ (iS (show n2 = ((300 : Nat) : Int) from f4) rfl)
  have e40 : hV H1 285 33 = hV H0 285 33 := f10.1.2.1.1 285 33 kF_223_285_33
  have e41 : hV H4 285 33 = hV H0 285 33 := (e37).trans ((e38).trans ((e39).trans e40))
  have e42 : hV H4 285 64 = hV H3 285 64 := f15.1.2.1.1 285 64 kF_229_285_64
  have e43 : hV H3 285 64 = hV H2 285 64 := f13.1.2.1.1 285 64 kF_220_285_64
  have e44 : hV H2 285 64 = hV H1 285 64 := uPlace f11 _ _ (iS (show n2 = ((300 : Nat) : Int) from f4) rfl)
  have e45 : hV H1 285 64 = hV H0 285 64 := f10.1.2.1.1 285 64 kF_223_285_64
  have e46 : hV H4 285 64 = hV H0 285 64 := (e42).trans ((e43).trans ((e44).trans e45))
  have e47 : hV H4 294 = hV H3 294 := fRow f15.1.2.1 294 kR_229_294
  have e48 : hV H3 294 = hV H2 294 := fRow f13.1.2.1 294 kR_220_294
  have e49 : hV H2 294 = hV H1 294 := uRowNe f11 _ (iS (show n2 = ((300 : Nat) : Int) from f4) rfl)
  have e50 : hV H1 294 = hV H0 294 := fRow f10.1.2.1 294 kR_223_294
  have e51 : hV H2 294 = hV H0 294 := e49.trans e50
  have e52 : hV H3 294 = hV H0 294 := e48.trans e51
  have e53 : hV H4 294 = hV H0 294 := e47.trans e52
  have e54 : hV H4 296 = hV H3 296 := fRow f15.1.2.1 296 kR_229_296
  have e55 : hV H3 296 = hV H2 296 := fRow f13.1.2.1 296 kR_220_296
  have e56 : hV H2 296 = hV H1 296 := uRowNe f11 _ (iS (show n2 = ((300 : Nat) : Int) from f4) rfl)
  have e57 : hV H1 296 = hV H0 296 := fRow f10.1.2.1 296 kR_223_296
  have e58 : hV H2 296 = hV H0 296 := e56.trans e57
  have e59 : hV H3 296 = hV H0 296 := e55.trans e58
  have e60 : hV H4 296 = hV H0 296 := e54.trans e59
  have e61 : hV H4 297 = hV H3 297 := fRow f15.1.2.1 297 kR_229_297
  have e62 : hV H3 297 = hV H2 297 := fRow f13.1.2.1 297 kR_220_297
  have e63 : hV H2 297 = hV H1 297 := uRowNe f11 _ (iS (show n2 = ((300 : Nat) : Int) from f4) rfl)
  have e64 : hV H1 297 = hV H0 297 := fRow f10.1.2.1 297 kR_223_297
  have e65 : hV H2 297 = hV H0 297 := e63.trans e64
  have e66 : hV H3 297 = hV H0 297 := e62.trans e65
  have e67 : hV H4 297 = hV H0 297 := e61.trans e66
  have e68 : hV H4 298 = hV H3 298 := fRow f15.1.2.1 298 kR_229_298
  have e69 : hV H3 298 = hV H2 298 := fRow f13.1.2.1 298 kR_220_298
  have e70 : hV H2 298 = hV H1 298 := uRowNe f11 _ (iS (show n2 = ((300 : Nat) : Int) from f4) rfl)
  have e71 : hV H1 298 = hV H0 298 := fRow f10.1.2.1 298 kR_223_298
  have e72 : hV H2 298 = hV H0 298 := e70.trans e71
  have e73 : hV H3 298 = hV H0 298 := e69.trans e72
  have e74 : hV H4 298 = hV H0 298 := e68.trans e73
  have e75 : hV H4 300 = hV H3 300 := fRow f15.1.2.1 300 kR_229_300
  have e76 : hV H3 300 = hV H2 300 := fRow f13.1.2.1 300 kR_220_300
  have e77 : hV H2 300 = uF (hV H1 300) n0 n5 := uRow f11 _ f4.symm
  have e78 : hV H1 300 = hV H0 300 := fRow f10.1.2.1 300 kR_223_300
  have e79 : hV H2 300 = (uF (hV H0 300) n0 n5) := e77.trans (congrArg (fun z => uF z n0 n5) e78)
  have e80 : hV H3 300 = (uF (hV H0 300) n0 n5) := e76.trans e79
  have e81 : hV H4 300 = (uF (hV H0 300) n0 n5) := e75.trans e80
  have e82 : hV H4 305 = hV H3 305 := fRow f15.1.2.1 305 kR_229_305
  have e83 : hV H3 305 = hV H2 305 := fRow f13.1.2.1 305 kR_220_305
  have e84 : hV H2 305 = hV H1 305 := uRowNe f11 _ (iS (show n2 = ((300 : Nat) : Int) from f4) rfl)
  have e85 : hV H1 305 = hV H0 305 := fRow f10.1.2.1 305 kR_223_305
  have e86 : hV H2 305 = hV H0 305 := e84.trans e85
  have e87 : hV H3 305 = hV H0 305 := e83.trans e86
  have e88 : hV H4 305 = hV H0 305 := e82.trans e87
  have e89 : hV H4 328 = hV H3 328 := fRow f15.1.2.1 328 kR_229_328
  have e90 : hV H3 328 = hV H2 328 := fRow f13.1.2.1 328 kR_220_328
  have e91 : hV H2 328 = hV H1 328 := uRowNe f11 _ (iS (show n2 = ((300 : Nat) : Int) from f4) rfl)
  have e92 : hV H1 328 = hV H0 328 := fRow f10.1.2.1 328 kR_223_328
  have e93 : hV H2 328 = hV H0 328 := e91.trans e92
  have e94 : hV H3 328 = hV H0 328 := e90.trans e93
  have e95 : hV H4 328 = hV H0 328 := e89.trans e94
  have e96 : hV H4 332 = hV H3 332 := fRow f15.1.2.1 332 kR_229_332
  have e97 : hV H3 332 = hV H2 332 := fRow f13.1.2.1 332 kR_220_332
  have e98 : hV H2 332 = hV H1 332 := uRowNe f11 _ (iS (show n2 = ((300 : Nat) : Int) from f4) rfl)
  have e99 : hV H1 332 = hV H0 332 := fRow f10.1.2.1 332 kR_223_332
  have e100 : hV H2 332 = hV H0 332 := e98.trans e99
  have e101 : hV H3 332 = hV H0 332 := e97.trans e100
  have e102 : hV H4 332 = hV H0 332 := e96.trans e101
  have e103 : hV H4 335 = hV H3 335 := fRow f15.1.2.1 335 kR_229_335
  have e104 : hV H3 335 = hV H2 335 := fRow f13.1.2.1 335 kR_220_335
  have e105 : hV H2 335 = hV H1 335 := uRowNe f11 _ (iS (show n2 = ((300 : Nat) : Int) from f4) rfl)
  have e106 : hV H1 335 = hV H0 335 := fRow f10.1.2.1 335 kR_223_335
  have e107 : hV H2 335 = hV H0 335 := e105.trans e106
  have e108 : hV H3 335 = hV H0 335 := e104.trans e107
  have e109 : hV H4 335 = hV H0 335 := e103.trans e108
  have e110 : (0 : Int) ≤ hV H0 285 11 ∧ hV H0 285 11 ≤ 500 := f3.1 285 11 _ _ kW_285_11
  have e111 : (0 : Int) ≤ hV H0 285 13 ∧ hV H0 285 13 ≤ 2 := f3.1 285 13 _ _ kW_285_13
  have e112 : (0 : Int) ≤ hV H0 285 15 ∧ hV H0 285 15 ≤ 6 := f3.1 285 15 _ _ kW_285_15
  have e113 : (0 : Int) ≤ hV H0 285 18 ∧ hV H0 285 18 ≤ 8 := f3.1 285 18 _ _ kW_285_18
  have e114 : (0 : Int) ≤ hV H0 285 32 ∧ hV H0 285 32 ≤ 7 := f3.1 285 32 _ _ kW_285_32
  have e115 : (0 : Int) ≤ hV H0 285 33 ∧ hV H0 285 33 ≤ 62 := f3.1 285 33 _ _ kW_285_33
  have e116 : (0 : Int) ≤ hV H0 285 64 ∧ hV H0 285 64 ≤ 20 := f3.1 285 64 _ _ kW_285_64
  have e117 : (0 : Int) ≤ hV H1 285 11 ∧ hV H1 285 11 ≤ 500 := f10.1.2.2.2 285 11 _ _ kW_285_11
  have e118 : (0 : Int) ≤ hV H1 285 13 ∧ hV H1 285 13 ≤ 2 := f10.1.2.2.2 285 13 _ _ kW_285_13
  have e119 : (0 : Int) ≤ hV H1 285 15 ∧ hV H1 285 15 ≤ 6 := f10.1.2.2.2 285 15 _ _ kW_285_15
  have e120 : (0 : Int) ≤ hV H3 285 11 ∧ hV H3 285 11 ≤ 500 := f13.1.2.2.2 285 11 _ _ kW_285_11
  have e121 : (0 : Int) ≤ hV H3 285 13 ∧ hV H3 285 13 ≤ 2 := f13.1.2.2.2 285 13 _ _ kW_285_13
  have e122 : (0 : Int) ≤ hV H3 285 15 ∧ hV H3 285 15 ≤ 6 := f13.1.2.2.2 285 15 _ _ kW_285_15
  have e123 : (0 : Int) ≤ hV H4 285 11 ∧ hV H4 285 11 ≤ 500 := f15.1.2.2.2 285 11 _ _ kW_285_11
  have e124 : (0 : Int) ≤ hV H4 285 13 ∧ hV H4 285 13 ≤ 2 := f15.1.2.2.2 285 13 _ _ kW_285_13
  have e125 : (0 : Int) ≤ hV H4 285 15 ∧ hV H4 285 15 ≤ 6 := f15.1.2.2.2 285 15 _ _ kW_285_15
  have e126 : (0 : Int) ≤ hV H4 285 18 ∧ hV H4 285 18 ≤ 8 := f15.1.2.2.2 285 18 _ _ kW_285_18
  have e127 : (0 : Int) ≤ hV H4 285 32 ∧ hV H4 285 32 ≤ 7 := f15.1.2.2.2 285 32 _ _ kW_285_32
  have e128 : (0 : Int) ≤ hV H4 285 33 ∧ hV H4 285 33 ≤ 62 := f15.1.2.2.2 285 33 _ _ kW_285_33
  have e129 : (0 : Int) ≤ hV H4 285 64 ∧ hV H4 285 64 ≤ 20 := f15.1.2.2.2 285 64 _ _ kW_285_64
  try simp only [PA, PW]
  try simp only [e7] at e122
  try simp only [e31] at e126
  try simp only [e36] at e127
  try simp only [e41] at e128
  try simp only [e46] at e129
  have p0 := f3.2.1
  have p1 := f3.2.2.1
  have p2 := f3.2.2.2.1
  have p3 := f3.2.2.2.2.1
  have p4 := f3.2.2.2.2.2.1
  have p5 := f3.2.2.2.2.2.2.1
  have p6 := f3.2.2.2.2.2.2.2.1
  have p7 := f3.2.2.2.2.2.2.2.2
  have r0_0 := f10.2.1
  have r0_1 := f10.2.2.1
  have r0_2 := f10.2.2.2.1
  have r0_3 := f10.2.2.2.2.1
  have r0_4 := f10.2.2.2.2.2.1
  have r0_5 := f10.2.2.2.2.2.2.1
  have r0_6 := f10.2.2.2.2.2.2.2.1
  have r1_0 := f13.2.1
  have r1_1 := f13.2.2.1
  have r1_2 := f13.2.2.2.1
  have r1_3 := f13.2.2.2.2.1
  have r2_0 := f15.2.1
  have r2_1 := f15.2.2.1
  have r2_2 := f15.2.2.2.1
  have r2_3 := f15.2.2.2.2.1
  have r2_4 := f15.2.2.2.2.2.1
  have r2_5 := f15.2.2.2.2.2.2.1
  have r2_6 := f15.2.2.2.2.2.2.2.1
  have r2_7 := f15.2.2.2.2.2.2.2.2.1 f14
  try simp only [PA] at p0
  try simp only [PW] at p5
  try simp only [PA] at r2_0
  try simp only [PW] at r2_1
  try simp only [e2] at r1_0
  try simp only [e2] at r1_1
  try simp only [e4] at r1_2
  try simp only [e2] at r1_3
  try simp only [e31, e46, e53, e60, e74, e81, e88, e95, e102, e109] at r2_0
  try simp only [e36, e41, e53, e60, e67, e74, e81, e88] at r2_1
  try simp only [e7] at r2_5
  try simp only [e7] at r2_6
  try simp only [e7, e11, e16, e21, e26, e31, e36, e41, e46, e53, e60, e67, e74, e81, e88, e95, e102, e109] at r2_7
  have wb0 := (p7 (hV H0 285 32).toNat).1
  have wp0 := (p7 (hV H0 285 33).toNat).2
  clear f5 e0 e1 e2 e3 e4 e5 e6 e7 e8 e9 e10 e11 e12 e13 e14 e15 e16 e17 e18 e19 e20 e21 e22 e23 e24 e25 e26 e27 e28 e29 e30 e31 e32 e33 e34 e35 e36 e37 e38 e39 e40 e41 e42 e43 e44 e45 e46 e47 e48 e49 e50 e51 e52 e53 e54 e55 e56 e57 e58 e59 e60 e61 e62 e63 e64 e65 e66 e67 e68 e69 e70 e71 e72 e73 e74 e75 e76 e78 e79 e80 e81 e82 e83 e84 e85 e86 e87 e88 e89 e90 e91 e92 e93 e94 e95 e96 e97 e98 e99 e100 e101 e102 e103 e104 e105 e106 e107 e108 e109
  clear f3 f10 f13 f15
  rw [f16] at f17
  rw [f18] at f19
  unfold w32 at *
  try (have ix0 : n11 = 6 * n0 := (by omega); subst ix0)
  try (have ix1 : n13 = (6 * n0) + 1 := (by omega); subst ix1)

  (try clear p0 p5 p7 r2_0 r2_1)
  omega
def g_228_s_2 : vG := ([(1, [16, 14, 15], [], 0), (0, [15], [], 1), (3, [14, 13, 1], [], 0), (0, [13], [], 6), (3, [10, 9, 1], [], 0), (0, [9], [], 6), (1229, [0, 1, 7], [3, 4], 0), (0, [7], [], 0), (1220, [0, 6], [2, 3], 0), (0, [6], [], 25), (80, [2, 1, 5], [2, 1], 0), (1223, [5, 0, 3, 4], [0, 1], 0), (90, [5], [], 0), (91, [5], [], 9999), (0, [4], [], 19), (0, [3], [], 0), (20, [2, 0], [0], 26), (0, [2], [], 300), (6000, [0, 1], [0], 0), (0, [0], [], 285), (90, [1], [], 0), (91, [1], [], 1007)], (70, [16], [], 6048))
theorem c_228_s_2 : vOkm T0 (eP e_228 L_228 A_228 mu_228 none) 2 g_228_s_2 := vOk_inI fun ρ η f0 f1 f2 f3 f4 f5 f6 f7 f8 f9 f10 f11 f12 f13 f14 f15 f16 f17 f18 f19 f20 f21 => q_228_2 (n0 := ρ 1) (n1 := ρ 0) (n2 := ρ 2) (n3 := ρ 3) (n4 := ρ 4) (n5 := ρ 5) (n6 := ρ 6) (n7 := ρ 7) (n8 := ρ 9) (n9 := ρ 10) (n10 := ρ 13) (n11 := ρ 14) (n12 := ρ 15) (n13 := ρ 16) (H0 := η 0) (H1 := η 1) (H2 := η 2) (H3 := η 3) (H4 := η 4) f21 f20 f19 f18 f17 f16 f15 f14 f13 f12 f11 f10 f9 f8 f7 f6 f5 f4 f3 f2 f1 f0
set_option maxHeartbeats 20000000 in
theorem q_228_3 {n0 n1 n2 n3 n4 n5 n6 n7 n8 n9 n10 n11 n12 n13 n14 n15 n16 n17 : Int} {H0 H1 H2 H3 H4 : gH} (f0 : n0 ≤ 1007) (f1 : 0 ≤ n0) (f2 : n1 = 285) (f3 : hWt T0 H0 ∧ preb_228 n1 n0 H0) (f4 : n2 = 300) (f5 : n2 = hV H0 (n1).toNat 26) (f6 : n3 = 0) (f7 : n4 = 19) (f8 : n5 ≤ 9999) (f9 : 0 ≤ n5) (f10 : (hLe T0 H0 H1 ∧ hFr s_223.2.2.2.2 H0 H1 ∧ ((0 : Int) = 0 → H1.length = H0.length) ∧ hWt T0 H1) ∧ postb_223 n5 n1 n3 n4 H0 H1) (f11 : hUpd H2 H1 n2 n0 n5) (f12 : n6 = 25) (f13 : (hLe T0 H2 H3 ∧ hFr s_220.2.2.2.2 H2 H3 ∧ ((0 : Int) = 0 → H3.length = H2.length) ∧ hWt T0 H3) ∧ postb_220 n1 n6 H2 H3) (f14 : n7 = 0) (f15 : (hLe T0 H3 H4 ∧ hFr s_229.2.2.2.2 H3 H4 ∧ ((0 : Int) = 0 → H4.length = H3.length) ∧ hWt T0 H4) ∧ postb_229 n1 n0 n7 H3 H4) (f16 : n8 = 6) (f17 : n9 = w32 (n8 * n0)) (f18 : n10 = 6) (f19 : n11 = w32 (n10 * n0)) (f20 : n12 = 1) (f21 : n13 = w32 (n11 + n12)) (f22 : n14 = 6) (f23 : n15 = w32 (n14 * n0)) (f24 : n16 = 2) (f25 : n17 = w32 (n15 + n16)) : 0 ≤ n17 ∧ n17 < 6048 := by
  unfold preb_228 at f3
  unfold postb_223 at f10
  unfold postb_220 at f13
  unfold postb_229 at f15
  have e0 : hV H1 288 = hV H0 288 := fRow f10.1.2.1 288 kR_223_288
  have e1 : hV H2 285 11 = hV H1 285 11 := uPlace f11 _ _ (iS (show n2 = ((300 : Nat) : Int) from f4) rfl)
  have e2 : hV H2 285 11 = hV H1 285 11 := e1
  have e3 : hV H2 285 13 = hV H1 285 13 := uPlace f11 _ _ (iS (show n2 = ((300 : Nat) : Int) from f4) rfl)
  have e4 : hV H2 285 13 = hV H1 285 13 := e3
  have e5 : hV H3 285 15 = hV H2 285 15 := f13.1.2.1.1 285 15 kF_220_285_15
  have e6 : hV H2 285 15 = hV H1 285 15 := uPlace f11 _ _ (iS (show n2 = ((300 : Nat) : Int) from f4) rfl)
  have e7 : hV H3 285 15 = hV H1 285 15 := (e5).trans e6
  have e8 : hV H3 288 = hV H2 288 := fRow f13.1.2.1 288 kR_220_288
  have e9 : hV H2 288 = hV H1 288 := uRowNe f11 _ (iS (show n2 = ((300 : Nat) : Int) from f4) rfl)
  have e10 : hV H2 288 = hV H0 288 := e9.trans e0
  have e11 : hV H3 288 = hV H0 288 := e8.trans e10
  have e12 : hV H3 301 = hV H2 301 := fRow f13.1.2.1 301 kR_220_301
  have e13 : hV H2 301 = hV H1 301 := uRowNe f11 _ (iS (show n2 = ((300 : Nat) : Int) from f4) rfl)
  have e14 : hV H1 301 = hV H0 301 := fRow f10.1.2.1 301 kR_223_301
  have e15 : hV H2 301 = hV H0 301 := e13.trans e14
  have e16 : hV H3 301 = hV H0 301 := e12.trans e15
  have e17 : hV H3 302 = hV H2 302 := fRow f13.1.2.1 302 kR_220_302
  have e18 : hV H2 302 = hV H1 302 := uRowNe f11 _ (iS (show n2 = ((300 : Nat) : Int) from f4) rfl)
  have e19 : hV H1 302 = hV H0 302 := fRow f10.1.2.1 302 kR_223_302
  have e20 : hV H2 302 = hV H0 302 := e18.trans e19
  have e21 : hV H3 302 = hV H0 302 := e17.trans e20
  have e22 : hV H3 303 = hV H2 303 := fRow f13.1.2.1 303 kR_220_303
  have e23 : hV H2 303 = hV H1 303 := uRowNe f11 _ (iS (show n2 = ((300 : Nat) : Int) from f4) rfl)
  have e24 : hV H1 303 = hV H0 303 := fRow f10.1.2.1 303 kR_223_303
  have e25 : hV H2 303 = hV H0 303 := e23.trans e24
  have e26 : hV H3 303 = hV H0 303 := e22.trans e25
  have e27 : hV H4 285 18 = hV H3 285 18 := f15.1.2.1.1 285 18 kF_229_285_18
  have e28 : hV H3 285 18 = hV H2 285 18 := f13.1.2.1.1 285 18 kF_220_285_18
  have e29 : hV H2 285 18 = hV H1 285 18 := uPlace f11 _ _ (iS (show n2 = ((300 : Nat) : Int) from f4) rfl)
  have e30 : hV H1 285 18 = hV H0 285 18 := f10.1.2.1.1 285 18 kF_223_285_18
  have e31 : hV H4 285 18 = hV H0 285 18 := (e27).trans ((e28).trans ((e29).trans e30))
  have e32 : hV H4 285 32 = hV H3 285 32 := f15.1.2.1.1 285 32 kF_229_285_32
  have e33 : hV H3 285 32 = hV H2 285 32 := f13.1.2.1.1 285 32 kF_220_285_32
  have e34 : hV H2 285 32 = hV H1 285 32 := uPlace f11 _ _ (iS (show n2 = ((300 : Nat) : Int) from f4) rfl)
  have e35 : hV H1 285 32 = hV H0 285 32 := f10.1.2.1.1 285 32 kF_223_285_32
  have e36 : hV H4 285 32 = hV H0 285 32 := (e32).trans ((e33).trans ((e34).trans e35))
  have e37 : hV H4 285 33 = hV H3 285 33 := f15.1.2.1.1 285 33 kF_229_285_33
  have e38 : hV H3 285 33 = hV H2 285 33 := f13.1.2.1.1 285 33 kF_220_285_33
  have e39 : hV H2 285 33 = hV H1 285 33 := uPlace f11 _ _ (iS (show n2 = ((300 : Nat) : Int) from f4) rfl)
  have e40 : hV H1 285 33 = hV H0 285 33 := f10.1.2.1.1 285 33 kF_223_285_33
  have e41 : hV H4 285 33 = hV H0 285 33 := (e37).trans ((e38).trans ((e39).trans e40))
  have e42 : hV H4 285 64 = hV H3 285 64 := f15.1.2.1.1 285 64 kF_229_285_64
  have e43 : hV H3 285 64 = hV H2 285 64 := f13.1.2.1.1 285 64 kF_220_285_64
  have e44 : hV H2 285 64 = hV H1 285 64 := uPlace f11 _ _ (iS (show n2 = ((300 : Nat) : Int) from f4) rfl)
  have e45 : hV H1 285 64 = hV H0 285 64 := f10.1.2.1.1 285 64 kF_223_285_64
  have e46 : hV H4 285 64 = hV H0 285 64 := (e42).trans ((e43).trans ((e44).trans e45))
  have e47 : hV H4 294 = hV H3 294 := fRow f15.1.2.1 294 kR_229_294
  have e48 : hV H3 294 = hV H2 294 := fRow f13.1.2.1 294 kR_220_294
  have e49 : hV H2 294 = hV H1 294 := uRowNe f11 _ (iS (show n2 = ((300 : Nat) : Int) from f4) rfl)
  have e50 : hV H1 294 = hV H0 294 := fRow f10.1.2.1 294 kR_223_294
  have e51 : hV H2 294 = hV H0 294 := e49.trans e50
  have e52 : hV H3 294 = hV H0 294 := e48.trans e51
  have e53 : hV H4 294 = hV H0 294 := e47.trans e52
  have e54 : hV H4 296 = hV H3 296 := fRow f15.1.2.1 296 kR_229_296
  have e55 : hV H3 296 = hV H2 296 := fRow f13.1.2.1 296 kR_220_296
  have e56 : hV H2 296 = hV H1 296 := uRowNe f11 _ (iS (show n2 = ((300 : Nat) : Int) from f4) rfl)
  have e57 : hV H1 296 = hV H0 296 := fRow f10.1.2.1 296 kR_223_296
  have e58 : hV H2 296 = hV H0 296 := e56.trans e57
  have e59 : hV H3 296 = hV H0 296 := e55.trans e58
  have e60 : hV H4 296 = hV H0 296 := e54.trans e59
  have e61 : hV H4 297 = hV H3 297 := fRow f15.1.2.1 297 kR_229_297
  have e62 : hV H3 297 = hV H2 297 := fRow f13.1.2.1 297 kR_220_297
  have e63 : hV H2 297 = hV H1 297 := uRowNe f11 _ (iS (show n2 = ((300 : Nat) : Int) from f4) rfl)
  have e64 : hV H1 297 = hV H0 297 := fRow f10.1.2.1 297 kR_223_297
  have e65 : hV H2 297 = hV H0 297 := e63.trans e64
  have e66 : hV H3 297 = hV H0 297 := e62.trans e65
  have e67 : hV H4 297 = hV H0 297 := e61.trans e66
  have e68 : hV H4 298 = hV H3 298 := fRow f15.1.2.1 298 kR_229_298
  have e69 : hV H3 298 = hV H2 298 := fRow f13.1.2.1 298 kR_220_298
  have e70 : hV H2 298 = hV H1 298 := uRowNe f11 _ (iS (show n2 = ((300 : Nat) : Int) from f4) rfl)
  have e71 : hV H1 298 = hV H0 298 := fRow f10.1.2.1 298 kR_223_298
  have e72 : hV H2 298 = hV H0 298 := e70.trans e71
  have e73 : hV H3 298 = hV H0 298 := e69.trans e72
  have e74 : hV H4 298 = hV H0 298 := e68.trans e73
  have e75 : hV H4 300 = hV H3 300 := fRow f15.1.2.1 300 kR_229_300
  have e76 : hV H3 300 = hV H2 300 := fRow f13.1.2.1 300 kR_220_300
  have e77 : hV H2 300 = uF (hV H1 300) n0 n5 := uRow f11 _ f4.symm
  have e78 : hV H1 300 = hV H0 300 := fRow f10.1.2.1 300 kR_223_300
  have e79 : hV H2 300 = (uF (hV H0 300) n0 n5) := e77.trans (congrArg (fun z => uF z n0 n5) e78)
  have e80 : hV H3 300 = (uF (hV H0 300) n0 n5) := e76.trans e79
  have e81 : hV H4 300 = (uF (hV H0 300) n0 n5) := e75.trans e80
  have e82 : hV H4 305 = hV H3 305 := fRow f15.1.2.1 305 kR_229_305
  have e83 : hV H3 305 = hV H2 305 := fRow f13.1.2.1 305 kR_220_305
  have e84 : hV H2 305 = hV H1 305 := uRowNe f11 _ (iS (show n2 = ((300 : Nat) : Int) from f4) rfl)
  have e85 : hV H1 305 = hV H0 305 := fRow f10.1.2.1 305 kR_223_305
  have e86 : hV H2 305 = hV H0 305 := e84.trans e85
  have e87 : hV H3 305 = hV H0 305 := e83.trans e86
  have e88 : hV H4 305 = hV H0 305 := e82.trans e87
  have e89 : hV H4 328 = hV H3 328 := fRow f15.1.2.1 328 kR_229_328
  have e90 : hV H3 328 = hV H2 328 := fRow f13.1.2.1 328 kR_220_328
  have e91 : hV H2 328 = hV H1 328 := uRowNe f11 _ (iS (show n2 = ((300 : Nat) : Int) from f4) rfl)
  have e92 : hV H1 328 = hV H0 328 := fRow f10.1.2.1 328 kR_223_328
  have e93 : hV H2 328 = hV H0 328 := e91.trans e92
  have e94 : hV H3 328 = hV H0 328 := e90.trans e93
  have e95 : hV H4 328 = hV H0 328 := e89.trans e94
  have e96 : hV H4 332 = hV H3 332 := fRow f15.1.2.1 332 kR_229_332
  have e97 : hV H3 332 = hV H2 332 := fRow f13.1.2.1 332 kR_220_332
  have e98 : hV H2 332 = hV H1 332 := uRowNe f11 _ (iS (show n2 = ((300 : Nat) : Int) from f4) rfl)
  have e99 : hV H1 332 = hV H0 332 := fRow f10.1.2.1 332 kR_223_332
  have e100 : hV H2 332 = hV H0 332 := e98.trans e99
  have e101 : hV H3 332 = hV H0 332 := e97.trans e100
  have e102 : hV H4 332 = hV H0 332 := e96.trans e101
  have e103 : hV H4 335 = hV H3 335 := fRow f15.1.2.1 335 kR_229_335
  have e104 : hV H3 335 = hV H2 335 := fRow f13.1.2.1 335 kR_220_335
  have e105 : hV H2 335 = hV H1 335 := uRowNe f11 _ (iS (show n2 = ((300 : Nat) : Int) from f4) rfl)
  have e106 : hV H1 335 = hV H0 335 := fRow f10.1.2.1 335 kR_223_335
  have e107 : hV H2 335 = hV H0 335 := e105.trans e106
  have e108 : hV H3 335 = hV H0 335 := e104.trans e107
  have e109 : hV H4 335 = hV H0 335 := e103.trans e108
  have e110 : (0 : Int) ≤ hV H0 285 11 ∧ hV H0 285 11 ≤ 500 := f3.1 285 11 _ _ kW_285_11
  have e111 : (0 : Int) ≤ hV H0 285 13 ∧ hV H0 285 13 ≤ 2 := f3.1 285 13 _ _ kW_285_13
  have e112 : (0 : Int) ≤ hV H0 285 15 ∧ hV H0 285 15 ≤ 6 := f3.1 285 15 _ _ kW_285_15
  have e113 : (0 : Int) ≤ hV H0 285 18 ∧ hV H0 285 18 ≤ 8 := f3.1 285 18 _ _ kW_285_18
  have e114 : (0 : Int) ≤ hV H0 285 32 ∧ hV H0 285 32 ≤ 7 := f3.1 285 32 _ _ kW_285_32
  have e115 : (0 : Int) ≤ hV H0 285 33 ∧ hV H0 285 33 ≤ 62 := f3.1 285 33 _ _ kW_285_33
  have e116 : (0 : Int) ≤ hV H0 285 64 ∧ hV H0 285 64 ≤ 20 := f3.1 285 64 _ _ kW_285_64
  have e117 : (0 : Int) ≤ hV H1 285 11 ∧ hV H1 285 11 ≤ 500 := f10.1.2.2.2 285 11 _ _ kW_285_11
  have e118 : (0 : Int) ≤ hV H1 285 13 ∧ hV H1 285 13 ≤ 2 := f10.1.2.2.2 285 13 _ _ kW_285_13
  have e119 : (0 : Int) ≤ hV H1 285 15 ∧ hV H1 285 15 ≤ 6 := f10.1.2.2.2 285 15 _ _ kW_285_15
  have e120 : (0 : Int) ≤ hV H3 285 11 ∧ hV H3 285 11 ≤ 500 := f13.1.2.2.2 285 11 _ _ kW_285_11
  have e121 : (0 : Int) ≤ hV H3 285 13 ∧ hV H3 285 13 ≤ 2 := f13.1.2.2.2 285 13 _ _ kW_285_13
  have e122 : (0 : Int) ≤ hV H3 285 15 ∧ hV H3 285 15 ≤ 6 := f13.1.2.2.2 285 15 _ _ kW_285_15
  have e123 : (0 : Int) ≤ hV H4 285 11 ∧ hV H4 285 11 ≤ 500 := f15.1.2.2.2 285 11 _ _ kW_285_11
  have e124 : (0 : Int) ≤ hV H4 285 13 ∧ hV H4 285 13 ≤ 2 := f15.1.2.2.2 285 13 _ _ kW_285_13
  have e125 : (0 : Int) ≤ hV H4 285 15 ∧ hV H4 285 15 ≤ 6 := f15.1.2.2.2 285 15 _ _ kW_285_15
  have e126 : (0 : Int) ≤ hV H4 285 18 ∧ hV H4 285 18 ≤ 8 := f15.1.2.2.2 285 18 _ _ kW_285_18
  have e127 : (0 : Int) ≤ hV H4 285 32 ∧ hV H4 285 32 ≤ 7 := f15.1.2.2.2 285 32 _ _ kW_285_32
  have e128 : (0 : Int) ≤ hV H4 285 33 ∧ hV H4 285 33 ≤ 62 := f15.1.2.2.2 285 33 _ _ kW_285_33
  have e129 : (0 : Int) ≤ hV H4 285 64 ∧ hV H4 285 64 ≤ 20 := f15.1.2.2.2 285 64 _ _ kW_285_64
  try simp only [PA, PW]
  try simp only [e7] at e122
  try simp only [e31] at e126
  try simp only [e36] at e127
  try simp only [e41] at e128
  try simp only [e46] at e129
  have p0 := f3.2.1
  have p1 := f3.2.2.1
  have p2 := f3.2.2.2.1
  have p3 := f3.2.2.2.2.1
  have p4 := f3.2.2.2.2.2.1
  have p5 := f3.2.2.2.2.2.2.1
  have p6 := f3.2.2.2.2.2.2.2.1
  have p7 := f3.2.2.2.2.2.2.2.2
  have r0_0 := f10.2.1
  have r0_1 := f10.2.2.1
  have r0_2 := f10.2.2.2.1
  have r0_3 := f10.2.2.2.2.1
  have r0_4 := f10.2.2.2.2.2.1
  have r0_5 := f10.2.2.2.2.2.2.1
  have r0_6 := f10.2.2.2.2.2.2.2.1
  have r1_0 := f13.2.1
  have r1_1 := f13.2.2.1
  have r1_2 := f13.2.2.2.1
  have r1_3 := f13.2.2.2.2.1
  have r2_0 := f15.2.1
  have r2_1 := f15.2.2.1
  have r2_2 := f15.2.2.2.1
  have r2_3 := f15.2.2.2.2.1
  have r2_4 := f15.2.2.2.2.2.1
  have r2_5 := f15.2.2.2.2.2.2.1
  have r2_6 := f15.2.2.2.2.2.2.2.1
  have r2_7 := f15.2.2.2.2.2.2.2.2.1 f14
  try simp only [PA] at p0
  try simp only [PW] at p5
  try simp only [PA] at r2_0
  try simp only [PW] at r2_1
  try simp only [e2] at r1_0
  try simp only [e2] at r1_1
  try simp only [e4] at r1_2
  try simp only [e2] at r1_3
  try simp only [e31, e46, e53, e60, e74, e81, e88, e95, e102, e109] at r2_0
  try simp only [e36, e41, e53, e60, e67, e74, e81, e88] at r2_1
  try simp only [e7] at r2_5
  try simp only [e7] at r2_6
  try simp only [e7, e11, e16, e21, e26, e31, e36, e41, e46, e53, e60, e67, e74, e81, e88, e95, e102, e109] at r2_7
  have wb0 := (p7 (hV H0 285 32).toNat).1
  have wp0 := (p7 (hV H0 285 33).toNat).2
  clear f5 e0 e1 e2 e3 e4 e5 e6 e7 e8 e9 e10 e11 e12 e13 e14 e15 e16 e17 e18 e19 e20 e21 e22 e23 e24 e25 e26 e27 e28 e29 e30 e31 e32 e33 e34 e35 e36 e37 e38 e39 e40 e41 e42 e43 e44 e45 e46 e47 e48 e49 e50 e51 e52 e53 e54 e55 e56 e57 e58 e59 e60 e61 e62 e63 e64 e65 e66 e67 e68 e69 e70 e71 e72 e73 e74 e75 e76 e78 e79 e80 e81 e82 e83 e84 e85 e86 e87 e88 e89 e90 e91 e92 e93 e94 e95 e96 e97 e98 e99 e100 e101 e102 e103 e104 e105 e106 e107 e108 e109
  clear f3 f10 f13 f15
  rw [f16] at f17
  rw [f18] at f19
  rw [f22] at f23
  unfold w32 at *
  try (have ix0 : n15 = 6 * n0 := (by omega); subst ix0)
  try (have ix1 : n17 = (6 * n0) + 2 := (by omega); subst ix1)

  (try clear p0 p5 p7 r2_0 r2_1)
  omega
def g_228_s_3 : vG := ([(1, [22, 20, 21], [], 0), (0, [21], [], 2), (3, [20, 19, 1], [], 0), (0, [19], [], 6), (1, [16, 14, 15], [], 0), (0, [15], [], 1), (3, [14, 13, 1], [], 0), (0, [13], [], 6), (3, [10, 9, 1], [], 0), (0, [9], [], 6), (1229, [0, 1, 7], [3, 4], 0), (0, [7], [], 0), (1220, [0, 6], [2, 3], 0), (0, [6], [], 25), (80, [2, 1, 5], [2, 1], 0), (1223, [5, 0, 3, 4], [0, 1], 0), (90, [5], [], 0), (91, [5], [], 9999), (0, [4], [], 19), (0, [3], [], 0), (20, [2, 0], [0], 26), (0, [2], [], 300), (6000, [0, 1], [0], 0), (0, [0], [], 285), (90, [1], [], 0), (91, [1], [], 1007)], (70, [22], [], 6048))
theorem c_228_s_3 : vOkm T0 (eP e_228 L_228 A_228 mu_228 none) 2 g_228_s_3 := vOk_inI fun ρ η f0 f1 f2 f3 f4 f5 f6 f7 f8 f9 f10 f11 f12 f13 f14 f15 f16 f17 f18 f19 f20 f21 f22 f23 f24 f25 => q_228_3 (n0 := ρ 1) (n1 := ρ 0) (n2 := ρ 2) (n3 := ρ 3) (n4 := ρ 4) (n5 := ρ 5) (n6 := ρ 6) (n7 := ρ 7) (n8 := ρ 9) (n9 := ρ 10) (n10 := ρ 13) (n11 := ρ 14) (n12 := ρ 15) (n13 := ρ 16) (n14 := ρ 19) (n15 := ρ 20) (n16 := ρ 21) (n17 := ρ 22) (H0 := η 0) (H1 := η 1) (H2 := η 2) (H3 := η 3) (H4 := η 4) f25 f24 f23 f22 f21 f20 f19 f18 f17 f16 f15 f14 f13 f12 f11 f10 f9 f8 f7 f6 f5 f4 f3 f2 f1 f0
set_option maxHeartbeats 20000000 in
theorem q_228_4 {n0 n1 n2 n3 n4 n5 n6 n7 n8 n9 n10 n11 n12 n13 n14 n15 n16 n17 n18 n19 n20 n21 : Int} {H0 H1 H2 H3 H4 : gH} (f0 : n0 ≤ 1007) (f1 : 0 ≤ n0) (f2 : n1 = 285) (f3 : hWt T0 H0 ∧ preb_228 n1 n0 H0) (f4 : n2 = 300) (f5 : n2 = hV H0 (n1).toNat 26) (f6 : n3 = 0) (f7 : n4 = 19) (f8 : n5 ≤ 9999) (f9 : 0 ≤ n5) (f10 : (hLe T0 H0 H1 ∧ hFr s_223.2.2.2.2 H0 H1 ∧ ((0 : Int) = 0 → H1.length = H0.length) ∧ hWt T0 H1) ∧ postb_223 n5 n1 n3 n4 H0 H1) (f11 : hUpd H2 H1 n2 n0 n5) (f12 : n6 = 25) (f13 : (hLe T0 H2 H3 ∧ hFr s_220.2.2.2.2 H2 H3 ∧ ((0 : Int) = 0 → H3.length = H2.length) ∧ hWt T0 H3) ∧ postb_220 n1 n6 H2 H3) (f14 : n7 = 0) (f15 : (hLe T0 H3 H4 ∧ hFr s_229.2.2.2.2 H3 H4 ∧ ((0 : Int) = 0 → H4.length = H3.length) ∧ hWt T0 H4) ∧ postb_229 n1 n0 n7 H3 H4) (f16 : n8 = 6) (f17 : n9 = w32 (n8 * n0)) (f18 : n10 = 6) (f19 : n11 = w32 (n10 * n0)) (f20 : n12 = 1) (f21 : n13 = w32 (n11 + n12)) (f22 : n14 = 6) (f23 : n15 = w32 (n14 * n0)) (f24 : n16 = 2) (f25 : n17 = w32 (n15 + n16)) (f26 : n18 = 6) (f27 : n19 = w32 (n18 * n0)) (f28 : n20 = 3) (f29 : n21 = w32 (n19 + n20)) : 0 ≤ n21 ∧ n21 < 6048 := by
  unfold preb_228 at f3
  unfold postb_223 at f10
  unfold postb_220 at f13
  unfold postb_229 at f15
  have e0 : hV H1 288 = hV H0 288 := fRow f10.1.2.1 288 kR_223_288
  have e1 : hV H2 285 11 = hV H1 285 11 := uPlace f11 _ _ (iS (show n2 = ((300 : Nat) : Int) from f4) rfl)
  have e2 : hV H2 285 11 = hV H1 285 11 := e1
  have e3 : hV H2 285 13 = hV H1 285 13 := uPlace f11 _ _ (iS (show n2 = ((300 : Nat) : Int) from f4) rfl)
  have e4 : hV H2 285 13 = hV H1 285 13 := e3
  have e5 : hV H3 285 15 = hV H2 285 15 := f13.1.2.1.1 285 15 kF_220_285_15
  have e6 : hV H2 285 15 = hV H1 285 15 := uPlace f11 _ _ (iS (show n2 = ((300 : Nat) : Int) from f4) rfl)
  have e7 : hV H3 285 15 = hV H1 285 15 := (e5).trans e6
  have e8 : hV H3 288 = hV H2 288 := fRow f13.1.2.1 288 kR_220_288
  have e9 : hV H2 288 = hV H1 288 := uRowNe f11 _ (iS (show n2 = ((300 : Nat) : Int) from f4) rfl)
  have e10 : hV H2 288 = hV H0 288 := e9.trans e0
  have e11 : hV H3 288 = hV H0 288 := e8.trans e10
  have e12 : hV H3 301 = hV H2 301 := fRow f13.1.2.1 301 kR_220_301
  have e13 : hV H2 301 = hV H1 301 := uRowNe f11 _ (iS (show n2 = ((300 : Nat) : Int) from f4) rfl)
  have e14 : hV H1 301 = hV H0 301 := fRow f10.1.2.1 301 kR_223_301
  have e15 : hV H2 301 = hV H0 301 := e13.trans e14
  have e16 : hV H3 301 = hV H0 301 := e12.trans e15
  have e17 : hV H3 302 = hV H2 302 := fRow f13.1.2.1 302 kR_220_302
  have e18 : hV H2 302 = hV H1 302 := uRowNe f11 _ (iS (show n2 = ((300 : Nat) : Int) from f4) rfl)
  have e19 : hV H1 302 = hV H0 302 := fRow f10.1.2.1 302 kR_223_302
  have e20 : hV H2 302 = hV H0 302 := e18.trans e19
  have e21 : hV H3 302 = hV H0 302 := e17.trans e20
  have e22 : hV H3 303 = hV H2 303 := fRow f13.1.2.1 303 kR_220_303
  have e23 : hV H2 303 = hV H1 303 := uRowNe f11 _ (iS (show n2 = ((300 : Nat) : Int) from f4) rfl)
  have e24 : hV H1 303 = hV H0 303 := fRow f10.1.2.1 303 kR_223_303
  have e25 : hV H2 303 = hV H0 303 := e23.trans e24
  have e26 : hV H3 303 = hV H0 303 := e22.trans e25
  have e27 : hV H4 285 18 = hV H3 285 18 := f15.1.2.1.1 285 18 kF_229_285_18
  have e28 : hV H3 285 18 = hV H2 285 18 := f13.1.2.1.1 285 18 kF_220_285_18
  have e29 : hV H2 285 18 = hV H1 285 18 := uPlace f11 _ _ (iS (show n2 = ((300 : Nat) : Int) from f4) rfl)
  have e30 : hV H1 285 18 = hV H0 285 18 := f10.1.2.1.1 285 18 kF_223_285_18
  have e31 : hV H4 285 18 = hV H0 285 18 := (e27).trans ((e28).trans ((e29).trans e30))
  have e32 : hV H4 285 32 = hV H3 285 32 := f15.1.2.1.1 285 32 kF_229_285_32
  have e33 : hV H3 285 32 = hV H2 285 32 := f13.1.2.1.1 285 32 kF_220_285_32
  have e34 : hV H2 285 32 = hV H1 285 32 := uPlace f11 _ _ (iS (show n2 = ((300 : Nat) : Int) from f4) rfl)
  have e35 : hV H1 285 32 = hV H0 285 32 := f10.1.2.1.1 285 32 kF_223_285_32
  have e36 : hV H4 285 32 = hV H0 285 32 := (e32).trans ((e33).trans ((e34).trans e35))
  have e37 : hV H4 285 33 = hV H3 285 33 := f15.1.2.1.1 285 33 kF_229_285_33
  have e38 : hV H3 285 33 = hV H2 285 33 := f13.1.2.1.1 285 33 kF_220_285_33
  have e39 : hV H2 285 33 = hV H1 285 33 := uPlace f11 _ _ (iS (show n2 = ((300 : Nat) : Int) from f4) rfl)
  have e40 : hV H1 285 33 = hV H0 285 33 := f10.1.2.1.1 285 33 kF_223_285_33
  have e41 : hV H4 285 33 = hV H0 285 33 := (e37).trans ((e38).trans ((e39).trans e40))
  have e42 : hV H4 285 64 = hV H3 285 64 := f15.1.2.1.1 285 64 kF_229_285_64
  have e43 : hV H3 285 64 = hV H2 285 64 := f13.1.2.1.1 285 64 kF_220_285_64
  have e44 : hV H2 285 64 = hV H1 285 64 := uPlace f11 _ _ (iS (show n2 = ((300 : Nat) : Int) from f4) rfl)
  have e45 : hV H1 285 64 = hV H0 285 64 := f10.1.2.1.1 285 64 kF_223_285_64
  have e46 : hV H4 285 64 = hV H0 285 64 := (e42).trans ((e43).trans ((e44).trans e45))
  have e47 : hV H4 294 = hV H3 294 := fRow f15.1.2.1 294 kR_229_294
  have e48 : hV H3 294 = hV H2 294 := fRow f13.1.2.1 294 kR_220_294
  have e49 : hV H2 294 = hV H1 294 := uRowNe f11 _ (iS (show n2 = ((300 : Nat) : Int) from f4) rfl)
  have e50 : hV H1 294 = hV H0 294 := fRow f10.1.2.1 294 kR_223_294
  have e51 : hV H2 294 = hV H0 294 := e49.trans e50
  have e52 : hV H3 294 = hV H0 294 := e48.trans e51
  have e53 : hV H4 294 = hV H0 294 := e47.trans e52
  have e54 : hV H4 296 = hV H3 296 := fRow f15.1.2.1 296 kR_229_296
  have e55 : hV H3 296 = hV H2 296 := fRow f13.1.2.1 296 kR_220_296
  have e56 : hV H2 296 = hV H1 296 := uRowNe f11 _ (iS (show n2 = ((300 : Nat) : Int) from f4) rfl)
  have e57 : hV H1 296 = hV H0 296 := fRow f10.1.2.1 296 kR_223_296
  have e58 : hV H2 296 = hV H0 296 := e56.trans e57
  have e59 : hV H3 296 = hV H0 296 := e55.trans e58
  have e60 : hV H4 296 = hV H0 296 := e54.trans e59
  have e61 : hV H4 297 = hV H3 297 := fRow f15.1.2.1 297 kR_229_297
  have e62 : hV H3 297 = hV H2 297 := fRow f13.1.2.1 297 kR_220_297
  have e63 : hV H2 297 = hV H1 297 := uRowNe f11 _ (iS (show n2 = ((300 : Nat) : Int) from f4) rfl)
  have e64 : hV H1 297 = hV H0 297 := fRow f10.1.2.1 297 kR_223_297
  have e65 : hV H2 297 = hV H0 297 := e63.trans e64
  have e66 : hV H3 297 = hV H0 297 := e62.trans e65
  have e67 : hV H4 297 = hV H0 297 := e61.trans e66
  have e68 : hV H4 298 = hV H3 298 := fRow f15.1.2.1 298 kR_229_298
  have e69 : hV H3 298 = hV H2 298 := fRow f13.1.2.1 298 kR_220_298
  have e70 : hV H2 298 = hV H1 298 := uRowNe f11 _ (iS (show n2 = ((300 : Nat) : Int) from f4) rfl)
  have e71 : hV H1 298 = hV H0 298 := fRow f10.1.2.1 298 kR_223_298
  have e72 : hV H2 298 = hV H0 298 := e70.trans e71
  have e73 : hV H3 298 = hV H0 298 := e69.trans e72
  have e74 : hV H4 298 = hV H0 298 := e68.trans e73
  have e75 : hV H4 300 = hV H3 300 := fRow f15.1.2.1 300 kR_229_300
  have e76 : hV H3 300 = hV H2 300 := fRow f13.1.2.1 300 kR_220_300
  have e77 : hV H2 300 = uF (hV H1 300) n0 n5 := uRow f11 _ f4.symm
  have e78 : hV H1 300 = hV H0 300 := fRow f10.1.2.1 300 kR_223_300
  have e79 : hV H2 300 = (uF (hV H0 300) n0 n5) := e77.trans (congrArg (fun z => uF z n0 n5) e78)
  have e80 : hV H3 300 = (uF (hV H0 300) n0 n5) := e76.trans e79
  have e81 : hV H4 300 = (uF (hV H0 300) n0 n5) := e75.trans e80
  have e82 : hV H4 305 = hV H3 305 := fRow f15.1.2.1 305 kR_229_305
  have e83 : hV H3 305 = hV H2 305 := fRow f13.1.2.1 305 kR_220_305
  have e84 : hV H2 305 = hV H1 305 := uRowNe f11 _ (iS (show n2 = ((300 : Nat) : Int) from f4) rfl)
  have e85 : hV H1 305 = hV H0 305 := fRow f10.1.2.1 305 kR_223_305
  have e86 : hV H2 305 = hV H0 305 := e84.trans e85
  have e87 : hV H3 305 = hV H0 305 := e83.trans e86
  have e88 : hV H4 305 = hV H0 305 := e82.trans e87
  have e89 : hV H4 328 = hV H3 328 := fRow f15.1.2.1 328 kR_229_328
  have e90 : hV H3 328 = hV H2 328 := fRow f13.1.2.1 328 kR_220_328
  have e91 : hV H2 328 = hV H1 328 := uRowNe f11 _ (iS (show n2 = ((300 : Nat) : Int) from f4) rfl)
  have e92 : hV H1 328 = hV H0 328 := fRow f10.1.2.1 328 kR_223_328
  have e93 : hV H2 328 = hV H0 328 := e91.trans e92
  have e94 : hV H3 328 = hV H0 328 := e90.trans e93
  have e95 : hV H4 328 = hV H0 328 := e89.trans e94
  have e96 : hV H4 332 = hV H3 332 := fRow f15.1.2.1 332 kR_229_332
  have e97 : hV H3 332 = hV H2 332 := fRow f13.1.2.1 332 kR_220_332
  have e98 : hV H2 332 = hV H1 332 := uRowNe f11 _ (iS (show n2 = ((300 : Nat) : Int) from f4) rfl)
  have e99 : hV H1 332 = hV H0 332 := fRow f10.1.2.1 332 kR_223_332
  have e100 : hV H2 332 = hV H0 332 := e98.trans e99
  have e101 : hV H3 332 = hV H0 332 := e97.trans e100
  have e102 : hV H4 332 = hV H0 332 := e96.trans e101
  have e103 : hV H4 335 = hV H3 335 := fRow f15.1.2.1 335 kR_229_335
  have e104 : hV H3 335 = hV H2 335 := fRow f13.1.2.1 335 kR_220_335
  have e105 : hV H2 335 = hV H1 335 := uRowNe f11 _ (iS (show n2 = ((300 : Nat) : Int) from f4) rfl)
  have e106 : hV H1 335 = hV H0 335 := fRow f10.1.2.1 335 kR_223_335
  have e107 : hV H2 335 = hV H0 335 := e105.trans e106
  have e108 : hV H3 335 = hV H0 335 := e104.trans e107
  have e109 : hV H4 335 = hV H0 335 := e103.trans e108
  have e110 : (0 : Int) ≤ hV H0 285 11 ∧ hV H0 285 11 ≤ 500 := f3.1 285 11 _ _ kW_285_11
  have e111 : (0 : Int) ≤ hV H0 285 13 ∧ hV H0 285 13 ≤ 2 := f3.1 285 13 _ _ kW_285_13
  have e112 : (0 : Int) ≤ hV H0 285 15 ∧ hV H0 285 15 ≤ 6 := f3.1 285 15 _ _ kW_285_15
  have e113 : (0 : Int) ≤ hV H0 285 18 ∧ hV H0 285 18 ≤ 8 := f3.1 285 18 _ _ kW_285_18
  have e114 : (0 : Int) ≤ hV H0 285 32 ∧ hV H0 285 32 ≤ 7 := f3.1 285 32 _ _ kW_285_32
  have e115 : (0 : Int) ≤ hV H0 285 33 ∧ hV H0 285 33 ≤ 62 := f3.1 285 33 _ _ kW_285_33
  have e116 : (0 : Int) ≤ hV H0 285 64 ∧ hV H0 285 64 ≤ 20 := f3.1 285 64 _ _ kW_285_64
  have e117 : (0 : Int) ≤ hV H1 285 11 ∧ hV H1 285 11 ≤ 500 := f10.1.2.2.2 285 11 _ _ kW_285_11
  have e118 : (0 : Int) ≤ hV H1 285 13 ∧ hV H1 285 13 ≤ 2 := f10.1.2.2.2 285 13 _ _ kW_285_13
  have e119 : (0 : Int) ≤ hV H1 285 15 ∧ hV H1 285 15 ≤ 6 := f10.1.2.2.2 285 15 _ _ kW_285_15
  have e120 : (0 : Int) ≤ hV H3 285 11 ∧ hV H3 285 11 ≤ 500 := f13.1.2.2.2 285 11 _ _ kW_285_11
  have e121 : (0 : Int) ≤ hV H3 285 13 ∧ hV H3 285 13 ≤ 2 := f13.1.2.2.2 285 13 _ _ kW_285_13
  have e122 : (0 : Int) ≤ hV H3 285 15 ∧ hV H3 285 15 ≤ 6 := f13.1.2.2.2 285 15 _ _ kW_285_15
  have e123 : (0 : Int) ≤ hV H4 285 11 ∧ hV H4 285 11 ≤ 500 := f15.1.2.2.2 285 11 _ _ kW_285_11
  have e124 : (0 : Int) ≤ hV H4 285 13 ∧ hV H4 285 13 ≤ 2 := f15.1.2.2.2 285 13 _ _ kW_285_13
  have e125 : (0 : Int) ≤ hV H4 285 15 ∧ hV H4 285 15 ≤ 6 := f15.1.2.2.2 285 15 _ _ kW_285_15
  have e126 : (0 : Int) ≤ hV H4 285 18 ∧ hV H4 285 18 ≤ 8 := f15.1.2.2.2 285 18 _ _ kW_285_18
  have e127 : (0 : Int) ≤ hV H4 285 32 ∧ hV H4 285 32 ≤ 7 := f15.1.2.2.2 285 32 _ _ kW_285_32
  have e128 : (0 : Int) ≤ hV H4 285 33 ∧ hV H4 285 33 ≤ 62 := f15.1.2.2.2 285 33 _ _ kW_285_33
  have e129 : (0 : Int) ≤ hV H4 285 64 ∧ hV H4 285 64 ≤ 20 := f15.1.2.2.2 285 64 _ _ kW_285_64
  try simp only [PA, PW]
  try simp only [e7] at e122
  try simp only [e31] at e126
  try simp only [e36] at e127
  try simp only [e41] at e128
  try simp only [e46] at e129
  have p0 := f3.2.1
  have p1 := f3.2.2.1
  have p2 := f3.2.2.2.1
  have p3 := f3.2.2.2.2.1
  have p4 := f3.2.2.2.2.2.1
  have p5 := f3.2.2.2.2.2.2.1
  have p6 := f3.2.2.2.2.2.2.2.1
  have p7 := f3.2.2.2.2.2.2.2.2
  have r0_0 := f10.2.1
  have r0_1 := f10.2.2.1
  have r0_2 := f10.2.2.2.1
  have r0_3 := f10.2.2.2.2.1
  have r0_4 := f10.2.2.2.2.2.1
  have r0_5 := f10.2.2.2.2.2.2.1
  have r0_6 := f10.2.2.2.2.2.2.2.1
  have r1_0 := f13.2.1
  have r1_1 := f13.2.2.1
  have r1_2 := f13.2.2.2.1
  have r1_3 := f13.2.2.2.2.1
  have r2_0 := f15.2.1
  have r2_1 := f15.2.2.1
  have r2_2 := f15.2.2.2.1
  have r2_3 := f15.2.2.2.2.1
  have r2_4 := f15.2.2.2.2.2.1
  have r2_5 := f15.2.2.2.2.2.2.1
  have r2_6 := f15.2.2.2.2.2.2.2.1
  have r2_7 := f15.2.2.2.2.2.2.2.2.1 f14
  try simp only [PA] at p0
  try simp only [PW] at p5
  try simp only [PA] at r2_0
  try simp only [PW] at r2_1
  try simp only [e2] at r1_0
  try simp only [e2] at r1_1
  try simp only [e4] at r1_2
  try simp only [e2] at r1_3
  try simp only [e31, e46, e53, e60, e74, e81, e88, e95, e102, e109] at r2_0
  try simp only [e36, e41, e53, e60, e67, e74, e81, e88] at r2_1
  try simp only [e7] at r2_5
  try simp only [e7] at r2_6
  try simp only [e7, e11, e16, e21, e26, e31, e36, e41, e46, e53, e60, e67, e74, e81, e88, e95, e102, e109] at r2_7
  have wb0 := (p7 (hV H0 285 32).toNat).1
  have wp0 := (p7 (hV H0 285 33).toNat).2
  clear f5 e0 e1 e2 e3 e4 e5 e6 e7 e8 e9 e10 e11 e12 e13 e14 e15 e16 e17 e18 e19 e20 e21 e22 e23 e24 e25 e26 e27 e28 e29 e30 e31 e32 e33 e34 e35 e36 e37 e38 e39 e40 e41 e42 e43 e44 e45 e46 e47 e48 e49 e50 e51 e52 e53 e54 e55 e56 e57 e58 e59 e60 e61 e62 e63 e64 e65 e66 e67 e68 e69 e70 e71 e72 e73 e74 e75 e76 e78 e79 e80 e81 e82 e83 e84 e85 e86 e87 e88 e89 e90 e91 e92 e93 e94 e95 e96 e97 e98 e99 e100 e101 e102 e103 e104 e105 e106 e107 e108 e109
  clear f3 f10 f13 f15
  rw [f16] at f17
  rw [f18] at f19
  rw [f22] at f23
  rw [f26] at f27
  unfold w32 at *
  try (have ix0 : n19 = 6 * n0 := (by omega); subst ix0)
  try (have ix1 : n21 = (6 * n0) + 3 := (by omega); subst ix1)

  (try clear p0 p5 p7 r2_0 r2_1)
  omega
def g_228_s_4 : vG := ([(1, [28, 26, 27], [], 0), (0, [27], [], 3), (3, [26, 25, 1], [], 0), (0, [25], [], 6), (1, [22, 20, 21], [], 0), (0, [21], [], 2), (3, [20, 19, 1], [], 0), (0, [19], [], 6), (1, [16, 14, 15], [], 0), (0, [15], [], 1), (3, [14, 13, 1], [], 0), (0, [13], [], 6), (3, [10, 9, 1], [], 0), (0, [9], [], 6), (1229, [0, 1, 7], [3, 4], 0), (0, [7], [], 0), (1220, [0, 6], [2, 3], 0), (0, [6], [], 25), (80, [2, 1, 5], [2, 1], 0), (1223, [5, 0, 3, 4], [0, 1], 0), (90, [5], [], 0), (91, [5], [], 9999), (0, [4], [], 19), (0, [3], [], 0), (20, [2, 0], [0], 26), (0, [2], [], 300), (6000, [0, 1], [0], 0), (0, [0], [], 285), (90, [1], [], 0), (91, [1], [], 1007)], (70, [28], [], 6048))
theorem c_228_s_4 : vOkm T0 (eP e_228 L_228 A_228 mu_228 none) 2 g_228_s_4 := vOk_inI fun ρ η f0 f1 f2 f3 f4 f5 f6 f7 f8 f9 f10 f11 f12 f13 f14 f15 f16 f17 f18 f19 f20 f21 f22 f23 f24 f25 f26 f27 f28 f29 => q_228_4 (n0 := ρ 1) (n1 := ρ 0) (n2 := ρ 2) (n3 := ρ 3) (n4 := ρ 4) (n5 := ρ 5) (n6 := ρ 6) (n7 := ρ 7) (n8 := ρ 9) (n9 := ρ 10) (n10 := ρ 13) (n11 := ρ 14) (n12 := ρ 15) (n13 := ρ 16) (n14 := ρ 19) (n15 := ρ 20) (n16 := ρ 21) (n17 := ρ 22) (n18 := ρ 25) (n19 := ρ 26) (n20 := ρ 27) (n21 := ρ 28) (H0 := η 0) (H1 := η 1) (H2 := η 2) (H3 := η 3) (H4 := η 4) f29 f28 f27 f26 f25 f24 f23 f22 f21 f20 f19 f18 f17 f16 f15 f14 f13 f12 f11 f10 f9 f8 f7 f6 f5 f4 f3 f2 f1 f0
set_option maxHeartbeats 20000000 in
theorem q_228_5 {n0 n1 n2 n3 n4 n5 n6 n7 n8 n9 n10 n11 n12 n13 n14 n15 n16 n17 n18 n19 n20 n21 n22 n23 n24 n25 : Int} {H0 H1 H2 H3 H4 : gH} (f0 : n0 ≤ 1007) (f1 : 0 ≤ n0) (f2 : n1 = 285) (f3 : hWt T0 H0 ∧ preb_228 n1 n0 H0) (f4 : n2 = 300) (f5 : n2 = hV H0 (n1).toNat 26) (f6 : n3 = 0) (f7 : n4 = 19) (f8 : n5 ≤ 9999) (f9 : 0 ≤ n5) (f10 : (hLe T0 H0 H1 ∧ hFr s_223.2.2.2.2 H0 H1 ∧ ((0 : Int) = 0 → H1.length = H0.length) ∧ hWt T0 H1) ∧ postb_223 n5 n1 n3 n4 H0 H1) (f11 : hUpd H2 H1 n2 n0 n5) (f12 : n6 = 25) (f13 : (hLe T0 H2 H3 ∧ hFr s_220.2.2.2.2 H2 H3 ∧ ((0 : Int) = 0 → H3.length = H2.length) ∧ hWt T0 H3) ∧ postb_220 n1 n6 H2 H3) (f14 : n7 = 0) (f15 : (hLe T0 H3 H4 ∧ hFr s_229.2.2.2.2 H3 H4 ∧ ((0 : Int) = 0 → H4.length = H3.length) ∧ hWt T0 H4) ∧ postb_229 n1 n0 n7 H3 H4) (f16 : n8 = 6) (f17 : n9 = w32 (n8 * n0)) (f18 : n10 = 6) (f19 : n11 = w32 (n10 * n0)) (f20 : n12 = 1) (f21 : n13 = w32 (n11 + n12)) (f22 : n14 = 6) (f23 : n15 = w32 (n14 * n0)) (f24 : n16 = 2) (f25 : n17 = w32 (n15 + n16)) (f26 : n18 = 6) (f27 : n19 = w32 (n18 * n0)) (f28 : n20 = 3) (f29 : n21 = w32 (n19 + n20)) (f30 : n22 = 6) (f31 : n23 = w32 (n22 * n0)) (f32 : n24 = 4) (f33 : n25 = w32 (n23 + n24)) : 0 ≤ n25 ∧ n25 < 6048 := by
  unfold preb_228 at f3
  unfold postb_223 at f10
  unfold postb_220 at f13
  unfold postb_229 at f15
  have e0 : hV H1 288 = hV H0 288 := fRow f10.1.2.1 288 kR_223_288
  have e1 : hV H2 285 11 = hV H1 285 11 := uPlace f11 _ _ (iS (show n2 = ((300 : Nat) : Int) from f4) rfl)
  have e2 : hV H2 285 11 = hV H1 285 11 := e1
  have e3 : hV H2 285 13 = hV H1 285 13 := uPlace f11 _ _ (iS (show n2 = ((300 : Nat) : Int) from f4) rfl)
  have e4 : hV H2 285 13 = hV H1 285 13 := e3
  have e5 : hV H3 285 15 = hV H2 285 15 := f13.1.2.1.1 285 15 kF_220_285_15
  have e6 : hV H2 285 15 = hV H1 285 15 := uPlace f11 _ _ (iS (show n2 = ((300 : Nat) : Int) from f4) rfl)
  have e7 : hV H3 285 15 = hV H1 285 15 := (e5).trans e6
  have e8 : hV H3 288 = hV H2 288 := fRow f13.1.2.1 288 kR_220_288
  have e9 : hV H2 288 = hV H1 288 := uRowNe f11 _ (iS (show n2 = ((300 : Nat) : Int) from f4) rfl)
  have e10 : hV H2 288 = hV H0 288 := e9.trans e0
  have e11 : hV H3 288 = hV H0 288 := e8.trans e10
  have e12 : hV H3 301 = hV H2 301 := fRow f13.1.2.1 301 kR_220_301
  have e13 : hV H2 301 = hV H1 301 := uRowNe f11 _ (iS (show n2 = ((300 : Nat) : Int) from f4) rfl)
  have e14 : hV H1 301 = hV H0 301 := fRow f10.1.2.1 301 kR_223_301
  have e15 : hV H2 301 = hV H0 301 := e13.trans e14
  have e16 : hV H3 301 = hV H0 301 := e12.trans e15
  have e17 : hV H3 302 = hV H2 302 := fRow f13.1.2.1 302 kR_220_302
  have e18 : hV H2 302 = hV H1 302 := uRowNe f11 _ (iS (show n2 = ((300 : Nat) : Int) from f4) rfl)
  have e19 : hV H1 302 = hV H0 302 := fRow f10.1.2.1 302 kR_223_302
  have e20 : hV H2 302 = hV H0 302 := e18.trans e19
  have e21 : hV H3 302 = hV H0 302 := e17.trans e20
  have e22 : hV H3 303 = hV H2 303 := fRow f13.1.2.1 303 kR_220_303
  have e23 : hV H2 303 = hV H1 303 := uRowNe f11 _ (iS (show n2 = ((300 : Nat) : Int) from f4) rfl)
  have e24 : hV H1 303 = hV H0 303 := fRow f10.1.2.1 303 kR_223_303
  have e25 : hV H2 303 = hV H0 303 := e23.trans e24
  have e26 : hV H3 303 = hV H0 303 := e22.trans e25
  have e27 : hV H4 285 18 = hV H3 285 18 := f15.1.2.1.1 285 18 kF_229_285_18
  have e28 : hV H3 285 18 = hV H2 285 18 := f13.1.2.1.1 285 18 kF_220_285_18
  have e29 : hV H2 285 18 = hV H1 285 18 := uPlace f11 _ _ (iS (show n2 = ((300 : Nat) : Int) from f4) rfl)
  have e30 : hV H1 285 18 = hV H0 285 18 := f10.1.2.1.1 285 18 kF_223_285_18
  have e31 : hV H4 285 18 = hV H0 285 18 := (e27).trans ((e28).trans ((e29).trans e30))
  have e32 : hV H4 285 32 = hV H3 285 32 := f15.1.2.1.1 285 32 kF_229_285_32
  have e33 : hV H3 285 32 = hV H2 285 32 := f13.1.2.1.1 285 32 kF_220_285_32
  have e34 : hV H2 285 32 = hV H1 285 32 := uPlace f11 _ _ (iS (show n2 = ((300 : Nat) : Int) from f4) rfl)
  have e35 : hV H1 285 32 = hV H0 285 32 := f10.1.2.1.1 285 32 kF_223_285_32
  have e36 : hV H4 285 32 = hV H0 285 32 := (e32).trans ((e33).trans ((e34).trans e35))
  have e37 : hV H4 285 33 = hV H3 285 33 := f15.1.2.1.1 285 33 kF_229_285_33
  have e38 : hV H3 285 33 = hV H2 285 33 := f13.1.2.1.1 285 33 kF_220_285_33
  have e39 : hV H2 285 33 = hV H1 285 33 := uPlace f11 _ _ (iS (show n2 = ((300 : Nat) : Int) from f4) rfl)
  have e40 : hV H1 285 33 = hV H0 285 33 := f10.1.2.1.1 285 33 kF_223_285_33
  have e41 : hV H4 285 33 = hV H0 285 33 := (e37).trans ((e38).trans ((e39).trans e40))
  have e42 : hV H4 285 64 = hV H3 285 64 := f15.1.2.1.1 285 64 kF_229_285_64
  have e43 : hV H3 285 64 = hV H2 285 64 := f13.1.2.1.1 285 64 kF_220_285_64
  have e44 : hV H2 285 64 = hV H1 285 64 := uPlace f11 _ _ (iS (show n2 = ((300 : Nat) : Int) from f4) rfl)
  have e45 : hV H1 285 64 = hV H0 285 64 := f10.1.2.1.1 285 64 kF_223_285_64
  have e46 : hV H4 285 64 = hV H0 285 64 := (e42).trans ((e43).trans ((e44).trans e45))
  have e47 : hV H4 294 = hV H3 294 := fRow f15.1.2.1 294 kR_229_294
  have e48 : hV H3 294 = hV H2 294 := fRow f13.1.2.1 294 kR_220_294
  have e49 : hV H2 294 = hV H1 294 := uRowNe f11 _ (iS (show n2 = ((300 : Nat) : Int) from f4) rfl)
  have e50 : hV H1 294 = hV H0 294 := fRow f10.1.2.1 294 kR_223_294
  have e51 : hV H2 294 = hV H0 294 := e49.trans e50
  have e52 : hV H3 294 = hV H0 294 := e48.trans e51
  have e53 : hV H4 294 = hV H0 294 := e47.trans e52
  have e54 : hV H4 296 = hV H3 296 := fRow f15.1.2.1 296 kR_229_296
  have e55 : hV H3 296 = hV H2 296 := fRow f13.1.2.1 296 kR_220_296
  have e56 : hV H2 296 = hV H1 296 := uRowNe f11 _ (iS (show n2 = ((300 : Nat) : Int) from f4) rfl)
  have e57 : hV H1 296 = hV H0 296 := fRow f10.1.2.1 296 kR_223_296
  have e58 : hV H2 296 = hV H0 296 := e56.trans e57
  have e59 : hV H3 296 = hV H0 296 := e55.trans e58
  have e60 : hV H4 296 = hV H0 296 := e54.trans e59
  have e61 : hV H4 297 = hV H3 297 := fRow f15.1.2.1 297 kR_229_297
  have e62 : hV H3 297 = hV H2 297 := fRow f13.1.2.1 297 kR_220_297
  have e63 : hV H2 297 = hV H1 297 := uRowNe f11 _ (iS (show n2 = ((300 : Nat) : Int) from f4) rfl)
  have e64 : hV H1 297 = hV H0 297 := fRow f10.1.2.1 297 kR_223_297
  have e65 : hV H2 297 = hV H0 297 := e63.trans e64
  have e66 : hV H3 297 = hV H0 297 := e62.trans e65
  have e67 : hV H4 297 = hV H0 297 := e61.trans e66
  have e68 : hV H4 298 = hV H3 298 := fRow f15.1.2.1 298 kR_229_298
  have e69 : hV H3 298 = hV H2 298 := fRow f13.1.2.1 298 kR_220_298
  have e70 : hV H2 298 = hV H1 298 := uRowNe f11 _ (iS (show n2 = ((300 : Nat) : Int) from f4) rfl)
  have e71 : hV H1 298 = hV H0 298 := fRow f10.1.2.1 298 kR_223_298
  have e72 : hV H2 298 = hV H0 298 := e70.trans e71
  have e73 : hV H3 298 = hV H0 298 := e69.trans e72
  have e74 : hV H4 298 = hV H0 298 := e68.trans e73
  have e75 : hV H4 300 = hV H3 300 := fRow f15.1.2.1 300 kR_229_300
  have e76 : hV H3 300 = hV H2 300 := fRow f13.1.2.1 300 kR_220_300
  have e77 : hV H2 300 = uF (hV H1 300) n0 n5 := uRow f11 _ f4.symm
  have e78 : hV H1 300 = hV H0 300 := fRow f10.1.2.1 300 kR_223_300
  have e79 : hV H2 300 = (uF (hV H0 300) n0 n5) := e77.trans (congrArg (fun z => uF z n0 n5) e78)
  have e80 : hV H3 300 = (uF (hV H0 300) n0 n5) := e76.trans e79
  have e81 : hV H4 300 = (uF (hV H0 300) n0 n5) := e75.trans e80
  have e82 : hV H4 305 = hV H3 305 := fRow f15.1.2.1 305 kR_229_305
  have e83 : hV H3 305 = hV H2 305 := fRow f13.1.2.1 305 kR_220_305
  have e84 : hV H2 305 = hV H1 305 := uRowNe f11 _ (iS (show n2 = ((300 : Nat) : Int) from f4) rfl)
  have e85 : hV H1 305 = hV H0 305 := fRow f10.1.2.1 305 kR_223_305
  have e86 : hV H2 305 = hV H0 305 := e84.trans e85
  have e87 : hV H3 305 = hV H0 305 := e83.trans e86
  have e88 : hV H4 305 = hV H0 305 := e82.trans e87
  have e89 : hV H4 328 = hV H3 328 := fRow f15.1.2.1 328 kR_229_328
  have e90 : hV H3 328 = hV H2 328 := fRow f13.1.2.1 328 kR_220_328
  have e91 : hV H2 328 = hV H1 328 := uRowNe f11 _ (iS (show n2 = ((300 : Nat) : Int) from f4) rfl)
  have e92 : hV H1 328 = hV H0 328 := fRow f10.1.2.1 328 kR_223_328
  have e93 : hV H2 328 = hV H0 328 := e91.trans e92
  have e94 : hV H3 328 = hV H0 328 := e90.trans e93
  have e95 : hV H4 328 = hV H0 328 := e89.trans e94
  have e96 : hV H4 332 = hV H3 332 := fRow f15.1.2.1 332 kR_229_332
  have e97 : hV H3 332 = hV H2 332 := fRow f13.1.2.1 332 kR_220_332
  have e98 : hV H2 332 = hV H1 332 := uRowNe f11 _ (iS (show n2 = ((300 : Nat) : Int) from f4) rfl)
  have e99 : hV H1 332 = hV H0 332 := fRow f10.1.2.1 332 kR_223_332
  have e100 : hV H2 332 = hV H0 332 := e98.trans e99
  have e101 : hV H3 332 = hV H0 332 := e97.trans e100
  have e102 : hV H4 332 = hV H0 332 := e96.trans e101
  have e103 : hV H4 335 = hV H3 335 := fRow f15.1.2.1 335 kR_229_335
  have e104 : hV H3 335 = hV H2 335 := fRow f13.1.2.1 335 kR_220_335
  have e105 : hV H2 335 = hV H1 335 := uRowNe f11 _ (iS (show n2 = ((300 : Nat) : Int) from f4) rfl)
  have e106 : hV H1 335 = hV H0 335 := fRow f10.1.2.1 335 kR_223_335
  have e107 : hV H2 335 = hV H0 335 := e105.trans e106
  have e108 : hV H3 335 = hV H0 335 := e104.trans e107
  have e109 : hV H4 335 = hV H0 335 := e103.trans e108
  have e110 : (0 : Int) ≤ hV H0 285 11 ∧ hV H0 285 11 ≤ 500 := f3.1 285 11 _ _ kW_285_11
  have e111 : (0 : Int) ≤ hV H0 285 13 ∧ hV H0 285 13 ≤ 2 := f3.1 285 13 _ _ kW_285_13
  have e112 : (0 : Int) ≤ hV H0 285 15 ∧ hV H0 285 15 ≤ 6 := f3.1 285 15 _ _ kW_285_15
  have e113 : (0 : Int) ≤ hV H0 285 18 ∧ hV H0 285 18 ≤ 8 := f3.1 285 18 _ _ kW_285_18
  have e114 : (0 : Int) ≤ hV H0 285 32 ∧ hV H0 285 32 ≤ 7 := f3.1 285 32 _ _ kW_285_32
  have e115 : (0 : Int) ≤ hV H0 285 33 ∧ hV H0 285 33 ≤ 62 := f3.1 285 33 _ _ kW_285_33
  have e116 : (0 : Int) ≤ hV H0 285 64 ∧ hV H0 285 64 ≤ 20 := f3.1 285 64 _ _ kW_285_64
  have e117 : (0 : Int) ≤ hV H1 285 11 ∧ hV H1 285 11 ≤ 500 := f10.1.2.2.2 285 11 _ _ kW_285_11
  have e118 : (0 : Int) ≤ hV H1 285 13 ∧ hV H1 285 13 ≤ 2 := f10.1.2.2.2 285 13 _ _ kW_285_13
  have e119 : (0 : Int) ≤ hV H1 285 15 ∧ hV H1 285 15 ≤ 6 := f10.1.2.2.2 285 15 _ _ kW_285_15
  have e120 : (0 : Int) ≤ hV H3 285 11 ∧ hV H3 285 11 ≤ 500 := f13.1.2.2.2 285 11 _ _ kW_285_11
  have e121 : (0 : Int) ≤ hV H3 285 13 ∧ hV H3 285 13 ≤ 2 := f13.1.2.2.2 285 13 _ _ kW_285_13
  have e122 : (0 : Int) ≤ hV H3 285 15 ∧ hV H3 285 15 ≤ 6 := f13.1.2.2.2 285 15 _ _ kW_285_15
  have e123 : (0 : Int) ≤ hV H4 285 11 ∧ hV H4 285 11 ≤ 500 := f15.1.2.2.2 285 11 _ _ kW_285_11
  have e124 : (0 : Int) ≤ hV H4 285 13 ∧ hV H4 285 13 ≤ 2 := f15.1.2.2.2 285 13 _ _ kW_285_13
  have e125 : (0 : Int) ≤ hV H4 285 15 ∧ hV H4 285 15 ≤ 6 := f15.1.2.2.2 285 15 _ _ kW_285_15
  have e126 : (0 : Int) ≤ hV H4 285 18 ∧ hV H4 285 18 ≤ 8 := f15.1.2.2.2 285 18 _ _ kW_285_18
  have e127 : (0 : Int) ≤ hV H4 285 32 ∧ hV H4 285 32 ≤ 7 := f15.1.2.2.2 285 32 _ _ kW_285_32
  have e128 : (0 : Int) ≤ hV H4 285 33 ∧ hV H4 285 33 ≤ 62 := f15.1.2.2.2 285 33 _ _ kW_285_33
  have e129 : (0 : Int) ≤ hV H4 285 64 ∧ hV H4 285 64 ≤ 20 := f15.1.2.2.2 285 64 _ _ kW_285_64
  try simp only [PA, PW]
  try simp only [e7] at e122
  try simp only [e31] at e126
  try simp only [e36] at e127
  try simp only [e41] at e128
  try simp only [e46] at e129
  have p0 := f3.2.1
  have p1 := f3.2.2.1
  have p2 := f3.2.2.2.1
  have p3 := f3.2.2.2.2.1
  have p4 := f3.2.2.2.2.2.1
  have p5 := f3.2.2.2.2.2.2.1
  have p6 := f3.2.2.2.2.2.2.2.1
  have p7 := f3.2.2.2.2.2.2.2.2
  have r0_0 := f10.2.1
  have r0_1 := f10.2.2.1
  have r0_2 := f10.2.2.2.1
  have r0_3 := f10.2.2.2.2.1
  have r0_4 := f10.2.2.2.2.2.1
  have r0_5 := f10.2.2.2.2.2.2.1
  have r0_6 := f10.2.2.2.2.2.2.2.1
  have r1_0 := f13.2.1
  have r1_1 := f13.2.2.1
  have r1_2 := f13.2.2.2.1
  have r1_3 := f13.2.2.2.2.1
  have r2_0 := f15.2.1
  have r2_1 := f15.2.2.1
  have r2_2 := f15.2.2.2.1
  have r2_3 := f15.2.2.2.2.1
  have r2_4 := f15.2.2.2.2.2.1
  have r2_5 := f15.2.2.2.2.2.2.1
  have r2_6 := f15.2.2.2.2.2.2.2.1
  have r2_7 := f15.2.2.2.2.2.2.2.2.1 f14
  try simp only [PA] at p0
  try simp only [PW] at p5
  try simp only [PA] at r2_0
  try simp only [PW] at r2_1
  try simp only [e2] at r1_0
  try simp only [e2] at r1_1
  try simp only [e4] at r1_2
  try simp only [e2] at r1_3
  try simp only [e31, e46, e53, e60, e74, e81, e88, e95, e102, e109] at r2_0
  try simp only [e36, e41, e53, e60, e67, e74, e81, e88] at r2_1
  try simp only [e7] at r2_5
  try simp only [e7] at r2_6
  try simp only [e7, e11, e16, e21, e26, e31, e36, e41, e46, e53, e60, e67, e74, e81, e88, e95, e102, e109] at r2_7
  have wb0 := (p7 (hV H0 285 32).toNat).1
  have wp0 := (p7 (hV H0 285 33).toNat).2
  clear f5 e0 e1 e2 e3 e4 e5 e6 e7 e8 e9 e10 e11 e12 e13 e14 e15 e16 e17 e18 e19 e20 e21 e22 e23 e24 e25 e26 e27 e28 e29 e30 e31 e32 e33 e34 e35 e36 e37 e38 e39 e40 e41 e42 e43 e44 e45 e46 e47 e48 e49 e50 e51 e52 e53 e54 e55 e56 e57 e58 e59 e60 e61 e62 e63 e64 e65 e66 e67 e68 e69 e70 e71 e72 e73 e74 e75 e76 e78 e79 e80 e81 e82 e83 e84 e85 e86 e87 e88 e89 e90 e91 e92 e93 e94 e95 e96 e97 e98 e99 e100 e101 e102 e103 e104 e105 e106 e107 e108 e109
  clear f3 f10 f13 f15
  rw [f16] at f17
  rw [f18] at f19
  rw [f22] at f23
  rw [f26] at f27
  rw [f30] at f31
  unfold w32 at *
  try (have ix0 : n23 = 6 * n0 := (by omega); subst ix0)
  try (have ix1 : n25 = (6 * n0) + 4 := (by omega); subst ix1)

  (try clear p0 p5 p7 r2_0 r2_1)
  omega
def g_228_s_5 : vG := ([(1, [34, 32, 33], [], 0), (0, [33], [], 4), (3, [32, 31, 1], [], 0), (0, [31], [], 6), (1, [28, 26, 27], [], 0), (0, [27], [], 3), (3, [26, 25, 1], [], 0), (0, [25], [], 6), (1, [22, 20, 21], [], 0), (0, [21], [], 2), (3, [20, 19, 1], [], 0), (0, [19], [], 6), (1, [16, 14, 15], [], 0), (0, [15], [], 1), (3, [14, 13, 1], [], 0), (0, [13], [], 6), (3, [10, 9, 1], [], 0), (0, [9], [], 6), (1229, [0, 1, 7], [3, 4], 0), (0, [7], [], 0), (1220, [0, 6], [2, 3], 0), (0, [6], [], 25), (80, [2, 1, 5], [2, 1], 0), (1223, [5, 0, 3, 4], [0, 1], 0), (90, [5], [], 0), (91, [5], [], 9999), (0, [4], [], 19), (0, [3], [], 0), (20, [2, 0], [0], 26), (0, [2], [], 300), (6000, [0, 1], [0], 0), (0, [0], [], 285), (90, [1], [], 0), (91, [1], [], 1007)], (70, [34], [], 6048))
theorem c_228_s_5 : vOkm T0 (eP e_228 L_228 A_228 mu_228 none) 2 g_228_s_5 := vOk_inI fun ρ η f0 f1 f2 f3 f4 f5 f6 f7 f8 f9 f10 f11 f12 f13 f14 f15 f16 f17 f18 f19 f20 f21 f22 f23 f24 f25 f26 f27 f28 f29 f30 f31 f32 f33 => q_228_5 (n0 := ρ 1) (n1 := ρ 0) (n2 := ρ 2) (n3 := ρ 3) (n4 := ρ 4) (n5 := ρ 5) (n6 := ρ 6) (n7 := ρ 7) (n8 := ρ 9) (n9 := ρ 10) (n10 := ρ 13) (n11 := ρ 14) (n12 := ρ 15) (n13 := ρ 16) (n14 := ρ 19) (n15 := ρ 20) (n16 := ρ 21) (n17 := ρ 22) (n18 := ρ 25) (n19 := ρ 26) (n20 := ρ 27) (n21 := ρ 28) (n22 := ρ 31) (n23 := ρ 32) (n24 := ρ 33) (n25 := ρ 34) (H0 := η 0) (H1 := η 1) (H2 := η 2) (H3 := η 3) (H4 := η 4) f33 f32 f31 f30 f29 f28 f27 f26 f25 f24 f23 f22 f21 f20 f19 f18 f17 f16 f15 f14 f13 f12 f11 f10 f9 f8 f7 f6 f5 f4 f3 f2 f1 f0
set_option maxHeartbeats 20000000 in
theorem q_228_6 {n0 n1 n2 n3 n4 n5 n6 n7 n8 n9 n10 n11 n12 n13 n14 n15 n16 n17 n18 n19 n20 n21 n22 n23 n24 n25 n26 n27 n28 n29 n30 n31 n32 n33 n34 n35 n36 n37 : Int} {H0 H1 H2 H3 H4 H5 H6 H7 H8 H9 H10 : gH} (f0 : n0 ≤ 1007) (f1 : 0 ≤ n0) (f2 : n1 = 285) (f3 : hWt T0 H0 ∧ preb_228 n1 n0 H0) (f4 : n2 = 300) (f5 : n2 = hV H0 (n1).toNat 26) (f6 : n3 = 0) (f7 : n4 = 19) (f8 : n5 ≤ 9999) (f9 : 0 ≤ n5) (f10 : (hLe T0 H0 H1 ∧ hFr s_223.2.2.2.2 H0 H1 ∧ ((0 : Int) = 0 → H1.length = H0.length) ∧ hWt T0 H1) ∧ postb_223 n5 n1 n3 n4 H0 H1) (f11 : hUpd H2 H1 n2 n0 n5) (f12 : n6 = 25) (f13 : (hLe T0 H2 H3 ∧ hFr s_220.2.2.2.2 H2 H3 ∧ ((0 : Int) = 0 → H3.length = H2.length) ∧ hWt T0 H3) ∧ postb_220 n1 n6 H2 H3) (f14 : n7 = 0) (f15 : (hLe T0 H3 H4 ∧ hFr s_229.2.2.2.2 H3 H4 ∧ ((0 : Int) = 0 → H4.length = H3.length) ∧ hWt T0 H4) ∧ postb_229 n1 n0 n7 H3 H4) (f16 : n8 = 305) (f17 : n8 = hV H4 (n1).toNat 31) (f18 : n9 = 6) (f19 : n10 = w32 (n9 * n0)) (f20 : n11 = 0) (f21 : hUpd H5 H4 n8 n10 n11) (f22 : n12 = 305) (f23 : n12 = hV H5 (n1).toNat 31) (f24 : n13 = 6) (f25 : n14 = w32 (n13 * n0)) (f26 : n15 = 1) (f27 : n16 = w32 (n14 + n15)) (f28 : n17 = (-1)) (f29 : hUpd H6 H5 n12 n16 n17) (f30 : n18 = 305) (f31 : n18 = hV H6 (n1).toNat 31) (f32 : n19 = 6) (f33 : n20 = w32 (n19 * n0)) (f34 : n21 = 2) (f35 : n22 = w32 (n20 + n21)) (f36 : n23 = 100) (f37 : hUpd H7 H6 n18 n22 n23) (f38 : n24 = 305) (f39 : n24 = hV H7 (n1).toNat 31) (f40 : n25 = 6) (f41 : n26 = w32 (n25 * n0)) (f42 : n27 = 3) (f43 : n28 = w32 (n26 + n27)) (f44 : n29 = 1) (f45 : hUpd H8 H7 n24 n28 n29) (f46 : n30 = 305) (f47 : n30 = hV H8 (n1).toNat 31) (f48 : n31 = 6) (f49 : n32 = w32 (n31 * n0)) (f50 : n33 = 4) (f51 : n34 = w32 (n32 + n33)) (f52 : n35 = 1) (f53 : hUpd H9 H8 n30 n34 n35) (f54 : n36 = 26) (f55 : n37 ≤ 1) (f56 : 0 ≤ n37) (f57 : (hLe T0 H9 H10 ∧ hFr s_216.2.2.2.2 H9 H10 ∧ ((0 : Int) = 0 → H10.length = H9.length) ∧ hWt T0 H10) ∧ postb_216 n37 n1 n36 H9 H10) (f58 : n37 = 0) : Ab_228_113 n1 n0 n1 n0 H0 H10 ∧ ∀ q, none = some q → mub_228_113 n1 n0 n1 n0 H0 H10 < q := by
  unfold preb_228 at f3
  unfold postb_223 at f10
  unfold postb_220 at f13
  unfold postb_229 at f15
  unfold postb_216 at f57
  unfold Ab_228_113
  have e0 : hV H1 288 = hV H0 288 := fRow f10.1.2.1 288 kR_223_288
  have e1 : hV H10 285 11 = hV H9 285 11 := f57.1.2.1.1 285 11 kF_216_285_11
  have e2 : hV H9 285 11 = hV H8 285 11 := uPlace f53 _ _ (iS (show n30 = ((305 : Nat) : Int) from f46) rfl)
  have e3 : hV H8 285 11 = hV H7 285 11 := uPlace f45 _ _ (iS (show n24 = ((305 : Nat) : Int) from f38) rfl)
  have e4 : hV H7 285 11 = hV H6 285 11 := uPlace f37 _ _ (iS (show n18 = ((305 : Nat) : Int) from f30) rfl)
  have e5 : hV H6 285 11 = hV H5 285 11 := uPlace f29 _ _ (iS (show n12 = ((305 : Nat) : Int) from f22) rfl)
  have e6 : hV H5 285 11 = hV H4 285 11 := uPlace f21 _ _ (iS (show n8 = ((305 : Nat) : Int) from f16) rfl)
  have e7 : hV H10 285 11 = hV H4 285 11 := (e1).trans ((e2).trans ((e3).trans ((e4).trans ((e5).trans e6))))
  have e8 : hV H10 285 13 = hV H9 285 13 := f57.1.2.1.1 285 13 kF_216_285_13
  have e9 : hV H9 285 13 = hV H8 285 13 := uPlace f53 _ _ (iS (show n30 = ((305 : Nat) : Int) from f46) rfl)
  have e10 : hV H8 285 13 = hV H7 285 13 := uPlace f45 _ _ (iS (show n24 = ((305 : Nat) : Int) from f38) rfl)
  have e11 : hV H7 285 13 = hV H6 285 13 := uPlace f37 _ _ (iS (show n18 = ((305 : Nat) : Int) from f30) rfl)
  have e12 : hV H6 285 13 = hV H5 285 13 := uPlace f29 _ _ (iS (show n12 = ((305 : Nat) : Int) from f22) rfl)
  have e13 : hV H5 285 13 = hV H4 285 13 := uPlace f21 _ _ (iS (show n8 = ((305 : Nat) : Int) from f16) rfl)
  have e14 : hV H10 285 13 = hV H4 285 13 := (e8).trans ((e9).trans ((e10).trans ((e11).trans ((e12).trans e13))))
  have e15 : hV H10 285 15 = hV H9 285 15 := f57.1.2.1.1 285 15 kF_216_285_15
  have e16 : hV H9 285 15 = hV H8 285 15 := uPlace f53 _ _ (iS (show n30 = ((305 : Nat) : Int) from f46) rfl)
  have e17 : hV H8 285 15 = hV H7 285 15 := uPlace f45 _ _ (iS (show n24 = ((305 : Nat) : Int) from f38) rfl)
  have e18 : hV H7 285 15 = hV H6 285 15 := uPlace f37 _ _ (iS (show n18 = ((305 : Nat) : Int) from f30) rfl)
  have e19 : hV H6 285 15 = hV H5 285 15 := uPlace f29 _ _ (iS (show n12 = ((305 : Nat) : Int) from f22) rfl)
  have e20 : hV H5 285 15 = hV H4 285 15 := uPlace f21 _ _ (iS (show n8 = ((305 : Nat) : Int) from f16) rfl)
  have e21 : hV H10 285 15 = hV H4 285 15 := (e15).trans ((e16).trans ((e17).trans ((e18).trans ((e19).trans e20))))
  have e22 : hV H10 285 18 = hV H9 285 18 := f57.1.2.1.1 285 18 kF_216_285_18
  have e23 : hV H9 285 18 = hV H8 285 18 := uPlace f53 _ _ (iS (show n30 = ((305 : Nat) : Int) from f46) rfl)
  have e24 : hV H8 285 18 = hV H7 285 18 := uPlace f45 _ _ (iS (show n24 = ((305 : Nat) : Int) from f38) rfl)
  have e25 : hV H7 285 18 = hV H6 285 18 := uPlace f37 _ _ (iS (show n18 = ((305 : Nat) : Int) from f30) rfl)
  have e26 : hV H6 285 18 = hV H5 285 18 := uPlace f29 _ _ (iS (show n12 = ((305 : Nat) : Int) from f22) rfl)
  have e27 : hV H5 285 18 = hV H4 285 18 := uPlace f21 _ _ (iS (show n8 = ((305 : Nat) : Int) from f16) rfl)
  have e28 : hV H4 285 18 = hV H3 285 18 := f15.1.2.1.1 285 18 kF_229_285_18
  have e29 : hV H3 285 18 = hV H2 285 18 := f13.1.2.1.1 285 18 kF_220_285_18
  have e30 : hV H2 285 18 = hV H1 285 18 := uPlace f11 _ _ (iS (show n2 = ((300 : Nat) : Int) from f4) rfl)
  have e31 : hV H1 285 18 = hV H0 285 18 := f10.1.2.1.1 285 18 kF_223_285_18
  have e32 : hV H10 285 18 = hV H0 285 18 := (e22).trans ((e23).trans ((e24).trans ((e25).trans ((e26).trans ((e27).trans ((e28).trans ((e29).trans ((e30).trans e31))))))))
  have e33 : hV H10 285 32 = hV H9 285 32 := f57.1.2.1.1 285 32 kF_216_285_32
  have e34 : hV H9 285 32 = hV H8 285 32 := uPlace f53 _ _ (iS (show n30 = ((305 : Nat) : Int) from f46) rfl)
  have e35 : hV H8 285 32 = hV H7 285 32 := uPlace f45 _ _ (iS (show n24 = ((305 : Nat) : Int) from f38) rfl)
  have e36 : hV H7 285 32 = hV H6 285 32 := uPlace f37 _ _ (iS (show n18 = ((305 : Nat) : Int) from f30) rfl)
  have e37 : hV H6 285 32 = hV H5 285 32 := uPlace f29 _ _ (iS (show n12 = ((305 : Nat) : Int) from f22) rfl)
  have e38 : hV H5 285 32 = hV H4 285 32 := uPlace f21 _ _ (iS (show n8 = ((305 : Nat) : Int) from f16) rfl)
  have e39 : hV H4 285 32 = hV H3 285 32 := f15.1.2.1.1 285 32 kF_229_285_32
  have e40 : hV H3 285 32 = hV H2 285 32 := f13.1.2.1.1 285 32 kF_220_285_32
  have e41 : hV H2 285 32 = hV H1 285 32 := uPlace f11 _ _ (iS (show n2 = ((300 : Nat) : Int) from f4) rfl)
  have e42 : hV H1 285 32 = hV H0 285 32 := f10.1.2.1.1 285 32 kF_223_285_32
  have e43 : hV H10 285 32 = hV H0 285 32 := (e33).trans ((e34).trans ((e35).trans ((e36).trans ((e37).trans ((e38).trans ((e39).trans ((e40).trans ((e41).trans e42))))))))
  have e44 : hV H10 285 33 = hV H9 285 33 := f57.1.2.1.1 285 33 kF_216_285_33
  have e45 : hV H9 285 33 = hV H8 285 33 := uPlace f53 _ _ (iS (show n30 = ((305 : Nat) : Int) from f46) rfl)
  have e46 : hV H8 285 33 = hV H7 285 33 := uPlace f45 _ _ (iS (show n24 = ((305 : Nat) : Int) from f38) rfl)
  have e47 : hV H7 285 33 = hV H6 285 33 := uPlace f37 _ _ (iS (show n18 = ((305 : Nat) : Int) from f30) rfl)
  have e48 : hV H6 285 33 = hV H5 285 33 := uPlace f29 _ _ (iS (show n12 = ((305 : Nat) : Int) from f22) rfl)
  have e49 : hV H5 285 33 = hV H4 285 33 := uPlace f21 _ _ (iS (show n8 = ((305 : Nat) : Int) from f16) rfl)
  have e50 : hV H4 285 33 = hV H3 285 33 := f15.1.2.1.1 285 33 kF_229_285_33
  have e51 : hV H3 285 33 = hV H2 285 33 := f13.1.2.1.1 285 33 kF_220_285_33
  have e52 : hV H2 285 33 = hV H1 285 33 := uPlace f11 _ _ (iS (show n2 = ((300 : Nat) : Int) from f4) rfl)
  have e53 : hV H1 285 33 = hV H0 285 33 := f10.1.2.1.1 285 33 kF_223_285_33
  have e54 : hV H10 285 33 = hV H0 285 33 := (e44).trans ((e45).trans ((e46).trans ((e47).trans ((e48).trans ((e49).trans ((e50).trans ((e51).trans ((e52).trans e53))))))))
  have e55 : hV H10 285 64 = hV H9 285 64 := f57.1.2.1.1 285 64 kF_216_285_64
  have e56 : hV H9 285 64 = hV H8 285 64 := uPlace f53 _ _ (iS (show n30 = ((305 : Nat) : Int) from f46) rfl)
  have e57 : hV H8 285 64 = hV H7 285 64 := uPlace f45 _ _ (iS (show n24 = ((305 : Nat) : Int) from f38) rfl)
  have e58 : hV H7 285 64 = hV H6 285 64 := uPlace f37 _ _ (iS (show n18 = ((305 : Nat) : Int) from f30) rfl)
  have e59 : hV H6 285 64 = hV H5 285 64 := uPlace f29 _ _ (iS (show n12 = ((305 : Nat) : Int) from f22) rfl)
  have e60 : hV H5 285 64 = hV H4 285 64 := uPlace f21 _ _ (iS (show n8 = ((305 : Nat) : Int) from f16) rfl)
  have e61 : hV H4 285 64 = hV H3 285 64 := f15.1.2.1.1 285 64 kF_229_285_64
  have e62 : hV H3 285 64 = hV H2 285 64 := f13.1.2.1.1 285 64 kF_220_285_64
  have e63 : hV H2 285 64 = hV H1 285 64 := uPlace f11 _ _ (iS (show n2 = ((300 : Nat) : Int) from f4) rfl)
  have e64 : hV H1 285 64 = hV H0 285 64 := f10.1.2.1.1 285 64 kF_223_285_64
  have e65 : hV H10 285 64 = hV H0 285 64 := (e55).trans ((e56).trans ((e57).trans ((e58).trans ((e59).trans ((e60).trans ((e61).trans ((e62).trans ((e63).trans e64))))))))
  have e73 : hV H3 288 = hV H2 288 := fRow f13.1.2.1 288 kR_220_288
  have e74 : hV H2 288 = hV H1 288 := uRowNe f11 _ (iS (show n2 = ((300 : Nat) : Int) from f4) rfl)
  have e75 : hV H2 288 = hV H0 288 := e74.trans e0
  have e76 : hV H3 288 = hV H0 288 := e73.trans e75
  have e84 : hV H10 294 = hV H9 294 := fRow f57.1.2.1 294 kR_216_294
  have e85 : hV H9 294 = hV H8 294 := uRowNe f53 _ (iS (show n30 = ((305 : Nat) : Int) from f46) rfl)
  have e86 : hV H8 294 = hV H7 294 := uRowNe f45 _ (iS (show n24 = ((305 : Nat) : Int) from f38) rfl)
  have e87 : hV H7 294 = hV H6 294 := uRowNe f37 _ (iS (show n18 = ((305 : Nat) : Int) from f30) rfl)
  have e88 : hV H6 294 = hV H5 294 := uRowNe f29 _ (iS (show n12 = ((305 : Nat) : Int) from f22) rfl)
  have e89 : hV H5 294 = hV H4 294 := uRowNe f21 _ (iS (show n8 = ((305 : Nat) : Int) from f16) rfl)
  have e90 : hV H4 294 = hV H3 294 := fRow f15.1.2.1 294 kR_229_294
  have e91 : hV H3 294 = hV H2 294 := fRow f13.1.2.1 294 kR_220_294
  have e92 : hV H2 294 = hV H1 294 := uRowNe f11 _ (iS (show n2 = ((300 : Nat) : Int) from f4) rfl)
  have e93 : hV H1 294 = hV H0 294 := fRow f10.1.2.1 294 kR_223_294
  have e94 : hV H2 294 = hV H0 294 := e92.trans e93
  have e95 : hV H3 294 = hV H0 294 := e91.trans e94
  have e96 : hV H4 294 = hV H0 294 := e90.trans e95
  have e97 : hV H5 294 = hV H0 294 := e89.trans e96
  have e98 : hV H6 294 = hV H0 294 := e88.trans e97
  have e99 : hV H7 294 = hV H0 294 := e87.trans e98
  have e100 : hV H8 294 = hV H0 294 := e86.trans e99
  have e101 : hV H9 294 = hV H0 294 := e85.trans e100
  have e102 : hV H10 294 = hV H0 294 := e84.trans e101
  have e103 : hV H10 296 = hV H9 296 := fRow f57.1.2.1 296 kR_216_296
  have e104 : hV H9 296 = hV H8 296 := uRowNe f53 _ (iS (show n30 = ((305 : Nat) : Int) from f46) rfl)
  have e105 : hV H8 296 = hV H7 296 := uRowNe f45 _ (iS (show n24 = ((305 : Nat) : Int) from f38) rfl)
  have e106 : hV H7 296 = hV H6 296 := uRowNe f37 _ (iS (show n18 = ((305 : Nat) : Int) from f30) rfl)
  have e107 : hV H6 296 = hV H5 296 := uRowNe f29 _ (iS (show n12 = ((305 : Nat) : Int) from f22) rfl)
  have e108 : hV H5 296 = hV H4 296 := uRowNe f21 _ (iS (show n8 = ((305 : Nat) : Int) from f16) rfl)
  have e109 : hV H4 296 = hV H3 296 := fRow f15.1.2.1 296 kR_229_296
  have e110 : hV H3 296 = hV H2 296 := fRow f13.1.2.1 296 kR_220_296
  have e111 : hV H2 296 = hV H1 296 := uRowNe f11 _ (iS (show n2 = ((300 : Nat) : Int) from f4) rfl)
  have e112 : hV H1 296 = hV H0 296 := fRow f10.1.2.1 296 kR_223_296
  have e113 : hV H2 296 = hV H0 296 := e111.trans e112
  have e114 : hV H3 296 = hV H0 296 := e110.trans e113
  have e115 : hV H4 296 = hV H0 296 := e109.trans e114
  have e116 : hV H5 296 = hV H0 296 := e108.trans e115
  have e117 : hV H6 296 = hV H0 296 := e107.trans e116
  have e118 : hV H7 296 = hV H0 296 := e106.trans e117
  have e119 : hV H8 296 = hV H0 296 := e105.trans e118
  have e120 : hV H9 296 = hV H0 296 := e104.trans e119
  have e121 : hV H10 296 = hV H0 296 := e103.trans e120
  have e122 : hV H10 297 = hV H9 297 := fRow f57.1.2.1 297 kR_216_297
  have e123 : hV H9 297 = hV H8 297 := uRowNe f53 _ (iS (show n30 = ((305 : Nat) : Int) from f46) rfl)
  have e124 : hV H8 297 = hV H7 297 := uRowNe f45 _ (iS (show n24 = ((305 : Nat) : Int) from f38) rfl)
  have e125 : hV H7 297 = hV H6 297 := uRowNe f37 _ (iS (show n18 = ((305 : Nat) : Int) from f30) rfl)
  have e126 : hV H6 297 = hV H5 297 := uRowNe f29 _ (iS (show n12 = ((305 : Nat) : Int) from f22) rfl)
  have e127 : hV H5 297 = hV H4 297 := uRowNe f21 _ (iS (show n8 = ((305 : Nat) : Int) from f16) rfl)
  have e128 : hV H4 297 = hV H3 297 := fRow f15.1.2.1 297 kR_229_297
  have e129 : hV H3 297 = hV H2 297 := fRow f13.1.2.1 297 kR_220_297
  have e130 : hV H2 297 = hV H1 297 := uRowNe f11 _ (iS (show n2 = ((300 : Nat) : Int) from f4) rfl)
  have e131 : hV H1 297 = hV H0 297 := fRow f10.1.2.1 297 kR_223_297
  have e132 : hV H2 297 = hV H0 297 := e130.trans e131
  have e133 : hV H3 297 = hV H0 297 := e129.trans e132
  have e134 : hV H4 297 = hV H0 297 := e128.trans e133
  have e135 : hV H5 297 = hV H0 297 := e127.trans e134
  have e136 : hV H6 297 = hV H0 297 := e126.trans e135
  have e137 : hV H7 297 = hV H0 297 := e125.trans e136
  have e138 : hV H8 297 = hV H0 297 := e124.trans e137
  have e139 : hV H9 297 = hV H0 297 := e123.trans e138
  have e140 : hV H10 297 = hV H0 297 := e122.trans e139
  have e141 : hV H10 298 = hV H9 298 := fRow f57.1.2.1 298 kR_216_298
  have e142 : hV H9 298 = hV H8 298 := uRowNe f53 _ (iS (show n30 = ((305 : Nat) : Int) from f46) rfl)
  have e143 : hV H8 298 = hV H7 298 := uRowNe f45 _ (iS (show n24 = ((305 : Nat) : Int) from f38) rfl)
  have e144 : hV H7 298 = hV H6 298 := uRowNe f37 _ (iS (show n18 = ((305 : Nat) : Int) from f30) rfl)
  have e145 : hV H6 298 = hV H5 298 := uRowNe f29 _ (iS (show n12 = ((305 : Nat) : Int) from f22) rfl)
  have e146 : hV H5 298 = hV H4 298 := uRowNe f21 _ (iS (show n8 = ((305 : Nat) : Int) from f16) rfl)
  have e147 : hV H4 298 = hV H3 298 := fRow f15.1.2.1 298 kR_229_298
  have e148 : hV H3 298 = hV H2 298 := fRow f13.1.2.1 298 kR_220_298
  have e149 : hV H2 298 = hV H1 298 := uRowNe f11 _ (iS (show n2 = ((300 : Nat) : Int) from f4) rfl)
  have e150 : hV H1 298 = hV H0 298 := fRow f10.1.2.1 298 kR_223_298
  have e151 : hV H2 298 = hV H0 298 := e149.trans e150
  have e152 : hV H3 298 = hV H0 298 := e148.trans e151
  have e153 : hV H4 298 = hV H0 298 := e147.trans e152
  have e154 : hV H5 298 = hV H0 298 := e146.trans e153
  have e155 : hV H6 298 = hV H0 298 := e145.trans e154
  have e156 : hV H7 298 = hV H0 298 := e144.trans e155
  have e157 : hV H8 298 = hV H0 298 := e143.trans e156
  have e158 : hV H9 298 = hV H0 298 := e142.trans e157
  have e159 : hV H10 298 = hV H0 298 := e141.trans e158
  have e160 : hV H10 300 = hV H9 300 := fRow f57.1.2.1 300 kR_216_300
  have e161 : hV H9 300 = hV H8 300 := uRowNe f53 _ (iS (show n30 = ((305 : Nat) : Int) from f46) rfl)
  have e162 : hV H8 300 = hV H7 300 := uRowNe f45 _ (iS (show n24 = ((305 : Nat) : Int) from f38) rfl)
  have e163 : hV H7 300 = hV H6 300 := uRowNe f37 _ (iS (show n18 = ((305 : Nat) : Int) from f30) rfl)
  have e164 : hV H6 300 = hV H5 300 := uRowNe f29 _ (iS (show n12 = ((305 : Nat) : Int) from f22) rfl)
  have e165 : hV H5 300 = hV H4 300 := uRowNe f21 _ (iS (show n8 = ((305 : Nat) : Int) from f16) rfl)
  have e166 : hV H4 300 = hV H3 300 := fRow f15.1.2.1 300 kR_229_300
  have e167 : hV H3 300 = hV H2 300 := fRow f13.1.2.1 300 kR_220_300
  have e168 : hV H2 300 = uF (hV H1 300) n0 n5 := uRow f11 _ f4.symm
  have e169 : hV H1 300 = hV H0 300 := fRow f10.1.2.1 300 kR_223_300
  have e170 : hV H2 300 = (uF (hV H0 300) n0 n5) := e168.trans (congrArg (fun z => uF z n0 n5) e169)
  have e171 : hV H3 300 = (uF (hV H0 300) n0 n5) := e167.trans e170
  have e172 : hV H4 300 = (uF (hV H0 300) n0 n5) := e166.trans e171
  have e173 : hV H5 300 = (uF (hV H0 300) n0 n5) := e165.trans e172
  have e174 : hV H6 300 = (uF (hV H0 300) n0 n5) := e164.trans e173
  have e175 : hV H7 300 = (uF (hV H0 300) n0 n5) := e163.trans e174
  have e176 : hV H8 300 = (uF (hV H0 300) n0 n5) := e162.trans e175
  have e177 : hV H9 300 = (uF (hV H0 300) n0 n5) := e161.trans e176
  have e178 : hV H10 300 = (uF (hV H0 300) n0 n5) := e160.trans e177
  have e179 : hV H10 301 = hV H9 301 := fRow f57.1.2.1 301 kR_216_301
  have e180 : hV H9 301 = hV H8 301 := uRowNe f53 _ (iS (show n30 = ((305 : Nat) : Int) from f46) rfl)
  have e181 : hV H8 301 = hV H7 301 := uRowNe f45 _ (iS (show n24 = ((305 : Nat) : Int) from f38) rfl)
  have e182 : hV H7 301 = hV H6 301 := uRowNe f37 _ (iS (show n18 = ((305 : Nat) : Int) from f30) rfl)
  have e183 : hV H6 301 = hV H5 301 := uRowNe f29 _ (iS (show n12 = ((305 : Nat) : Int) from f22) rfl)
  have e184 : hV H5 301 = hV H4 301 := uRowNe f21 _ (iS (show n8 = ((305 : Nat) : Int) from f16) rfl)
  have e185 : hV H6 301 = hV H4 301 := e183.trans e184
  have e186 : hV H7 301 = hV H4 301 := e182.trans e185
  have e187 : hV H8 301 = hV H4 301 := e181.trans e186
  have e188 : hV H9 301 = hV H4 301 := e180.trans e187
  have e189 : hV H10 301 = hV H4 301 := e179.trans e188
  have e190 : hV H10 302 = hV H9 302 := fRow f57.1.2.1 302 kR_216_302
  have e191 : hV H9 302 = hV H8 302 := uRowNe f53 _ (iS (show n30 = ((305 : Nat) : Int) from f46) rfl)
  have e192 : hV H8 302 = hV H7 302 := uRowNe f45 _ (iS (show n24 = ((305 : Nat) : Int) from f38) rfl)
  have e193 : hV H7 302 = hV H6 302 := uRowNe f37 _ (iS (show n18 = ((305 : Nat) : Int) from f30) rfl)
  have e194 : hV H6 302 = hV H5 302 := uRowNe f29 _ (iS (show n12 = ((305 : Nat) : Int) from f22) rfl)
  have e195 : hV H5 302 = hV H4 302 := uRowNe f21 _ (iS (show n8 = ((305 : Nat) : Int) from f16) rfl)
  have e196 : hV H6 302 = hV H4 302 := e194.trans e195
  have e197 : hV H7 302 = hV H4 302 := e193.trans e196
  have e198 : hV H8 302 = hV H4 302 := e192.trans e197
  have e199 : hV H9 302 = hV H4 302 := e191.trans e198
  have e200 : hV H10 302 = hV H4 302 := e190.trans e199
  have e201 : hV H10 303 = hV H9 303 := fRow f57.1.2.1 303 kR_216_303
  have e202 : hV H9 303 = hV H8 303 := uRowNe f53 _ (iS (show n30 = ((305 : Nat) : Int) from f46) rfl)
  have e203 : hV H8 303 = hV H7 303 := uRowNe f45 _ (iS (show n24 = ((305 : Nat) : Int) from f38) rfl)
  have e204 : hV H7 303 = hV H6 303 := uRowNe f37 _ (iS (show n18 = ((305 : Nat) : Int) from f30) rfl)
  have e205 : hV H6 303 = hV H5 303 := uRowNe f29 _ (iS (show n12 = ((305 : Nat) : Int) from f22) rfl)
  have e206 : hV H5 303 = hV H4 303 := uRowNe f21 _ (iS (show n8 = ((305 : Nat) : Int) from f16) rfl)
  have e207 : hV H6 303 = hV H4 303 := e205.trans e206
  have e208 : hV H7 303 = hV H4 303 := e204.trans e207
  have e209 : hV H8 303 = hV H4 303 := e203.trans e208
  have e210 : hV H9 303 = hV H4 303 := e202.trans e209
  have e211 : hV H10 303 = hV H4 303 := e201.trans e210
  have e212 : hV H10 305 = hV H9 305 := fRow f57.1.2.1 305 kR_216_305
  have e213 : hV H9 305 = uF (hV H8 305) n34 n35 := uRow f53 _ f46.symm
  have e214 : hV H8 305 = uF (hV H7 305) n28 n29 := uRow f45 _ f38.symm
  have e215 : hV H7 305 = uF (hV H6 305) n22 n23 := uRow f37 _ f30.symm
  have e216 : hV H6 305 = uF (hV H5 305) n16 n17 := uRow f29 _ f22.symm
  have e217 : hV H5 305 = uF (hV H4 305) n10 n11 := uRow f21 _ f16.symm
  have e218 : hV H4 305 = hV H3 305 := fRow f15.1.2.1 305 kR_229_305
  have e219 : hV H3 305 = hV H2 305 := fRow f13.1.2.1 305 kR_220_305
  have e220 : hV H2 305 = hV H1 305 := uRowNe f11 _ (iS (show n2 = ((300 : Nat) : Int) from f4) rfl)
  have e221 : hV H1 305 = hV H0 305 := fRow f10.1.2.1 305 kR_223_305
  have e222 : hV H2 305 = hV H0 305 := e220.trans e221
  have e223 : hV H3 305 = hV H0 305 := e219.trans e222
  have e224 : hV H4 305 = hV H0 305 := e218.trans e223
  have e225 : hV H5 305 = (uF (hV H0 305) n10 n11) := e217.trans (congrArg (fun z => uF z n10 n11) e224)
  have e226 : hV H6 305 = (uF (uF (hV H0 305) n10 n11) n16 n17) := e216.trans (congrArg (fun z => uF z n16 n17) e225)
  have e227 : hV H7 305 = (uF (uF (uF (hV H0 305) n10 n11) n16 n17) n22 n23) := e215.trans (congrArg (fun z => uF z n22 n23) e226)
  have e228 : hV H8 305 = (uF (uF (uF (uF (hV H0 305) n10 n11) n16 n17) n22 n23) n28 n29) := e214.trans (congrArg (fun z => uF z n28 n29) e227)
  have e229 : hV H9 305 = (uF (uF (uF (uF (uF (hV H0 305) n10 n11) n16 n17) n22 n23) n28 n29) n34 n35) := e213.trans (congrArg (fun z => uF z n34 n35) e228)
  have e230 : hV H10 305 = (uF (uF (uF (uF (uF (hV H0 305) n10 n11) n16 n17) n22 n23) n28 n29) n34 n35) := e212.trans e229
  have e231 : hV H10 328 = hV H9 328 := fRow f57.1.2.1 328 kR_216_328
  have e232 : hV H9 328 = hV H8 328 := uRowNe f53 _ (iS (show n30 = ((305 : Nat) : Int) from f46) rfl)
  have e233 : hV H8 328 = hV H7 328 := uRowNe f45 _ (iS (show n24 = ((305 : Nat) : Int) from f38) rfl)
  have e234 : hV H7 328 = hV H6 328 := uRowNe f37 _ (iS (show n18 = ((305 : Nat) : Int) from f30) rfl)
  have e235 : hV H6 328 = hV H5 328 := uRowNe f29 _ (iS (show n12 = ((305 : Nat) : Int) from f22) rfl)
  have e236 : hV H5 328 = hV H4 328 := uRowNe f21 _ (iS (show n8 = ((305 : Nat) : Int) from f16) rfl)
  have e237 : hV H4 328 = hV H3 328 := fRow f15.1.2.1 328 kR_229_328
  have e238 : hV H3 328 = hV H2 328 := fRow f13.1.2.1 328 kR_220_328
  have e239 : hV H2 328 = hV H1 328 := uRowNe f11 _ (iS (show n2 = ((300 : Nat) : Int) from f4) rfl)
  have e240 : hV H1 328 = hV H0 328 := fRow f10.1.2.1 328 kR_223_328
  have e241 : hV H2 328 = hV H0 328 := e239.trans e240
  have e242 : hV H3 328 = hV H0 328 := e238.trans e241
  have e243 : hV H4 328 = hV H0 328 := e237.trans e242
  have e244 : hV H5 328 = hV H0 328 := e236.trans e243
  have e245 : hV H6 328 = hV H0 328 := e235.trans e244
  have e246 : hV H7 328 = hV H0 328 := e234.trans e245
  have e247 : hV H8 328 = hV H0 328 := e233.trans e246
  have e248 : hV H9 328 = hV H0 328 := e232.trans e247
  have e249 : hV H10 328 = hV H0 328 := e231.trans e248
  have e250 : hV H10 332 = hV H9 332 := fRow f57.1.2.1 332 kR_216_332
  have e251 : hV H9 332 = hV H8 332 := uRowNe f53 _ (iS (show n30 = ((305 : Nat) : Int) from f46) rfl)
  have e252 : hV H8 332 = hV H7 332 := uRowNe f45 _ (iS (show n24 = ((305 : Nat) : Int) from f38) rfl)
  have e253 : hV H7 332 = hV H6 332 := uRowNe f37 _ (iS (show n18 = ((305 : Nat) : Int) from f30) rfl)
  have e254 : hV H6 332 = hV H5 332 := uRowNe f29 _ (iS (show n12 = ((305 : Nat) : Int) from f22) rfl)
  have e255 : hV H5 332 = hV H4 332 := uRowNe f21 _ (iS (show n8 = ((305 : Nat) : Int) from f16) rfl)
  have e256 : hV H4 332 = hV H3 332 := fRow f15.1.2.1 332 kR_229_332
  have e257 : hV H3 332 = hV H2 332 := fRow f13.1.2.1 332 kR_220_332
  have e258 : hV H2 332 = hV H1 332 := uRowNe f11 _ (iS (show n2 = ((300 : Nat) : Int) from f4) rfl)
  have e259 : hV H1 332 = hV H0 332 := fRow f10.1.2.1 332 kR_223_332
  have e260 : hV H2 332 = hV H0 332 := e258.trans e259
  have e261 : hV H3 332 = hV H0 332 := e257.trans e260
  have e262 : hV H4 332 = hV H0 332 := e256.trans e261
  have e263 : hV H5 332 = hV H0 332 := e255.trans e262
  have e264 : hV H6 332 = hV H0 332 := e254.trans e263
  have e265 : hV H7 332 = hV H0 332 := e253.trans e264
  have e266 : hV H8 332 = hV H0 332 := e252.trans e265
  have e267 : hV H9 332 = hV H0 332 := e251.trans e266
  have e268 : hV H10 332 = hV H0 332 := e250.trans e267
  have e269 : hV H10 335 = hV H9 335 := fRow f57.1.2.1 335 kR_216_335
  have e270 : hV H9 335 = hV H8 335 := uRowNe f53 _ (iS (show n30 = ((305 : Nat) : Int) from f46) rfl)
  have e271 : hV H8 335 = hV H7 335 := uRowNe f45 _ (iS (show n24 = ((305 : Nat) : Int) from f38) rfl)
  have e272 : hV H7 335 = hV H6 335 := uRowNe f37 _ (iS (show n18 = ((305 : Nat) : Int) from f30) rfl)
  have e273 : hV H6 335 = hV H5 335 := uRowNe f29 _ (iS (show n12 = ((305 : Nat) : Int) from f22) rfl)
  have e274 : hV H5 335 = hV H4 335 := uRowNe f21 _ (iS (show n8 = ((305 : Nat) : Int) from f16) rfl)
  have e275 : hV H4 335 = hV H3 335 := fRow f15.1.2.1 335 kR_229_335
  have e276 : hV H3 335 = hV H2 335 := fRow f13.1.2.1 335 kR_220_335
  have e277 : hV H2 335 = hV H1 335 := uRowNe f11 _ (iS (show n2 = ((300 : Nat) : Int) from f4) rfl)
  have e278 : hV H1 335 = hV H0 335 := fRow f10.1.2.1 335 kR_223_335
  have e279 : hV H2 335 = hV H0 335 := e277.trans e278
  have e280 : hV H3 335 = hV H0 335 := e276.trans e279
  have e281 : hV H4 335 = hV H0 335 := e275.trans e280
  have e282 : hV H5 335 = hV H0 335 := e274.trans e281
  have e283 : hV H6 335 = hV H0 335 := e273.trans e282
  have e284 : hV H7 335 = hV H0 335 := e272.trans e283
  have e285 : hV H8 335 = hV H0 335 := e271.trans e284
  have e286 : hV H9 335 = hV H0 335 := e270.trans e285
  have e287 : hV H10 335 = hV H0 335 := e269.trans e286
  have e288 : hV H2 285 11 = hV H1 285 11 := uPlace f11 _ _ (iS (show n2 = ((300 : Nat) : Int) from f4) rfl)
  have e289 : hV H2 285 11 = hV H1 285 11 := e288
  have e290 : hV H2 285 13 = hV H1 285 13 := uPlace f11 _ _ (iS (show n2 = ((300 : Nat) : Int) from f4) rfl)
  have e291 : hV H2 285 13 = hV H1 285 13 := e290
  have e292 : hV H3 285 15 = hV H2 285 15 := f13.1.2.1.1 285 15 kF_220_285_15
  have e293 : hV H2 285 15 = hV H1 285 15 := uPlace f11 _ _ (iS (show n2 = ((300 : Nat) : Int) from f4) rfl)
  have e294 : hV H3 285 15 = hV H1 285 15 := (e292).trans e293
  have e295 : hV H3 301 = hV H2 301 := fRow f13.1.2.1 301 kR_220_301
  have e296 : hV H2 301 = hV H1 301 := uRowNe f11 _ (iS (show n2 = ((300 : Nat) : Int) from f4) rfl)
  have e297 : hV H1 301 = hV H0 301 := fRow f10.1.2.1 301 kR_223_301
  have e298 : hV H2 301 = hV H0 301 := e296.trans e297
  have e299 : hV H3 301 = hV H0 301 := e295.trans e298
  have e300 : hV H3 302 = hV H2 302 := fRow f13.1.2.1 302 kR_220_302
  have e301 : hV H2 302 = hV H1 302 := uRowNe f11 _ (iS (show n2 = ((300 : Nat) : Int) from f4) rfl)
  have e302 : hV H1 302 = hV H0 302 := fRow f10.1.2.1 302 kR_223_302
  have e303 : hV H2 302 = hV H0 302 := e301.trans e302
  have e304 : hV H3 302 = hV H0 302 := e300.trans e303
  have e305 : hV H3 303 = hV H2 303 := fRow f13.1.2.1 303 kR_220_303
  have e306 : hV H2 303 = hV H1 303 := uRowNe f11 _ (iS (show n2 = ((300 : Nat) : Int) from f4) rfl)
  have e307 : hV H1 303 = hV H0 303 := fRow f10.1.2.1 303 kR_223_303
  have e308 : hV H2 303 = hV H0 303 := e306.trans e307
  have e309 : hV H3 303 = hV H0 303 := e305.trans e308
  have e310 : hV H4 285 18 = hV H0 285 18 := (e28).trans ((e29).trans ((e30).trans e31))
  have e311 : hV H4 285 32 = hV H0 285 32 := (e39).trans ((e40).trans ((e41).trans e42))
  have e312 : hV H4 285 33 = hV H0 285 33 := (e50).trans ((e51).trans ((e52).trans e53))
  have e313 : hV H4 285 64 = hV H0 285 64 := (e61).trans ((e62).trans ((e63).trans e64))
  have e314 : (0 : Int) ≤ hV H0 285 11 ∧ hV H0 285 11 ≤ 500 := f3.1 285 11 _ _ kW_285_11
  have e315 : (0 : Int) ≤ hV H0 285 13 ∧ hV H0 285 13 ≤ 2 := f3.1 285 13 _ _ kW_285_13
  have e316 : (0 : Int) ≤ hV H0 285 15 ∧ hV H0 285 15 ≤ 6 := f3.1 285 15 _ _ kW_285_15
  have e317 : (0 : Int) ≤ hV H0 285 18 ∧ hV H0 285 18 ≤ 8 := f3.1 285 18 _ _ kW_285_18
  have e318 : (0 : Int) ≤ hV H0 285 32 ∧ hV H0 285 32 ≤ 7 := f3.1 285 32 _ _ kW_285_32
  have e319 : (0 : Int) ≤ hV H0 285 33 ∧ hV H0 285 33 ≤ 62 := f3.1 285 33 _ _ kW_285_33
  have e320 : (0 : Int) ≤ hV H0 285 64 ∧ hV H0 285 64 ≤ 20 := f3.1 285 64 _ _ kW_285_64
  have e321 : (0 : Int) ≤ hV H1 285 11 ∧ hV H1 285 11 ≤ 500 := f10.1.2.2.2 285 11 _ _ kW_285_11
  have e322 : (0 : Int) ≤ hV H1 285 13 ∧ hV H1 285 13 ≤ 2 := f10.1.2.2.2 285 13 _ _ kW_285_13
  have e323 : (0 : Int) ≤ hV H1 285 15 ∧ hV H1 285 15 ≤ 6 := f10.1.2.2.2 285 15 _ _ kW_285_15
  have e324 : (0 : Int) ≤ hV H10 285 11 ∧ hV H10 285 11 ≤ 500 := f57.1.2.2.2 285 11 _ _ kW_285_11
  have e325 : (0 : Int) ≤ hV H4 285 11 ∧ hV H4 285 11 ≤ 500 := f15.1.2.2.2 285 11 _ _ kW_285_11
  have e326 : (0 : Int) ≤ hV H10 285 13 ∧ hV H10 285 13 ≤ 2 := f57.1.2.2.2 285 13 _ _ kW_285_13
  have e327 : (0 : Int) ≤ hV H4 285 13 ∧ hV H4 285 13 ≤ 2 := f15.1.2.2.2 285 13 _ _ kW_285_13
  have e328 : (0 : Int) ≤ hV H10 285 15 ∧ hV H10 285 15 ≤ 6 := f57.1.2.2.2 285 15 _ _ kW_285_15
  have e329 : (0 : Int) ≤ hV H4 285 15 ∧ hV H4 285 15 ≤ 6 := f15.1.2.2.2 285 15 _ _ kW_285_15
  have e330 : (0 : Int) ≤ hV H10 285 18 ∧ hV H10 285 18 ≤ 8 := f57.1.2.2.2 285 18 _ _ kW_285_18
  have e331 : (0 : Int) ≤ hV H10 285 32 ∧ hV H10 285 32 ≤ 7 := f57.1.2.2.2 285 32 _ _ kW_285_32
  have e332 : (0 : Int) ≤ hV H10 285 33 ∧ hV H10 285 33 ≤ 62 := f57.1.2.2.2 285 33 _ _ kW_285_33
  have e333 : (0 : Int) ≤ hV H10 285 64 ∧ hV H10 285 64 ≤ 20 := f57.1.2.2.2 285 64 _ _ kW_285_64
  have e334 : (0 : Int) ≤ hV H3 285 11 ∧ hV H3 285 11 ≤ 500 := f13.1.2.2.2 285 11 _ _ kW_285_11
  have e335 : (0 : Int) ≤ hV H3 285 13 ∧ hV H3 285 13 ≤ 2 := f13.1.2.2.2 285 13 _ _ kW_285_13
  have e336 : (0 : Int) ≤ hV H3 285 15 ∧ hV H3 285 15 ≤ 6 := f13.1.2.2.2 285 15 _ _ kW_285_15
  have e337 : (0 : Int) ≤ hV H4 285 18 ∧ hV H4 285 18 ≤ 8 := f15.1.2.2.2 285 18 _ _ kW_285_18
  have e338 : (0 : Int) ≤ hV H4 285 32 ∧ hV H4 285 32 ≤ 7 := f15.1.2.2.2 285 32 _ _ kW_285_32
  have e339 : (0 : Int) ≤ hV H4 285 33 ∧ hV H4 285 33 ≤ 62 := f15.1.2.2.2 285 33 _ _ kW_285_33
  have e340 : (0 : Int) ≤ hV H4 285 64 ∧ hV H4 285 64 ≤ 20 := f15.1.2.2.2 285 64 _ _ kW_285_64
  try simp only [PA, PW]
  try simp only [e7] at e324
  try simp only [e14] at e326
  try simp only [e21] at e328
  try simp only [e32] at e330
  try simp only [e43] at e331
  try simp only [e54] at e332
  try simp only [e65] at e333
  try simp only [e294] at e336
  try simp only [e310] at e337
  try simp only [e311] at e338
  try simp only [e312] at e339
  try simp only [e313] at e340
  try simp only [e7, e14, e21, e32, e43, e54, e65, e102, e121, e140, e159, e178, e189, e200, e211, e230, e249, e268, e287]
  have p0 := f3.2.1
  have p1 := f3.2.2.1
  have p2 := f3.2.2.2.1
  have p3 := f3.2.2.2.2.1
  have p4 := f3.2.2.2.2.2.1
  have p5 := f3.2.2.2.2.2.2.1
  have p6 := f3.2.2.2.2.2.2.2.1
  have p7 := f3.2.2.2.2.2.2.2.2
  have r0_0 := f10.2.1
  have r0_1 := f10.2.2.1
  have r0_2 := f10.2.2.2.1
  have r0_3 := f10.2.2.2.2.1
  have r0_4 := f10.2.2.2.2.2.1
  have r0_5 := f10.2.2.2.2.2.2.1
  have r0_6 := f10.2.2.2.2.2.2.2.1
  have r1_0 := f13.2.1
  have r1_1 := f13.2.2.1
  have r1_2 := f13.2.2.2.1
  have r1_3 := f13.2.2.2.2.1
  have r2_0 := f15.2.1
  have r2_1 := f15.2.2.1
  have r2_2 := f15.2.2.2.1
  have r2_3 := f15.2.2.2.2.1
  have r2_4 := f15.2.2.2.2.2.1
  have r2_5 := f15.2.2.2.2.2.2.1
  have r2_6 := f15.2.2.2.2.2.2.2.1
  have r2_7 := f15.2.2.2.2.2.2.2.2.1 f14
  have r3_0 := f57.2.1
  try simp only [PA] at p0
  try simp only [PW] at p5
  try simp only [PA] at r2_0
  try simp only [PW] at r2_1
  try simp only [e289] at r1_0
  try simp only [e289] at r1_1
  try simp only [e291] at r1_2
  try simp only [e289] at r1_3
  try simp only [e310, e313, e96, e115, e153, e172, e224, e243, e262, e281] at r2_0
  try simp only [e311, e312, e96, e115, e134, e153, e172, e224] at r2_1
  try simp only [e294] at r2_5
  try simp only [e294] at r2_6
  try simp only [e294, e76, e299, e304, e309, e310, e311, e312, e313, e96, e115, e134, e153, e172, e224, e243, e262, e281] at r2_7
  try simp only [e14] at r3_0
  have wb0 := (p7 (hV H0 285 32).toNat).1
  have wp0 := (p7 (hV H0 285 33).toNat).2
  clear f5 f17 f23 f31 f39 f47 e0 e1 e2 e3 e4 e5 e6 e7 e8 e9 e10 e11 e12 e13 e14 e15 e16 e17 e18 e19 e20 e21 e22 e23 e24 e25 e26 e27 e28 e29 e30 e31 e32 e33 e34 e35 e36 e37 e38 e39 e40 e41 e42 e43 e44 e45 e46 e47 e48 e49 e50 e51 e52 e53 e54 e55 e56 e57 e58 e59 e60 e61 e62 e63 e64 e65 e73 e74 e75 e76 e84 e85 e86 e87 e88 e89 e90 e91 e92 e93 e94 e95 e96 e97 e98 e99 e100 e101 e102 e103 e104 e105 e106 e107 e108 e109 e110 e111 e112 e113 e114 e115 e116 e117 e118 e119 e120 e121 e122 e123 e124 e125 e126 e127 e128 e129 e130 e131 e132 e133 e134 e135 e136 e137 e138 e139 e140 e141 e142 e143 e144 e145 e146 e147 e148 e149 e150 e151 e152 e153 e154 e155 e156 e157 e158 e159 e160 e161 e162 e163 e164 e165 e166 e167 e169 e170 e171 e172 e173 e174 e175 e176 e177 e178 e179 e180 e181 e182 e183 e184 e185 e186 e187 e188 e189 e190 e191 e192 e193 e194 e195 e196 e197 e198 e199 e200 e201 e202 e203 e204 e205 e206 e207 e208 e209 e210 e211 e212 e218 e219 e220 e221 e222 e223 e224 e225 e226 e227 e228 e229 e230 e231 e232 e233 e234 e235 e236 e237 e238 e239 e240 e241 e242 e243 e244 e245 e246 e247 e248 e249 e250 e251 e252 e253 e254 e255 e256 e257 e258 e259 e260 e261 e262 e263 e264 e265 e266 e267 e268 e269 e270 e271 e272 e273 e274 e275 e276 e277 e278 e279 e280 e281 e282 e283 e284 e285 e286 e287 e288 e289 e290 e291 e292 e293 e294 e295 e296 e297 e298 e299 e300 e301 e302 e303 e304 e305 e306 e307 e308 e309 e310 e311 e312 e313
  clear f3 f10 f13 f15 f57
  rw [f18] at f19
  rw [f24] at f25
  rw [f32] at f33
  rw [f40] at f41
  rw [f48] at f49
  unfold w32 at *
  try (have ix0 : n10 = 6 * n0 := (by omega); subst ix0)
  try (have ix1 : n14 = 6 * n0 := (by omega); subst ix1)
  try (have ix2 : n16 = (6 * n0) + 1 := (by omega); subst ix2)
  try (have ix3 : n20 = 6 * n0 := (by omega); subst ix3)
  try (have ix4 : n22 = (6 * n0) + 2 := (by omega); subst ix4)
  try (have ix5 : n26 = 6 * n0 := (by omega); subst ix5)
  try (have ix6 : n28 = (6 * n0) + 3 := (by omega); subst ix6)
  try (have ix7 : n32 = 6 * n0 := (by omega); subst ix7)
  try (have ix8 : n34 = (6 * n0) + 4 := (by omega); subst ix8)

  refine ⟨⟨?_, ?_, ?_, ?_, ?_, ?_, ?_, ?_, ?_, ?_, ?_, ?_, ?_, ?_, ?_⟩, fun q hq => ?_⟩
  · first | exact True.intro | rfl | omega
  · refine PA_cn ?_ (by omega)
    refine PA_cn ?_ (by omega)
    refine PA_cn ?_ (by omega)
    refine PA_cn ?_ (by omega)
    refine PA_cn ?_ (by omega)
    exact r2_0
  · intro z1 z2
    refine PW_cn ?_ (by omega) (by omega) (by omega) (by omega)
    refine PW_cn ?_ (by omega) (by omega) (by omega) (by omega)
    refine PW_cn ?_ (by omega) (by omega) (by omega) (by omega)
    refine PW_cn ?_ (by omega) (by omega) (by omega) (by omega)
    refine PW_cn ?_ (by omega) (by omega) (by omega) (by omega)
    exact r2_1 (by omega) (by omega)
  · (try clear p0 p5 p7 r2_0 r2_1)
    first | exact True.intro | omega
  · (try clear p0 p5 p7 r2_0 r2_1)
    first | exact True.intro | omega
  · (try clear p0 p5 p7 r2_0 r2_1)
    first | exact True.intro | omega
  · (try clear p0 p5 p7 r2_0 r2_1)
    first | exact True.intro | omega
  · (try clear p0 p5 p7 r2_0 r2_1)
    first | exact True.intro | omega
  · (try clear p0 p5 p7 r2_0 r2_1)
    first | (simp only [uF_at]; omega) | omega
  · (try clear p0 p5 p7 r2_0 r2_1)
    first | (simp only [uF_at]; omega) | omega
  · (try clear p0 p5 p7 r2_0 r2_1)
    first | (simp only [uF_at]; omega) | omega
  · (try clear p0 p5 p7 r2_0 r2_1)
    first | exact True.intro | omega
  · (try clear p0 p5 p7 r2_0 r2_1)
    first | exact True.intro | omega
  · (try clear p0 p5 p7 r2_0 r2_1)
    first | (simp only [uF_at]; omega) | omega
  · (try clear p0 p5 p7 r2_0 r2_1)
    first | (simp only [uF_at]; omega) | omega
  · exact nomatch hq
def g_228_s_6 : vG := ([(30, [37], [], 0), (1216, [37, 0, 36], [9, 10], 0), (90, [37], [], 0), (91, [37], [], 1), (0, [36], [], 26), (80, [30, 34, 35], [9, 8], 0), (0, [35], [], 1), (1, [34, 32, 33], [], 0), (0, [33], [], 4), (3, [32, 31, 1], [], 0), (0, [31], [], 6), (20, [30, 0], [8], 31), (0, [30], [], 305), (80, [24, 28, 29], [8, 7], 0), (0, [29], [], 1), (1, [28, 26, 27], [], 0), (0, [27], [], 3), (3, [26, 25, 1], [], 0), (0, [25], [], 6), (20, [24, 0], [7], 31), (0, [24], [], 305), (80, [18, 22, 23], [7, 6], 0), (0, [23], [], 100), (1, [22, 20, 21], [], 0), (0, [21], [], 2), (3, [20, 19, 1], [], 0), (0, [19], [], 6), (20, [18, 0], [6], 31), (0, [18], [], 305), (80, [12, 16, 17], [6, 5], 0), (0, [17], [], -1), (1, [16, 14, 15], [], 0), (0, [15], [], 1), (3, [14, 13, 1], [], 0), (0, [13], [], 6), (20, [12, 0], [5], 31), (0, [12], [], 305), (80, [8, 10, 11], [5, 4], 0), (0, [11], [], 0), (3, [10, 9, 1], [], 0), (0, [9], [], 6), (20, [8, 0], [4], 31), (0, [8], [], 305), (1229, [0, 1, 7], [3, 4], 0), (0, [7], [], 0), (1220, [0, 6], [2, 3], 0), (0, [6], [], 25), (80, [2, 1, 5], [2, 1], 0), (1223, [5, 0, 3, 4], [0, 1], 0), (90, [5], [], 0), (91, [5], [], 9999), (0, [4], [], 19), (0, [3], [], 0), (20, [2, 0], [0], 26), (0, [2], [], 300), (6000, [0, 1], [0], 0), (0, [0], [], 285), (90, [1], [], 0), (91, [1], [], 1007)], (4000, [0, 1], [10], 113))
theorem c_228_s_6 : vOkm T0 (eP e_228 L_228 A_228 mu_228 none) 2 g_228_s_6 := vOk_inI fun ρ η f0 f1 f2 f3 f4 f5 f6 f7 f8 f9 f10 f11 f12 f13 f14 f15 f16 f17 f18 f19 f20 f21 f22 f23 f24 f25 f26 f27 f28 f29 f30 f31 f32 f33 f34 f35 f36 f37 f38 f39 f40 f41 f42 f43 f44 f45 f46 f47 f48 f49 f50 f51 f52 f53 f54 f55 f56 f57 f58 => q_228_6 (n0 := ρ 1) (n1 := ρ 0) (n2 := ρ 2) (n3 := ρ 3) (n4 := ρ 4) (n5 := ρ 5) (n6 := ρ 6) (n7 := ρ 7) (n8 := ρ 8) (n9 := ρ 9) (n10 := ρ 10) (n11 := ρ 11) (n12 := ρ 12) (n13 := ρ 13) (n14 := ρ 14) (n15 := ρ 15) (n16 := ρ 16) (n17 := ρ 17) (n18 := ρ 18) (n19 := ρ 19) (n20 := ρ 20) (n21 := ρ 21) (n22 := ρ 22) (n23 := ρ 23) (n24 := ρ 24) (n25 := ρ 25) (n26 := ρ 26) (n27 := ρ 27) (n28 := ρ 28) (n29 := ρ 29) (n30 := ρ 30) (n31 := ρ 31) (n32 := ρ 32) (n33 := ρ 33) (n34 := ρ 34) (n35 := ρ 35) (n36 := ρ 36) (n37 := ρ 37) (H0 := η 0) (H1 := η 1) (H2 := η 2) (H3 := η 3) (H4 := η 4) (H5 := η 5) (H6 := η 6) (H7 := η 7) (H8 := η 8) (H9 := η 9) (H10 := η 10) f58 f57 f56 f55 f54 f53 f52 f51 f50 f49 f48 f47 f46 f45 f44 f43 f42 f41 f40 f39 f38 f37 f36 f35 f34 f33 f32 f31 f30 f29 f28 f27 f26 f25 f24 f23 f22 f21 f20 f19 f18 f17 f16 f15 f14 f13 f12 f11 f10 f9 f8 f7 f6 f5 f4 f3 f2 f1 f0
set_option maxHeartbeats 20000000 in
theorem q_228_7 {n0 n1 n2 n3 n4 n5 n6 n7 n8 n9 n10 n11 n12 n13 n14 n15 n16 n17 n18 n19 n20 n21 n22 n23 n24 n25 n26 n27 : Int} {H0 H1 H2 H3 H4 : gH} (f0 : n0 ≤ 1007) (f1 : 0 ≤ n0) (f2 : n1 = 285) (f3 : hWt T0 H0 ∧ preb_228 n1 n0 H0) (f4 : n2 = 300) (f5 : n2 = hV H0 (n1).toNat 26) (f6 : n3 = 0) (f7 : n4 = 19) (f8 : n5 ≤ 9999) (f9 : 0 ≤ n5) (f10 : (hLe T0 H0 H1 ∧ hFr s_223.2.2.2.2 H0 H1 ∧ ((0 : Int) = 0 → H1.length = H0.length) ∧ hWt T0 H1) ∧ postb_223 n5 n1 n3 n4 H0 H1) (f11 : hUpd H2 H1 n2 n0 n5) (f12 : n6 = 25) (f13 : (hLe T0 H2 H3 ∧ hFr s_220.2.2.2.2 H2 H3 ∧ ((0 : Int) = 0 → H3.length = H2.length) ∧ hWt T0 H3) ∧ postb_220 n1 n6 H2 H3) (f14 : n7 = 0) (f15 : (hLe T0 H3 H4 ∧ hFr s_229.2.2.2.2 H3 H4 ∧ ((0 : Int) = 0 → H4.length = H3.length) ∧ hWt T0 H4) ∧ postb_229 n1 n0 n7 H3 H4) (f16 : n8 = 6) (f17 : n9 = w32 (n8 * n0)) (f18 : n10 = 6) (f19 : n11 = w32 (n10 * n0)) (f20 : n12 = 1) (f21 : n13 = w32 (n11 + n12)) (f22 : n14 = 6) (f23 : n15 = w32 (n14 * n0)) (f24 : n16 = 2) (f25 : n17 = w32 (n15 + n16)) (f26 : n18 = 6) (f27 : n19 = w32 (n18 * n0)) (f28 : n20 = 3) (f29 : n21 = w32 (n19 + n20)) (f30 : n22 = 6) (f31 : n23 = w32 (n22 * n0)) (f32 : n24 = 4) (f33 : n25 = w32 (n23 + n24)) (f34 : n26 = 6) (f35 : n27 = w32 (n26 * n0)) : 0 ≤ n27 ∧ n27 < 6048 := by
  unfold preb_228 at f3
  unfold postb_223 at f10
  unfold postb_220 at f13
  unfold postb_229 at f15
  have e0 : hV H1 288 = hV H0 288 := fRow f10.1.2.1 288 kR_223_288
  have e1 : hV H2 285 11 = hV H1 285 11 := uPlace f11 _ _ (iS (show n2 = ((300 : Nat) : Int) from f4) rfl)
  have e2 : hV H2 285 11 = hV H1 285 11 := e1
  have e3 : hV H2 285 13 = hV H1 285 13 := uPlace f11 _ _ (iS (show n2 = ((300 : Nat) : Int) from f4) rfl)
  have e4 : hV H2 285 13 = hV H1 285 13 := e3
  have e5 : hV H3 285 15 = hV H2 285 15 := f13.1.2.1.1 285 15 kF_220_285_15
  have e6 : hV H2 285 15 = hV H1 285 15 := uPlace f11 _ _ (iS (show n2 = ((300 : Nat) : Int) from f4) rfl)
  have e7 : hV H3 285 15 = hV H1 285 15 := (e5).trans e6
  have e8 : hV H3 288 = hV H2 288 := fRow f13.1.2.1 288 kR_220_288
  have e9 : hV H2 288 = hV H1 288 := uRowNe f11 _ (iS (show n2 = ((300 : Nat) : Int) from f4) rfl)
  have e10 : hV H2 288 = hV H0 288 := e9.trans e0
  have e11 : hV H3 288 = hV H0 288 := e8.trans e10
  have e12 : hV H3 301 = hV H2 301 := fRow f13.1.2.1 301 kR_220_301
  have e13 : hV H2 301 = hV H1 301 := uRowNe f11 _ (iS (show n2 = ((300 : Nat) : Int) from f4) rfl)
  have e14 : hV H1 301 = hV H0 301 := fRow f10.1.2.1 301 kR_223_301
  have e15 : hV H2 301 = hV H0 301 := e13.trans e14
  have e16 : hV H3 301 = hV H0 301 := e12.trans e15
  have e17 : hV H3 302 = hV H2 302 := fRow f13.1.2.1 302 kR_220_302
  have e18 : hV H2 302 = hV H1 302 := uRowNe f11 _ (iS (show n2 = ((300 : Nat) : Int) from f4) rfl)
  have e19 : hV H1 302 = hV H0 302 := fRow f10.1.2.1 302 kR_223_302
  have e20 : hV H2 302 = hV H0 302 := e18.trans e19
  have e21 : hV H3 302 = hV H0 302 := e17.trans e20
  have e22 : hV H3 303 = hV H2 303 := fRow f13.1.2.1 303 kR_220_303
  have e23 : hV H2 303 = hV H1 303 := uRowNe f11 _ (iS (show n2 = ((300 : Nat) : Int) from f4) rfl)
  have e24 : hV H1 303 = hV H0 303 := fRow f10.1.2.1 303 kR_223_303
  have e25 : hV H2 303 = hV H0 303 := e23.trans e24
  have e26 : hV H3 303 = hV H0 303 := e22.trans e25
  have e27 : hV H4 285 18 = hV H3 285 18 := f15.1.2.1.1 285 18 kF_229_285_18
  have e28 : hV H3 285 18 = hV H2 285 18 := f13.1.2.1.1 285 18 kF_220_285_18
  have e29 : hV H2 285 18 = hV H1 285 18 := uPlace f11 _ _ (iS (show n2 = ((300 : Nat) : Int) from f4) rfl)
  have e30 : hV H1 285 18 = hV H0 285 18 := f10.1.2.1.1 285 18 kF_223_285_18
  have e31 : hV H4 285 18 = hV H0 285 18 := (e27).trans ((e28).trans ((e29).trans e30))
  have e32 : hV H4 285 32 = hV H3 285 32 := f15.1.2.1.1 285 32 kF_229_285_32
  have e33 : hV H3 285 32 = hV H2 285 32 := f13.1.2.1.1 285 32 kF_220_285_32
  have e34 : hV H2 285 32 = hV H1 285 32 := uPlace f11 _ _ (iS (show n2 = ((300 : Nat) : Int) from f4) rfl)
  have e35 : hV H1 285 32 = hV H0 285 32 := f10.1.2.1.1 285 32 kF_223_285_32
  have e36 : hV H4 285 32 = hV H0 285 32 := (e32).trans ((e33).trans ((e34).trans e35))
  have e37 : hV H4 285 33 = hV H3 285 33 := f15.1.2.1.1 285 33 kF_229_285_33
  have e38 : hV H3 285 33 = hV H2 285 33 := f13.1.2.1.1 285 33 kF_220_285_33
  have e39 : hV H2 285 33 = hV H1 285 33 := uPlace f11 _ _ (iS (show n2 = ((300 : Nat) : Int) from f4) rfl)
  have e40 : hV H1 285 33 = hV H0 285 33 := f10.1.2.1.1 285 33 kF_223_285_33
  have e41 : hV H4 285 33 = hV H0 285 33 := (e37).trans ((e38).trans ((e39).trans e40))
  have e42 : hV H4 285 64 = hV H3 285 64 := f15.1.2.1.1 285 64 kF_229_285_64
  have e43 : hV H3 285 64 = hV H2 285 64 := f13.1.2.1.1 285 64 kF_220_285_64
  have e44 : hV H2 285 64 = hV H1 285 64 := uPlace f11 _ _ (iS (show n2 = ((300 : Nat) : Int) from f4) rfl)
  have e45 : hV H1 285 64 = hV H0 285 64 := f10.1.2.1.1 285 64 kF_223_285_64
  have e46 : hV H4 285 64 = hV H0 285 64 := (e42).trans ((e43).trans ((e44).trans e45))
  have e47 : hV H4 294 = hV H3 294 := fRow f15.1.2.1 294 kR_229_294
  have e48 : hV H3 294 = hV H2 294 := fRow f13.1.2.1 294 kR_220_294
  have e49 : hV H2 294 = hV H1 294 := uRowNe f11 _ (iS (show n2 = ((300 : Nat) : Int) from f4) rfl)
  have e50 : hV H1 294 = hV H0 294 := fRow f10.1.2.1 294 kR_223_294
  have e51 : hV H2 294 = hV H0 294 := e49.trans e50
  have e52 : hV H3 294 = hV H0 294 := e48.trans e51
  have e53 : hV H4 294 = hV H0 294 := e47.trans e52
  have e54 : hV H4 296 = hV H3 296 := fRow f15.1.2.1 296 kR_229_296
  have e55 : hV H3 296 = hV H2 296 := fRow f13.1.2.1 296 kR_220_296
  have e56 : hV H2 296 = hV H1 296 := uRowNe f11 _ (iS (show n2 = ((300 : Nat) : Int) from f4) rfl)
  have e57 : hV H1 296 = hV H0 296 := fRow f10.1.2.1 296 kR_223_296
  have e58 : hV H2 296 = hV H0 296 := e56.trans e57
  have e59 : hV H3 296 = hV H0 296 := e55.trans e58
  have e60 : hV H4 296 = hV H0 296 := e54.trans e59
  have e61 : hV H4 297 = hV H3 297 := fRow f15.1.2.1 297 kR_229_297
  have e62 : hV H3 297 = hV H2 297 := fRow f13.1.2.1 297 kR_220_297
  have e63 : hV H2 297 = hV H1 297 := uRowNe f11 _ (iS (show n2 = ((300 : Nat) : Int) from f4) rfl)
  have e64 : hV H1 297 = hV H0 297 := fRow f10.1.2.1 297 kR_223_297
  have e65 : hV H2 297 = hV H0 297 := e63.trans e64
  have e66 : hV H3 297 = hV H0 297 := e62.trans e65
  have e67 : hV H4 297 = hV H0 297 := e61.trans e66
  have e68 : hV H4 298 = hV H3 298 := fRow f15.1.2.1 298 kR_229_298
  have e69 : hV H3 298 = hV H2 298 := fRow f13.1.2.1 298 kR_220_298
  have e70 : hV H2 298 = hV H1 298 := uRowNe f11 _ (iS (show n2 = ((300 : Nat) : Int) from f4) rfl)
  have e71 : hV H1 298 = hV H0 298 := fRow f10.1.2.1 298 kR_223_298
  have e72 : hV H2 298 = hV H0 298 := e70.trans e71
  have e73 : hV H3 298 = hV H0 298 := e69.trans e72
  have e74 : hV H4 298 = hV H0 298 := e68.trans e73
  have e75 : hV H4 300 = hV H3 300 := fRow f15.1.2.1 300 kR_229_300
  have e76 : hV H3 300 = hV H2 300 := fRow f13.1.2.1 300 kR_220_300
  have e77 : hV H2 300 = uF (hV H1 300) n0 n5 := uRow f11 _ f4.symm
  have e78 : hV H1 300 = hV H0 300 := fRow f10.1.2.1 300 kR_223_300
  have e79 : hV H2 300 = (uF (hV H0 300) n0 n5) := e77.trans (congrArg (fun z => uF z n0 n5) e78)
  have e80 : hV H3 300 = (uF (hV H0 300) n0 n5) := e76.trans e79
  have e81 : hV H4 300 = (uF (hV H0 300) n0 n5) := e75.trans e80
  have e82 : hV H4 305 = hV H3 305 := fRow f15.1.2.1 305 kR_229_305
  have e83 : hV H3 305 = hV H2 305 := fRow f13.1.2.1 305 kR_220_305
  have e84 : hV H2 305 = hV H1 305 := uRowNe f11 _ (iS (show n2 = ((300 : Nat) : Int) from f4) rfl)
  have e85 : hV H1 305 = hV H0 305 := fRow f10.1.2.1 305 kR_223_305
  have e86 : hV H2 305 = hV H0 305 := e84.trans e85
  have e87 : hV H3 305 = hV H0 305 := e83.trans e86
  have e88 : hV H4 305 = hV H0 305 := e82.trans e87
  have e89 : hV H4 328 = hV H3 328 := fRow f15.1.2.1 328 kR_229_328
  have e90 : hV H3 328 = hV H2 328 := fRow f13.1.2.1 328 kR_220_328
  have e91 : hV H2 328 = hV H1 328 := uRowNe f11 _ (iS (show n2 = ((300 : Nat) : Int) from f4) rfl)
  have e92 : hV H1 328 = hV H0 328 := fRow f10.1.2.1 328 kR_223_328
  have e93 : hV H2 328 = hV H0 328 := e91.trans e92
  have e94 : hV H3 328 = hV H0 328 := e90.trans e93
  have e95 : hV H4 328 = hV H0 328 := e89.trans e94
  have e96 : hV H4 332 = hV H3 332 := fRow f15.1.2.1 332 kR_229_332
  have e97 : hV H3 332 = hV H2 332 := fRow f13.1.2.1 332 kR_220_332
  have e98 : hV H2 332 = hV H1 332 := uRowNe f11 _ (iS (show n2 = ((300 : Nat) : Int) from f4) rfl)
  have e99 : hV H1 332 = hV H0 332 := fRow f10.1.2.1 332 kR_223_332
  have e100 : hV H2 332 = hV H0 332 := e98.trans e99
  have e101 : hV H3 332 = hV H0 332 := e97.trans e100
  have e102 : hV H4 332 = hV H0 332 := e96.trans e101
  have e103 : hV H4 335 = hV H3 335 := fRow f15.1.2.1 335 kR_229_335
  have e104 : hV H3 335 = hV H2 335 := fRow f13.1.2.1 335 kR_220_335
  have e105 : hV H2 335 = hV H1 335 := uRowNe f11 _ (iS (show n2 = ((300 : Nat) : Int) from f4) rfl)
  have e106 : hV H1 335 = hV H0 335 := fRow f10.1.2.1 335 kR_223_335
  have e107 : hV H2 335 = hV H0 335 := e105.trans e106
  have e108 : hV H3 335 = hV H0 335 := e104.trans e107
  have e109 : hV H4 335 = hV H0 335 := e103.trans e108
  have e110 : (0 : Int) ≤ hV H0 285 11 ∧ hV H0 285 11 ≤ 500 := f3.1 285 11 _ _ kW_285_11
  have e111 : (0 : Int) ≤ hV H0 285 13 ∧ hV H0 285 13 ≤ 2 := f3.1 285 13 _ _ kW_285_13
  have e112 : (0 : Int) ≤ hV H0 285 15 ∧ hV H0 285 15 ≤ 6 := f3.1 285 15 _ _ kW_285_15
  have e113 : (0 : Int) ≤ hV H0 285 18 ∧ hV H0 285 18 ≤ 8 := f3.1 285 18 _ _ kW_285_18
  have e114 : (0 : Int) ≤ hV H0 285 32 ∧ hV H0 285 32 ≤ 7 := f3.1 285 32 _ _ kW_285_32
  have e115 : (0 : Int) ≤ hV H0 285 33 ∧ hV H0 285 33 ≤ 62 := f3.1 285 33 _ _ kW_285_33
  have e116 : (0 : Int) ≤ hV H0 285 64 ∧ hV H0 285 64 ≤ 20 := f3.1 285 64 _ _ kW_285_64
  have e117 : (0 : Int) ≤ hV H1 285 11 ∧ hV H1 285 11 ≤ 500 := f10.1.2.2.2 285 11 _ _ kW_285_11
  have e118 : (0 : Int) ≤ hV H1 285 13 ∧ hV H1 285 13 ≤ 2 := f10.1.2.2.2 285 13 _ _ kW_285_13
  have e119 : (0 : Int) ≤ hV H1 285 15 ∧ hV H1 285 15 ≤ 6 := f10.1.2.2.2 285 15 _ _ kW_285_15
  have e120 : (0 : Int) ≤ hV H3 285 11 ∧ hV H3 285 11 ≤ 500 := f13.1.2.2.2 285 11 _ _ kW_285_11
  have e121 : (0 : Int) ≤ hV H3 285 13 ∧ hV H3 285 13 ≤ 2 := f13.1.2.2.2 285 13 _ _ kW_285_13
  have e122 : (0 : Int) ≤ hV H3 285 15 ∧ hV H3 285 15 ≤ 6 := f13.1.2.2.2 285 15 _ _ kW_285_15
  have e123 : (0 : Int) ≤ hV H4 285 11 ∧ hV H4 285 11 ≤ 500 := f15.1.2.2.2 285 11 _ _ kW_285_11
  have e124 : (0 : Int) ≤ hV H4 285 13 ∧ hV H4 285 13 ≤ 2 := f15.1.2.2.2 285 13 _ _ kW_285_13
  have e125 : (0 : Int) ≤ hV H4 285 15 ∧ hV H4 285 15 ≤ 6 := f15.1.2.2.2 285 15 _ _ kW_285_15
  have e126 : (0 : Int) ≤ hV H4 285 18 ∧ hV H4 285 18 ≤ 8 := f15.1.2.2.2 285 18 _ _ kW_285_18
  have e127 : (0 : Int) ≤ hV H4 285 32 ∧ hV H4 285 32 ≤ 7 := f15.1.2.2.2 285 32 _ _ kW_285_32
  have e128 : (0 : Int) ≤ hV H4 285 33 ∧ hV H4 285 33 ≤ 62 := f15.1.2.2.2 285 33 _ _ kW_285_33
  have e129 : (0 : Int) ≤ hV H4 285 64 ∧ hV H4 285 64 ≤ 20 := f15.1.2.2.2 285 64 _ _ kW_285_64
  try simp only [PA, PW]
  try simp only [e7] at e122
  try simp only [e31] at e126
  try simp only [e36] at e127
  try simp only [e41] at e128
  try simp only [e46] at e129
  have p0 := f3.2.1
  have p1 := f3.2.2.1
  have p2 := f3.2.2.2.1
  have p3 := f3.2.2.2.2.1
  have p4 := f3.2.2.2.2.2.1
  have p5 := f3.2.2.2.2.2.2.1
  have p6 := f3.2.2.2.2.2.2.2.1
  have p7 := f3.2.2.2.2.2.2.2.2
  have r0_0 := f10.2.1
  have r0_1 := f10.2.2.1
  have r0_2 := f10.2.2.2.1
  have r0_3 := f10.2.2.2.2.1
  have r0_4 := f10.2.2.2.2.2.1
  have r0_5 := f10.2.2.2.2.2.2.1
  have r0_6 := f10.2.2.2.2.2.2.2.1
  have r1_0 := f13.2.1
  have r1_1 := f13.2.2.1
  have r1_2 := f13.2.2.2.1
  have r1_3 := f13.2.2.2.2.1
  have r2_0 := f15.2.1
  have r2_1 := f15.2.2.1
  have r2_2 := f15.2.2.2.1
  have r2_3 := f15.2.2.2.2.1
  have r2_4 := f15.2.2.2.2.2.1
  have r2_5 := f15.2.2.2.2.2.2.1
  have r2_6 := f15.2.2.2.2.2.2.2.1
  have r2_7 := f15.2.2.2.2.2.2.2.2.1 f14
  try simp only [PA] at p0
  try simp only [PW] at p5
  try simp only [PA] at r2_0
  try simp only [PW] at r2_1
  try simp only [e2] at r1_0
  try simp only [e2] at r1_1
  try simp only [e4] at r1_2
  try simp only [e2] at r1_3
  try simp only [e31, e46, e53, e60, e74, e81, e88, e95, e102, e109] at r2_0
  try simp only [e36, e41, e53, e60, e67, e74, e81, e88] at r2_1
  try simp only [e7] at r2_5
  try simp only [e7] at r2_6
  try simp only [e7, e11, e16, e21, e26, e31, e36, e41, e46, e53, e60, e67, e74, e81, e88, e95, e102, e109] at r2_7
  have wb0 := (p7 (hV H0 285 32).toNat).1
  have wp0 := (p7 (hV H0 285 33).toNat).2
  clear f5 e0 e1 e2 e3 e4 e5 e6 e7 e8 e9 e10 e11 e12 e13 e14 e15 e16 e17 e18 e19 e20 e21 e22 e23 e24 e25 e26 e27 e28 e29 e30 e31 e32 e33 e34 e35 e36 e37 e38 e39 e40 e41 e42 e43 e44 e45 e46 e47 e48 e49 e50 e51 e52 e53 e54 e55 e56 e57 e58 e59 e60 e61 e62 e63 e64 e65 e66 e67 e68 e69 e70 e71 e72 e73 e74 e75 e76 e78 e79 e80 e81 e82 e83 e84 e85 e86 e87 e88 e89 e90 e91 e92 e93 e94 e95 e96 e97 e98 e99 e100 e101 e102 e103 e104 e105 e106 e107 e108 e109
  clear f3 f10 f13 f15
  rw [f16] at f17
  rw [f18] at f19
  rw [f22] at f23
  rw [f26] at f27
  rw [f30] at f31
  rw [f34] at f35
  unfold w32 at *
  try (have ix0 : n27 = 6 * n0 := (by omega); subst ix0)

  (try clear p0 p5 p7 r2_0 r2_1)
  omega
def g_228_s_7 : vG := ([(3, [40, 39, 1], [], 0), (0, [39], [], 6), (1, [34, 32, 33], [], 0), (0, [33], [], 4), (3, [32, 31, 1], [], 0), (0, [31], [], 6), (1, [28, 26, 27], [], 0), (0, [27], [], 3), (3, [26, 25, 1], [], 0), (0, [25], [], 6), (1, [22, 20, 21], [], 0), (0, [21], [], 2), (3, [20, 19, 1], [], 0), (0, [19], [], 6), (1, [16, 14, 15], [], 0), (0, [15], [], 1), (3, [14, 13, 1], [], 0), (0, [13], [], 6), (3, [10, 9, 1], [], 0), (0, [9], [], 6), (1229, [0, 1, 7], [3, 4], 0), (0, [7], [], 0), (1220, [0, 6], [2, 3], 0), (0, [6], [], 25), (80, [2, 1, 5], [2, 1], 0), (1223, [5, 0, 3, 4], [0, 1], 0), (90, [5], [], 0), (91, [5], [], 9999), (0, [4], [], 19), (0, [3], [], 0), (20, [2, 0], [0], 26), (0, [2], [], 300), (6000, [0, 1], [0], 0), (0, [0], [], 285), (90, [1], [], 0), (91, [1], [], 1007)], (70, [40], [], 6048))
theorem c_228_s_7 : vOkm T0 (eP e_228 L_228 A_228 mu_228 none) 2 g_228_s_7 := vOk_inI fun ρ η f0 f1 f2 f3 f4 f5 f6 f7 f8 f9 f10 f11 f12 f13 f14 f15 f16 f17 f18 f19 f20 f21 f22 f23 f24 f25 f26 f27 f28 f29 f30 f31 f32 f33 f34 f35 => q_228_7 (n0 := ρ 1) (n1 := ρ 0) (n2 := ρ 2) (n3 := ρ 3) (n4 := ρ 4) (n5 := ρ 5) (n6 := ρ 6) (n7 := ρ 7) (n8 := ρ 9) (n9 := ρ 10) (n10 := ρ 13) (n11 := ρ 14) (n12 := ρ 15) (n13 := ρ 16) (n14 := ρ 19) (n15 := ρ 20) (n16 := ρ 21) (n17 := ρ 22) (n18 := ρ 25) (n19 := ρ 26) (n20 := ρ 27) (n21 := ρ 28) (n22 := ρ 31) (n23 := ρ 32) (n24 := ρ 33) (n25 := ρ 34) (n26 := ρ 39) (n27 := ρ 40) (H0 := η 0) (H1 := η 1) (H2 := η 2) (H3 := η 3) (H4 := η 4) f35 f34 f33 f32 f31 f30 f29 f28 f27 f26 f25 f24 f23 f22 f21 f20 f19 f18 f17 f16 f15 f14 f13 f12 f11 f10 f9 f8 f7 f6 f5 f4 f3 f2 f1 f0
set_option maxHeartbeats 20000000 in
theorem kR_229_288 : vFreeR s_229.2.2.2.2 288 = true := by decide +kernel
theorem q_228_8 {n0 n1 n2 n3 n4 n5 n6 n7 n8 n9 n10 n11 n12 n13 n14 n15 n16 n17 n18 n19 n20 n21 n22 n23 n24 n25 n26 n27 n28 n29 n30 n31 n32 n33 n34 n35 n36 n37 n38 n39 n40 n41 n42 n43 : Int} {H0 H1 H2 H3 H4 H5 H6 H7 H8 H9 H10 H11 H12 H13 : gH} (f0 : n0 ≤ 1007) (f1 : 0 ≤ n0) (f2 : n1 = 285) (f3 : hWt T0 H0 ∧ preb_228 n1 n0 H0) (f4 : n2 = 300) (f5 : n2 = hV H0 (n1).toNat 26) (f6 : n3 = 0) (f7 : n4 = 19) (f8 : n5 ≤ 9999) (f9 : 0 ≤ n5) (f10 : (hLe T0 H0 H1 ∧ hFr s_223.2.2.2.2 H0 H1 ∧ ((0 : Int) = 0 → H1.length = H0.length) ∧ hWt T0 H1) ∧ postb_223 n5 n1 n3 n4 H0 H1) (f11 : hUpd H2 H1 n2 n0 n5) (f12 : n6 = 25) (f13 : (hLe T0 H2 H3 ∧ hFr s_220.2.2.2.2 H2 H3 ∧ ((0 : Int) = 0 → H3.length = H2.length) ∧ hWt T0 H3) ∧ postb_220 n1 n6 H2 H3) (f14 : n7 = 0) (f15 : (hLe T0 H3 H4 ∧ hFr s_229.2.2.2.2 H3 H4 ∧ ((0 : Int) = 0 → H4.length = H3.length) ∧ hWt T0 H4) ∧ postb_229 n1 n0 n7 H3 H4) (f16 : n8 = 305) (f17 : n8 = hV H4 (n1).toNat 31) (f18 : n9 = 6) (f19 : n10 = w32 (n9 * n0)) (f20 : n11 = 0) (f21 : hUpd H5 H4 n8 n10 n11) (f22 : n12 = 305) (f23 : n12 = hV H5 (n1).toNat 31) (f24 : n13 = 6) (f25 : n14 = w32 (n13 * n0)) (f26 : n15 = 1) (f27 : n16 = w32 (n14 + n15)) (f28 : n17 = (-1)) (f29 : hUpd H6 H5 n12 n16 n17) (f30 : n18 = 305) (f31 : n18 = hV H6 (n1).toNat 31) (f32 : n19 = 6) (f33 : n20 = w32 (n19 * n0)) (f34 : n21 = 2) (f35 : n22 = w32 (n20 + n21)) (f36 : n23 = 100) (f37 : hUpd H7 H6 n18 n22 n23) (f38 : n24 = 305) (f39 : n24 = hV H7 (n1).toNat 31) (f40 : n25 = 6) (f41 : n26 = w32 (n25 * n0)) (f42 : n27 = 3) (f43 : n28 = w32 (n26 + n27)) (f44 : n29 = 1) (f45 : hUpd H8 H7 n24 n28 n29) (f46 : n30 = 305) (f47 : n30 = hV H8 (n1).toNat 31) (f48 : n31 = 6) (f49 : n32 = w32 (n31 * n0)) (f50 : n33 = 4) (f51 : n34 = w32 (n32 + n33)) (f52 : n35 = 1) (f53 : hUpd H9 H8 n30 n34 n35) (f54 : n36 = 26) (f55 : n37 ≤ 1) (f56 : 0 ≤ n37) (f57 : (hLe T0 H9 H10 ∧ hFr s_216.2.2.2.2 H9 H10 ∧ ((0 : Int) = 0 → H10.length = H9.length) ∧ hWt T0 H10) ∧ postb_216 n37 n1 n36 H9 H10) (f58 : n37 ≠ 0) (f59 : (hLe T0 H10 H11 ∧ hFr s_219.2.2.2.2 H10 H11 ∧ ((0 : Int) = 0 → H11.length = H10.length) ∧ hWt T0 H11) ∧ postb_219 n1 H10 H11) (f60 : n38 = 305) (f61 : n38 = hV H11 (n1).toNat 31) (f62 : n39 = 6) (f63 : n40 = w32 (n39 * n0)) (f64 : n41 = 0) (f65 : n42 = 60) (f66 : n43 ≤ 9999) (f67 : 0 ≤ n43) (f68 : (hLe T0 H11 H12 ∧ hFr s_223.2.2.2.2 H11 H12 ∧ ((0 : Int) = 0 → H12.length = H11.length) ∧ hWt T0 H12) ∧ postb_223 n43 n1 n41 n42 H11 H12) (f69 : hUpd H13 H12 n38 n40 n43) : Ab_228_113 n1 n0 n1 n0 H0 H13 ∧ ∀ q, none = some q → mub_228_113 n1 n0 n1 n0 H0 H13 < q := by
  unfold preb_228 at f3
  unfold postb_223 at f10
  unfold postb_220 at f13
  unfold postb_229 at f15
  unfold postb_216 at f57
  unfold postb_219 at f59
  unfold postb_223 at f68
  unfold Ab_228_113
  have e0 : hV H1 288 = hV H0 288 := fRow f10.1.2.1 288 kR_223_288
  have e1 : hV H10 285 11 = hV H9 285 11 := f57.1.2.1.1 285 11 kF_216_285_11
  have e2 : hV H9 285 11 = hV H8 285 11 := uPlace f53 _ _ (iS (show n30 = ((305 : Nat) : Int) from f46) rfl)
  have e3 : hV H8 285 11 = hV H7 285 11 := uPlace f45 _ _ (iS (show n24 = ((305 : Nat) : Int) from f38) rfl)
  have e4 : hV H7 285 11 = hV H6 285 11 := uPlace f37 _ _ (iS (show n18 = ((305 : Nat) : Int) from f30) rfl)
  have e5 : hV H6 285 11 = hV H5 285 11 := uPlace f29 _ _ (iS (show n12 = ((305 : Nat) : Int) from f22) rfl)
  have e6 : hV H5 285 11 = hV H4 285 11 := uPlace f21 _ _ (iS (show n8 = ((305 : Nat) : Int) from f16) rfl)
  have e7 : hV H10 285 11 = hV H4 285 11 := (e1).trans ((e2).trans ((e3).trans ((e4).trans ((e5).trans e6))))
  have e8 : hV H10 285 13 = hV H9 285 13 := f57.1.2.1.1 285 13 kF_216_285_13
  have e9 : hV H9 285 13 = hV H8 285 13 := uPlace f53 _ _ (iS (show n30 = ((305 : Nat) : Int) from f46) rfl)
  have e10 : hV H8 285 13 = hV H7 285 13 := uPlace f45 _ _ (iS (show n24 = ((305 : Nat) : Int) from f38) rfl)
  have e11 : hV H7 285 13 = hV H6 285 13 := uPlace f37 _ _ (iS (show n18 = ((305 : Nat) : Int) from f30) rfl)
  have e12 : hV H6 285 13 = hV H5 285 13 := uPlace f29 _ _ (iS (show n12 = ((305 : Nat) : Int) from f22) rfl)
  have e13 : hV H5 285 13 = hV H4 285 13 := uPlace f21 _ _ (iS (show n8 = ((305 : Nat) : Int) from f16) rfl)
  have e14 : hV H10 285 13 = hV H4 285 13 := (e8).trans ((e9).trans ((e10).trans ((e11).trans ((e12).trans e13))))
  have e15 : hV H10 288 = hV H9 288 := fRow f57.1.2.1 288 kR_216_288
  have e16 : hV H9 288 = hV H8 288 := uRowNe f53 _ (iS (show n30 = ((305 : Nat) : Int) from f46) rfl)
  have e17 : hV H8 288 = hV H7 288 := uRowNe f45 _ (iS (show n24 = ((305 : Nat) : Int) from f38) rfl)
  have e18 : hV H7 288 = hV H6 288 := uRowNe f37 _ (iS (show n18 = ((305 : Nat) : Int) from f30) rfl)
  have e19 : hV H6 288 = hV H5 288 := uRowNe f29 _ (iS (show n12 = ((305 : Nat) : Int) from f22) rfl)
  have e20 : hV H5 288 = hV H4 288 := uRowNe f21 _ (iS (show n8 = ((305 : Nat) : Int) from f16) rfl)
  have e21 : hV H4 288 = hV H3 288 := fRow f15.1.2.1 288 kR_229_288
  have e22 : hV H3 288 = hV H2 288 := fRow f13.1.2.1 288 kR_220_288
  have e23 : hV H2 288 = hV H1 288 := uRowNe f11 _ (iS (show n2 = ((300 : Nat) : Int) from f4) rfl)
  have e24 : hV H2 288 = hV H0 288 := e23.trans e0
  have e25 : hV H3 288 = hV H0 288 := e22.trans e24
  have e26 : hV H4 288 = hV H0 288 := e21.trans e25
  have e27 : hV H5 288 = hV H0 288 := e20.trans e26
  have e28 : hV H6 288 = hV H0 288 := e19.trans e27
  have e29 : hV H7 288 = hV H0 288 := e18.trans e28
  have e30 : hV H8 288 = hV H0 288 := e17.trans e29
  have e31 : hV H9 288 = hV H0 288 := e16.trans e30
  have e32 : hV H10 288 = hV H0 288 := e15.trans e31
  have e33 : hV H11 285 15 = hV H10 285 15 := f59.1.2.1.1 285 15 kF_219_285_15
  have e34 : hV H10 285 15 = hV H9 285 15 := f57.1.2.1.1 285 15 kF_216_285_15
  have e35 : hV H9 285 15 = hV H8 285 15 := uPlace f53 _ _ (iS (show n30 = ((305 : Nat) : Int) from f46) rfl)
  have e36 : hV H8 285 15 = hV H7 285 15 := uPlace f45 _ _ (iS (show n24 = ((305 : Nat) : Int) from f38) rfl)
  have e37 : hV H7 285 15 = hV H6 285 15 := uPlace f37 _ _ (iS (show n18 = ((305 : Nat) : Int) from f30) rfl)
  have e38 : hV H6 285 15 = hV H5 285 15 := uPlace f29 _ _ (iS (show n12 = ((305 : Nat) : Int) from f22) rfl)
  have e39 : hV H5 285 15 = hV H4 285 15 := uPlace f21 _ _ (iS (show n8 = ((305 : Nat) : Int) from f16) rfl)
  have e40 : hV H11 285 15 = hV H4 285 15 := (e33).trans ((e34).trans ((e35).trans ((e36).trans ((e37).trans ((e38).trans e39)))))
  have e45 : hV H13 285 11 = hV H12 285 11 := uPlace f69 _ _ (iS (show n38 = ((305 : Nat) : Int) from f60) rfl)
  have e46 : hV H13 285 11 = hV H12 285 11 := e45
  have e47 : hV H13 285 13 = hV H12 285 13 := uPlace f69 _ _ (iS (show n38 = ((305 : Nat) : Int) from f60) rfl)
  have e48 : hV H13 285 13 = hV H12 285 13 := e47
  have e49 : hV H13 285 15 = hV H12 285 15 := uPlace f69 _ _ (iS (show n38 = ((305 : Nat) : Int) from f60) rfl)
  have e50 : hV H13 285 15 = hV H12 285 15 := e49
  have e51 : hV H13 285 18 = hV H12 285 18 := uPlace f69 _ _ (iS (show n38 = ((305 : Nat) : Int) from f60) rfl)
  have e52 : hV H12 285 18 = hV H11 285 18 := f68.1.2.1.1 285 18 kF_223_285_18
  have e53 : hV H11 285 18 = hV H10 285 18 := f59.1.2.1.1 285 18 kF_219_285_18
  have e54 : hV H10 285 18 = hV H9 285 18 := f57.1.2.1.1 285 18 kF_216_285_18
  have e55 : hV H9 285 18 = hV H8 285 18 := uPlace f53 _ _ (iS (show n30 = ((305 : Nat) : Int) from f46) rfl)
  have e56 : hV H8 285 18 = hV H7 285 18 := uPlace f45 _ _ (iS (show n24 = ((305 : Nat) : Int) from f38) rfl)
  have e57 : hV H7 285 18 = hV H6 285 18 := uPlace f37 _ _ (iS (show n18 = ((305 : Nat) : Int) from f30) rfl)
  have e58 : hV H6 285 18 = hV H5 285 18 := uPlace f29 _ _ (iS (show n12 = ((305 : Nat) : Int) from f22) rfl)
  have e59 : hV H5 285 18 = hV H4 285 18 := uPlace f21 _ _ (iS (show n8 = ((305 : Nat) : Int) from f16) rfl)
  have e60 : hV H4 285 18 = hV H3 285 18 := f15.1.2.1.1 285 18 kF_229_285_18
  have e61 : hV H3 285 18 = hV H2 285 18 := f13.1.2.1.1 285 18 kF_220_285_18
  have e62 : hV H2 285 18 = hV H1 285 18 := uPlace f11 _ _ (iS (show n2 = ((300 : Nat) : Int) from f4) rfl)
  have e63 : hV H1 285 18 = hV H0 285 18 := f10.1.2.1.1 285 18 kF_223_285_18
  have e64 : hV H13 285 18 = hV H0 285 18 := (e51).trans ((e52).trans ((e53).trans ((e54).trans ((e55).trans ((e56).trans ((e57).trans ((e58).trans ((e59).trans ((e60).trans ((e61).trans ((e62).trans e63)))))))))))
  have e65 : hV H13 285 32 = hV H12 285 32 := uPlace f69 _ _ (iS (show n38 = ((305 : Nat) : Int) from f60) rfl)
  have e66 : hV H12 285 32 = hV H11 285 32 := f68.1.2.1.1 285 32 kF_223_285_32
  have e67 : hV H11 285 32 = hV H10 285 32 := f59.1.2.1.1 285 32 kF_219_285_32
  have e68 : hV H10 285 32 = hV H9 285 32 := f57.1.2.1.1 285 32 kF_216_285_32
  have e69 : hV H9 285 32 = hV H8 285 32 := uPlace f53 _ _ (iS (show n30 = ((305 : Nat) : Int) from f46) rfl)
  have e70 : hV H8 285 32 = hV H7 285 32 := uPlace f45 _ _ (iS (show n24 = ((305 : Nat) : Int) from f38) rfl)
  have e71 : hV H7 285 32 = hV H6 285 32 := uPlace f37 _ _ (iS (show n18 = ((305 : Nat) : Int) from f30) rfl)
  have e72 : hV H6 285 32 = hV H5 285 32 := uPlace f29 _ _ (iS (show n12 = ((305 : Nat) : Int) from f22) rfl)
  have e73 : hV H5 285 32 = hV H4 285 32 := uPlace f21 _ _ (iS (show n8 = ((305 : Nat) : Int) from f16) rfl)
  have e74 : hV H4 285 32 = hV H3 285 32 := f15.1.2.1.1 285 32 kF_229_285_32
  have e75 : hV H3 285 32 = hV H2 285 32 := f13.1.2.1.1 285 32 kF_220_285_32
  have e76 : hV H2 285 32 = hV H1 285 32 := uPlace f11 _ _ (iS (show n2 = ((300 : Nat) : Int) from f4) rfl)
  have e77 : hV H1 285 32 = hV H0 285 32 := f10.1.2.1.1 285 32 kF_223_285_32
  have e78 : hV H13 285 32 = hV H0 285 32 := (e65).trans ((e66).trans ((e67).trans ((e68).trans ((e69).trans ((e70).trans ((e71).trans ((e72).trans ((e73).trans ((e74).trans ((e75).trans ((e76).trans e77)))))))))))
  have e79 : hV H13 285 33 = hV H12 285 33 := uPlace f69 _ _ (iS (show n38 = ((305 : Nat) : Int) from f60) rfl)
  have e80 : hV H12 285 33 = hV H11 285 33 := f68.1.2.1.1 285 33 kF_223_285_33
  have e81 : hV H11 285 33 = hV H10 285 33 := f59.1.2.1.1 285 33 kF_219_285_33
  have e82 : hV H10 285 33 = hV H9 285 33 := f57.1.2.1.1 285 33 kF_216_285_33
  have e83 : hV H9 285 33 = hV H8 285 33 := uPlace f53 _ _ (iS (show n30 = ((305 : Nat) : Int) from f46) rfl)
  have e84 : hV H8 285 33 = hV H7 285 33 := uPlace f45 _ _ (iS (show n24 = ((305 : Nat) : Int) from f38) rfl)
  have e85 : hV H7 285 33 = hV H6 285 33 := uPlace f37 _ _ (iS (show n18 = ((305 : Nat) : Int) from f30) rfl)
  have e86 : hV H6 285 33 = hV H5 285 33 := uPlace f29 _ _ (iS (show n12 = ((305 : Nat) : Int) from f22) rfl)
  have e87 : hV H5 285 33 = hV H4 285 33 := uPlace f21 _ _ (iS (show n8 = ((305 : Nat) : Int) from f16) rfl)
  have e88 : hV H4 285 33 = hV H3 285 33 := f15.1.2.1.1 285 33 kF_229_285_33
  have e89 : hV H3 285 33 = hV H2 285 33 := f13.1.2.1.1 285 33 kF_220_285_33
  have e90 : hV H2 285 33 = hV H1 285 33 := uPlace f11 _ _ (iS (show n2 = ((300 : Nat) : Int) from f4) rfl)
  have e91 : hV H1 285 33 = hV H0 285 33 := f10.1.2.1.1 285 33 kF_223_285_33
  have e92 : hV H13 285 33 = hV H0 285 33 := (e79).trans ((e80).trans ((e81).trans ((e82).trans ((e83).trans ((e84).trans ((e85).trans ((e86).trans ((e87).trans ((e88).trans ((e89).trans ((e90).trans e91)))))))))))
  have e93 : hV H13 285 64 = hV H12 285 64 := uPlace f69 _ _ (iS (show n38 = ((305 : Nat) : Int) from f60) rfl)
  have e94 : hV H12 285 64 = hV H11 285 64 := f68.1.2.1.1 285 64 kF_223_285_64
  have e95 : hV H11 285 64 = hV H10 285 64 := f59.1.2.1.1 285 64 kF_219_285_64
  have e96 : hV H10 285 64 = hV H9 285 64 := f57.1.2.1.1 285 64 kF_216_285_64
  have e97 : hV H9 285 64 = hV H8 285 64 := uPlace f53 _ _ (iS (show n30 = ((305 : Nat) : Int) from f46) rfl)
  have e98 : hV H8 285 64 = hV H7 285 64 := uPlace f45 _ _ (iS (show n24 = ((305 : Nat) : Int) from f38) rfl)
  have e99 : hV H7 285 64 = hV H6 285 64 := uPlace f37 _ _ (iS (show n18 = ((305 : Nat) : Int) from f30) rfl)
  have e100 : hV H6 285 64 = hV H5 285 64 := uPlace f29 _ _ (iS (show n12 = ((305 : Nat) : Int) from f22) rfl)
  have e101 : hV H5 285 64 = hV H4 285 64 := uPlace f21 _ _ (iS (show n8 = ((305 : Nat) : Int) from f16) rfl)
  have e102 : hV H4 285 64 = hV H3 285 64 := f15.1.2.1.1 285 64 kF_229_285_64
  have e103 : hV H3 285 64 = hV H2 285 64 := f13.1.2.1.1 285 64 kF_220_285_64
  have e104 : hV H2 285 64 = hV H1 285 64 := uPlace f11 _ _ (iS (show n2 = ((300 : Nat) : Int) from f4) rfl)
  have e105 : hV H1 285 64 = hV H0 285 64 := f10.1.2.1.1 285 64 kF_223_285_64
  have e106 : hV H13 285 64 = hV H0 285 64 := (e93).trans ((e94).trans ((e95).trans ((e96).trans ((e97).trans ((e98).trans ((e99).trans ((e100).trans ((e101).trans ((e102).trans ((e103).trans ((e104).trans e105)))))))))))
  have e107 : hV H13 294 = hV H12 294 := uRowNe f69 _ (iS (show n38 = ((305 : Nat) : Int) from f60) rfl)
  have e108 : hV H12 294 = hV H11 294 := fRow f68.1.2.1 294 kR_223_294
  have e109 : hV H11 294 = hV H10 294 := fRow f59.1.2.1 294 kR_219_294
  have e110 : hV H10 294 = hV H9 294 := fRow f57.1.2.1 294 kR_216_294
  have e111 : hV H9 294 = hV H8 294 := uRowNe f53 _ (iS (show n30 = ((305 : Nat) : Int) from f46) rfl)
  have e112 : hV H8 294 = hV H7 294 := uRowNe f45 _ (iS (show n24 = ((305 : Nat) : Int) from f38) rfl)
  have e113 : hV H7 294 = hV H6 294 := uRowNe f37 _ (iS (show n18 = ((305 : Nat) : Int) from f30) rfl)
  have e114 : hV H6 294 = hV H5 294 := uRowNe f29 _ (iS (show n12 = ((305 : Nat) : Int) from f22) rfl)
  have e115 : hV H5 294 = hV H4 294 := uRowNe f21 _ (iS (show n8 = ((305 : Nat) : Int) from f16) rfl)
  have e116 : hV H4 294 = hV H3 294 := fRow f15.1.2.1 294 kR_229_294
  have e117 : hV H3 294 = hV H2 294 := fRow f13.1.2.1 294 kR_220_294
  have e118 : hV H2 294 = hV H1 294 := uRowNe f11 _ (iS (show n2 = ((300 : Nat) : Int) from f4) rfl)
  have e119 : hV H1 294 = hV H0 294 := fRow f10.1.2.1 294 kR_223_294
  have e120 : hV H2 294 = hV H0 294 := e118.trans e119
  have e121 : hV H3 294 = hV H0 294 := e117.trans e120
  have e122 : hV H4 294 = hV H0 294 := e116.trans e121
  have e123 : hV H5 294 = hV H0 294 := e115.trans e122
  have e124 : hV H6 294 = hV H0 294 := e114.trans e123
  have e125 : hV H7 294 = hV H0 294 := e113.trans e124
  have e126 : hV H8 294 = hV H0 294 := e112.trans e125
  have e127 : hV H9 294 = hV H0 294 := e111.trans e126
  have e128 : hV H10 294 = hV H0 294 := e110.trans e127
  have e129 : hV H11 294 = hV H0 294 := e109.trans e128
  have e130 : hV H12 294 = hV H0 294 := e108.trans e129
  have e131 : hV H13 294 = hV H0 294 := e107.trans e130
  have e132 : hV H13 296 = hV H12 296 := uRowNe f69 _ (iS (show n38 = ((305 : Nat) : Int) from f60) rfl)
  have e133 : hV H12 296 = hV H11 296 := fRow f68.1.2.1 296 kR_223_296
  have e134 : hV H11 296 = hV H10 296 := fRow f59.1.2.1 296 kR_219_296
  have e135 : hV H10 296 = hV H9 296 := fRow f57.1.2.1 296 kR_216_296
  have e136 : hV H9 296 = hV H8 296 := uRowNe f53 _ (iS (show n30 = ((305 : Nat) : Int) from f46) rfl)
  have e137 : hV H8 296 = hV H7 296 := uRowNe f45 _ (iS (show n24 = ((305 : Nat) : Int) from f38) rfl)
  have e138 : hV H7 296 = hV H6 296 := uRowNe f37 _ (iS (show n18 = ((305 : Nat) : Int) from f30) rfl)
  have e139 : hV H6 296 = hV H5 296 := uRowNe f29 _ (iS (show n12 = ((305 : Nat) : Int) from f22) rfl)
  have e140 : hV H5 296 = hV H4 296 := uRowNe f21 _ (iS (show n8 = ((305 : Nat) : Int) from f16) rfl)
  have e141 : hV H4 296 = hV H3 296 := fRow f15.1.2.1 296 kR_229_296
  have e142 : hV H3 296 = hV H2 296 := fRow f13.1.2.1 296 kR_220_296
  have e143 : hV H2 296 = hV H1 296 := uRowNe f11 _ (iS (show n2 = ((300 : Nat) : Int) from f4) rfl)
  have e144 : hV H1 296 = hV H0 296 := fRow f10.1.2.1 296 kR_223_296
  have e145 : hV H2 296 = hV H0 296 := e143.trans e144
  have e146 : hV H3 296 = hV H0 296 := e142.trans e145
  have e147 : hV H4 296 = hV H0 296 := e141.trans e146
  have e148 : hV H5 296 = hV H0 296 := e140.trans e147
  have e149 : hV H6 296 = hV H0 296 := e139.trans e148
  have e150 : hV H7 296 = hV H0 296 := e138.trans e149
  have e151 : hV H8 296 = hV H0 296 := e137.trans e150
  have e152 : hV H9 296 = hV H0 296 := e136.trans e151
  have e153 : hV H10 296 = hV H0 296 := e135.trans e152
  have e154 : hV H11 296 = hV H0 296 := e134.trans e153
  have e155 : hV H12 296 = hV H0 296 := e133.trans e154
  have e156 : hV H13 296 = hV H0 296 := e132.trans e155
  have e157 : hV H13 297 = hV H12 297 := uRowNe f69 _ (iS (show n38 = ((305 : Nat) : Int) from f60) rfl)
  have e158 : hV H12 297 = hV H11 297 := fRow f68.1.2.1 297 kR_223_297
  have e159 : hV H11 297 = hV H10 297 := fRow f59.1.2.1 297 kR_219_297
  have e160 : hV H10 297 = hV H9 297 := fRow f57.1.2.1 297 kR_216_297
  have e161 : hV H9 297 = hV H8 297 := uRowNe f53 _ (iS (show n30 = ((305 : Nat) : Int) from f46) rfl)
  have e162 : hV H8 297 = hV H7 297 := uRowNe f45 _ (iS (show n24 = ((305 : Nat) : Int) from f38) rfl)
  have e163 : hV H7 297 = hV H6 297 := uRowNe f37 _ (iS (show n18 = ((305 : Nat) : Int) from f30) rfl)
  have e164 : hV H6 297 = hV H5 297 := uRowNe f29 _ (iS (show n12 = ((305 : Nat) : Int) from f22) rfl)
  have e165 : hV H5 297 = hV H4 297 := uRowNe f21 _ (iS (show n8 = ((305 : Nat) : Int) from f16) rfl)
  have e166 : hV H4 297 = hV H3 297 := fRow f15.1.2.1 297 kR_229_297
  have e167 : hV H3 297 = hV H2 297 := fRow f13.1.2.1 297 kR_220_297
  have e168 : hV H2 297 = hV H1 297 := uRowNe f11 _ (iS (show n2 = ((300 : Nat) : Int) from f4) rfl)
  have e169 : hV H1 297 = hV H0 297 := fRow f10.1.2.1 297 kR_223_297
  have e170 : hV H2 297 = hV H0 297 := e168.trans e169
  have e171 : hV H3 297 = hV H0 297 := e167.trans e170
  have e172 : hV H4 297 = hV H0 297 := e166.trans e171
  have e173 : hV H5 297 = hV H0 297 := e165.trans e172
  have e174 : hV H6 297 = hV H0 297 := e164.trans e173
  have e175 : hV H7 297 = hV H0 297 := e163.trans e174
  have e176 : hV H8 297 = hV H0 297 := e162.trans e175
  have e177 : hV H9 297 = hV H0 297 := e161.trans e176
  have e178 : hV H10 297 = hV H0 297 := e160.trans e177
  have e179 : hV H11 297 = hV H0 297 := e159.trans e178
  have e180 : hV H12 297 = hV H0 297 := e158.trans e179
  have e181 : hV H13 297 = hV H0 297 := e157.trans e180
  have e182 : hV H13 298 = hV H12 298 := uRowNe f69 _ (iS (show n38 = ((305 : Nat) : Int) from f60) rfl)
  have e183 : hV H12 298 = hV H11 298 := fRow f68.1.2.1 298 kR_223_298
  have e184 : hV H11 298 = hV H10 298 := fRow f59.1.2.1 298 kR_219_298
  have e185 : hV H10 298 = hV H9 298 := fRow f57.1.2.1 298 kR_216_298
  have e186 : hV H9 298 = hV H8 298 := uRowNe f53 _ (iS (show n30 = ((305 : Nat) : Int) from f46) rfl)
  have e187 : hV H8 298 = hV H7 298 := uRowNe f45 _ (iS (show n24 = ((305 : Nat) : Int) from f38) rfl)
  have e188 : hV H7 298 = hV H6 298 := uRowNe f37 _ (iS (show n18 = ((305 : Nat) : Int) from f30) rfl)
  have e189 : hV H6 298 = hV H5 298 := uRowNe f29 _ (iS (show n12 = ((305 : Nat) : Int) from f22) rfl)
  have e190 : hV H5 298 = hV H4 298 := uRowNe f21 _ (iS (show n8 = ((305 : Nat) : Int) from f16) rfl)
  have e191 : hV H4 298 = hV H3 298 := fRow f15.1.2.1 298 kR_229_298
  have e192 : hV H3 298 = hV H2 298 := fRow f13.1.2.1 298 kR_220_298
  have e193 : hV H2 298 = hV H1 298 := uRowNe f11 _ (iS (show n2 = ((300 : Nat) : Int) from f4) rfl)
  have e194 : hV H1 298 = hV H0 298 := fRow f10.1.2.1 298 kR_223_298
  have e195 : hV H2 298 = hV H0 298 := e193.trans e194
  have e196 : hV H3 298 = hV H0 298 := e192.trans e195
  have e197 : hV H4 298 = hV H0 298 := e191.trans e196
  have e198 : hV H5 298 = hV H0 298 := e190.trans e197
  have e199 : hV H6 298 = hV H0 298 := e189.trans e198
  have e200 : hV H7 298 = hV H0 298 := e188.trans e199
  have e201 : hV H8 298 = hV H0 298 := e187.trans e200
  have e202 : hV H9 298 = hV H0 298 := e186.trans e201
  have e203 : hV H10 298 = hV H0 298 := e185.trans e202
  have e204 : hV H11 298 = hV H0 298 := e184.trans e203
  have e205 : hV H12 298 = hV H0 298 := e183.trans e204
  have e206 : hV H13 298 = hV H0 298 := e182.trans e205
  have e207 : hV H13 300 = hV H12 300 := uRowNe f69 _ (iS (show n38 = ((305 : Nat) : Int) from f60) rfl)
  have e208 : hV H12 300 = hV H11 300 := fRow f68.1.2.1 300 kR_223_300
  have e209 : hV H11 300 = hV H10 300 := fRow f59.1.2.1 300 kR_219_300
  have e210 : hV H10 300 = hV H9 300 := fRow f57.1.2.1 300 kR_216_300
  have e211 : hV H9 300 = hV H8 300 := uRowNe f53 _ (iS (show n30 = ((305 : Nat) : Int) from f46) rfl)
  have e212 : hV H8 300 = hV H7 300 := uRowNe f45 _ (iS (show n24 = ((305 : Nat) : Int) from f38) rfl)
  have e213 : hV H7 300 = hV H6 300 := uRowNe f37 _ (iS (show n18 = ((305 : Nat) : Int) from f30) rfl)
  have e214 : hV H6 300 = hV H5 300 := uRowNe f29 _ (iS (show n12 = ((305 : Nat) : Int) from f22) rfl)
  have e215 : hV H5 300 = hV H4 300 := uRowNe f21 _ (iS (show n8 = ((305 : Nat) : Int) from f16) rfl)
  have e216 : hV H4 300 = hV H3 300 := fRow f15.1.2.1 300 kR_229_300
  have e217 : hV H3 300 = hV H2 300 := fRow f13.1.2.1 300 kR_220_300
  have e218 : hV H2 300 = uF (hV H1 300) n0 n5 := uRow f11 _ f4.symm
  have e219 : hV H1 300 = hV H0 300 := fRow f10.1.2.1 300 kR_223_300
  have e220 : hV H2 300 = (uF (hV H0 300) n0 n5) := e218.trans (congrArg (fun z => uF z n0 n5) e219)
  have e221 : hV H3 300 = (uF (hV H0 300) n0 n5) := e217.trans e220
  have e222 : hV H4 300 = (uF (hV H0 300) n0 n5) := e216.trans e221
  have e223 : hV H5 300 = (uF (hV H0 300) n0 n5) := e215.trans e222
  have e224 : hV H6 300 = (uF (hV H0 300) n0 n5) := e214.trans e223
  have e225 : hV H7 300 = (uF (hV H0 300) n0 n5) := e213.trans e224
  have e226 : hV H8 300 = (uF (hV H0 300) n0 n5) := e212.trans e225
  have e227 : hV H9 300 = (uF (hV H0 300) n0 n5) := e211.trans e226
  have e228 : hV H10 300 = (uF (hV H0 300) n0 n5) := e210.trans e227
  have e229 : hV H11 300 = (uF (hV H0 300) n0 n5) := e209.trans e228
  have e230 : hV H12 300 = (uF (hV H0 300) n0 n5) := e208.trans e229
  have e231 : hV H13 300 = (uF (hV H0 300) n0 n5) := e207.trans e230
  have e232 : hV H13 301 = hV H12 301 := uRowNe f69 _ (iS (show n38 = ((305 : Nat) : Int) from f60) rfl)
  have e233 : hV H12 301 = hV H11 301 := fRow f68.1.2.1 301 kR_223_301
  have e234 : hV H11 301 = hV H10 301 := fRow f59.1.2.1 301 kR_219_301
  have e235 : hV H10 301 = hV H9 301 := fRow f57.1.2.1 301 kR_216_301
  have e236 : hV H9 301 = hV H8 301 := uRowNe f53 _ (iS (show n30 = ((305 : Nat) : Int) from f46) rfl)
  have e237 : hV H8 301 = hV H7 301 := uRowNe f45 _ (iS (show n24 = ((305 : Nat) : Int) from f38) rfl)
  have e238 : hV H7 301 = hV H6 301 := uRowNe f37 _ (iS (show n18 = ((305 : Nat) : Int) from f30) rfl)
  have e239 : hV H6 301 = hV H5 301 := uRowNe f29 _ (iS (show n12 = ((305 : Nat) : Int) from f22) rfl)
  have e240 : hV H5 301 = hV H4 301 := uRowNe f21 _ (iS (show n8 = ((305 : Nat) : Int) from f16) rfl)
  have e241 : hV H6 301 = hV H4 301 := e239.trans e240
  have e242 : hV H7 301 = hV H4 301 := e238.trans e241
  have e243 : hV H8 301 = hV H4 301 := e237.trans e242
  have e244 : hV H9 301 = hV H4 301 := e236.trans e243
  have e245 : hV H10 301 = hV H4 301 := e235.trans e244
  have e246 : hV H11 301 = hV H4 301 := e234.trans e245
  have e247 : hV H12 301 = hV H4 301 := e233.trans e246
  have e248 : hV H13 301 = hV H4 301 := e232.trans e247
  have e249 : hV H13 302 = hV H12 302 := uRowNe f69 _ (iS (show n38 = ((305 : Nat) : Int) from f60) rfl)
  have e250 : hV H12 302 = hV H11 302 := fRow f68.1.2.1 302 kR_223_302
  have e251 : hV H11 302 = hV H10 302 := fRow f59.1.2.1 302 kR_219_302
  have e252 : hV H10 302 = hV H9 302 := fRow f57.1.2.1 302 kR_216_302
  have e253 : hV H9 302 = hV H8 302 := uRowNe f53 _ (iS (show n30 = ((305 : Nat) : Int) from f46) rfl)
  have e254 : hV H8 302 = hV H7 302 := uRowNe f45 _ (iS (show n24 = ((305 : Nat) : Int) from f38) rfl)
  have e255 : hV H7 302 = hV H6 302 := uRowNe f37 _ (iS (show n18 = ((305 : Nat) : Int) from f30) rfl)
  have e256 : hV H6 302 = hV H5 302 := uRowNe f29 _ (iS (show n12 = ((305 : Nat) : Int) from f22) rfl)
  have e257 : hV H5 302 = hV H4 302 := uRowNe f21 _ (iS (show n8 = ((305 : Nat) : Int) from f16) rfl)
  have e258 : hV H6 302 = hV H4 302 := e256.trans e257
  have e259 : hV H7 302 = hV H4 302 := e255.trans e258
  have e260 : hV H8 302 = hV H4 302 := e254.trans e259
  have e261 : hV H9 302 = hV H4 302 := e253.trans e260
  have e262 : hV H10 302 = hV H4 302 := e252.trans e261
  have e263 : hV H11 302 = hV H4 302 := e251.trans e262
  have e264 : hV H12 302 = hV H4 302 := e250.trans e263
  have e265 : hV H13 302 = hV H4 302 := e249.trans e264
  have e266 : hV H13 303 = hV H12 303 := uRowNe f69 _ (iS (show n38 = ((305 : Nat) : Int) from f60) rfl)
  have e267 : hV H12 303 = hV H11 303 := fRow f68.1.2.1 303 kR_223_303
  have e268 : hV H11 303 = hV H10 303 := fRow f59.1.2.1 303 kR_219_303
  have e269 : hV H10 303 = hV H9 303 := fRow f57.1.2.1 303 kR_216_303
  have e270 : hV H9 303 = hV H8 303 := uRowNe f53 _ (iS (show n30 = ((305 : Nat) : Int) from f46) rfl)
  have e271 : hV H8 303 = hV H7 303 := uRowNe f45 _ (iS (show n24 = ((305 : Nat) : Int) from f38) rfl)
  have e272 : hV H7 303 = hV H6 303 := uRowNe f37 _ (iS (show n18 = ((305 : Nat) : Int) from f30) rfl)
  have e273 : hV H6 303 = hV H5 303 := uRowNe f29 _ (iS (show n12 = ((305 : Nat) : Int) from f22) rfl)
  have e274 : hV H5 303 = hV H4 303 := uRowNe f21 _ (iS (show n8 = ((305 : Nat) : Int) from f16) rfl)
  have e275 : hV H6 303 = hV H4 303 := e273.trans e274
  have e276 : hV H7 303 = hV H4 303 := e272.trans e275
  have e277 : hV H8 303 = hV H4 303 := e271.trans e276
  have e278 : hV H9 303 = hV H4 303 := e270.trans e277
  have e279 : hV H10 303 = hV H4 303 := e269.trans e278
  have e280 : hV H11 303 = hV H4 303 := e268.trans e279
  have e281 : hV H12 303 = hV H4 303 := e267.trans e280
  have e282 : hV H13 303 = hV H4 303 := e266.trans e281
  have e283 : hV H13 305 = uF (hV H12 305) n40 n43 := uRow f69 _ f60.symm
  have e284 : hV H12 305 = hV H11 305 := fRow f68.1.2.1 305 kR_223_305
  have e285 : hV H11 305 = hV H10 305 := fRow f59.1.2.1 305 kR_219_305
  have e286 : hV H10 305 = hV H9 305 := fRow f57.1.2.1 305 kR_216_305
  have e287 : hV H9 305 = uF (hV H8 305) n34 n35 := uRow f53 _ f46.symm
  have e288 : hV H8 305 = uF (hV H7 305) n28 n29 := uRow f45 _ f38.symm
  have e289 : hV H7 305 = uF (hV H6 305) n22 n23 := uRow f37 _ f30.symm
  have e290 : hV H6 305 = uF (hV H5 305) n16 n17 := uRow f29 _ f22.symm
  have e291 : hV H5 305 = uF (hV H4 305) n10 n11 := uRow f21 _ f16.symm
  have e292 : hV H4 305 = hV H3 305 := fRow f15.1.2.1 305 kR_229_305
  have e293 : hV H3 305 = hV H2 305 := fRow f13.1.2.1 305 kR_220_305
  have e294 : hV H2 305 = hV H1 305 := uRowNe f11 _ (iS (show n2 = ((300 : Nat) : Int) from f4) rfl)
  have e295 : hV H1 305 = hV H0 305 := fRow f10.1.2.1 305 kR_223_305
  have e296 : hV H2 305 = hV H0 305 := e294.trans e295
  have e297 : hV H3 305 = hV H0 305 := e293.trans e296
  have e298 : hV H4 305 = hV H0 305 := e292.trans e297
  have e299 : hV H5 305 = (uF (hV H0 305) n10 n11) := e291.trans (congrArg (fun z => uF z n10 n11) e298)
  have e300 : hV H6 305 = (uF (uF (hV H0 305) n10 n11) n16 n17) := e290.trans (congrArg (fun z => uF z n16 n17) e299)
  have e301 : hV H7 305 = (uF (uF (uF (hV H0 305) n10 n11) n16 n17) n22 n23) := e289.trans (congrArg (fun z => uF z n22 n23) e300)
  have e302 : hV H8 305 = (uF (uF (uF (uF (hV H0 305) n10 n11) n16 n17) n22 n23) n28 n29) := e288.trans (congrArg (fun z => uF z n28 n29) e301)
  have e303 : hV H9 305 = (uF (uF (uF (uF (uF (hV H0 305) n10 n11) n16 n17) n22 n23) n28 n29) n34 n35) := e287.trans (congrArg (fun z => uF z n34 n35) e302)
  have e304 : hV H10 305 = (uF (uF (uF (uF (uF (hV H0 305) n10 n11) n16 n17) n22 n23) n28 n29) n34 n35) := e286.trans e303
  have e305 : hV H11 305 = (uF (uF (uF (uF (uF (hV H0 305) n10 n11) n16 n17) n22 n23) n28 n29) n34 n35) := e285.trans e304
  have e306 : hV H12 305 = (uF (uF (uF (uF (uF (hV H0 305) n10 n11) n16 n17) n22 n23) n28 n29) n34 n35) := e284.trans e305
  have e307 : hV H13 305 = (uF (uF (uF (uF (uF (uF (hV H0 305) n10 n11) n16 n17) n22 n23) n28 n29) n34 n35) n40 n43) := e283.trans (congrArg (fun z => uF z n40 n43) e306)
  have e308 : hV H13 328 = hV H12 328 := uRowNe f69 _ (iS (show n38 = ((305 : Nat) : Int) from f60) rfl)
  have e309 : hV H12 328 = hV H11 328 := fRow f68.1.2.1 328 kR_223_328
  have e310 : hV H11 328 = hV H10 328 := fRow f59.1.2.1 328 kR_219_328
  have e311 : hV H10 328 = hV H9 328 := fRow f57.1.2.1 328 kR_216_328
  have e312 : hV H9 328 = hV H8 328 := uRowNe f53 _ (iS (show n30 = ((305 : Nat) : Int) from f46) rfl)
  have e313 : hV H8 328 = hV H7 328 := uRowNe f45 _ (iS (show n24 = ((305 : Nat) : Int) from f38) rfl)
  have e314 : hV H7 328 = hV H6 328 := uRowNe f37 _ (iS (show n18 = ((305 : Nat) : Int) from f30) rfl)
  have e315 : hV H6 328 = hV H5 328 := uRowNe f29 _ (iS (show n12 = ((305 : Nat) : Int) from f22) rfl)
  have e316 : hV H5 328 = hV H4 328 := uRowNe f21 _ (iS (show n8 = ((305 : Nat) : Int) from f16) rfl)
  have e317 : hV H4 328 = hV H3 328 := fRow f15.1.2.1 328 kR_229_328
  have e318 : hV H3 328 = hV H2 328 := fRow f13.1.2.1 328 kR_220_328
  have e319 : hV H2 328 = hV H1 328 := uRowNe f11 _ (iS (show n2 = ((300 : Nat) : Int) from f4) rfl)
  have e320 : hV H1 328 = hV H0 328 := fRow f10.1.2.1 328 kR_223_328
  have e321 : hV H2 328 = hV H0 328 := e319.trans e320
  have e322 : hV H3 328 = hV H0 328 := e318.trans e321
  have e323 : hV H4 328 = hV H0 328 := e317.trans e322
  have e324 : hV H5 328 = hV H0 328 := e316.trans e323
  have e325 : hV H6 328 = hV H0 328 := e315.trans e324
  have e326 : hV H7 328 = hV H0 328 := e314.trans e325
  have e327 : hV H8 328 = hV H0 328 := e313.trans e326
  have e328 : hV H9 328 = hV H0 328 := e312.trans e327
  have e329 : hV H10 328 = hV H0 328 := e311.trans e328
  have e330 : hV H11 328 = hV H0 328 := e310.trans e329
  have e331 : hV H12 328 = hV H0 328 := e309.trans e330
  have e332 : hV H13 328 = hV H0 328 := e308.trans e331
  have e333 : hV H13 332 = hV H12 332 := uRowNe f69 _ (iS (show n38 = ((305 : Nat) : Int) from f60) rfl)
  have e334 : hV H12 332 = hV H11 332 := fRow f68.1.2.1 332 kR_223_332
  have e335 : hV H11 332 = hV H10 332 := fRow f59.1.2.1 332 kR_219_332
  have e336 : hV H10 332 = hV H9 332 := fRow f57.1.2.1 332 kR_216_332
  have e337 : hV H9 332 = hV H8 332 := uRowNe f53 _ (iS (show n30 = ((305 : Nat) : Int) from f46) rfl)
  have e338 : hV H8 332 = hV H7 332 := uRowNe f45 _ (iS (show n24 = ((305 : Nat) : Int) from f38) rfl)
  have e339 : hV H7 332 = hV H6 332 := uRowNe f37 _ (iS (show n18 = ((305 : Nat) : Int) from f30) rfl)
  have e340 : hV H6 332 = hV H5 332 := uRowNe f29 _ (iS (show n12 = ((305 : Nat) : Int) from f22) rfl)
  have e341 : hV H5 332 = hV H4 332 := uRowNe f21 _ (iS (show n8 = ((305 : Nat) : Int) from f16) rfl)
  have e342 : hV H4 332 = hV H3 332 := fRow f15.1.2.1 332 kR_229_332
  have e343 : hV H3 332 = hV H2 332 := fRow f13.1.2.1 332 kR_220_332
  have e344 : hV H2 332 = hV H1 332 := uRowNe f11 _ (iS (show n2 = ((300 : Nat) : Int) from f4) rfl)
  have e345 : hV H1 332 = hV H0 332 := fRow f10.1.2.1 332 kR_223_332
  have e346 : hV H2 332 = hV H0 332 := e344.trans e345
  have e347 : hV H3 332 = hV H0 332 := e343.trans e346
  have e348 : hV H4 332 = hV H0 332 := e342.trans e347
  have e349 : hV H5 332 = hV H0 332 := e341.trans e348
  have e350 : hV H6 332 = hV H0 332 := e340.trans e349
  have e351 : hV H7 332 = hV H0 332 := e339.trans e350
  have e352 : hV H8 332 = hV H0 332 := e338.trans e351
  have e353 : hV H9 332 = hV H0 332 := e337.trans e352
  have e354 : hV H10 332 = hV H0 332 := e336.trans e353
  have e355 : hV H11 332 = hV H0 332 := e335.trans e354
  have e356 : hV H12 332 = hV H0 332 := e334.trans e355
  have e357 : hV H13 332 = hV H0 332 := e333.trans e356
  have e358 : hV H13 335 = hV H12 335 := uRowNe f69 _ (iS (show n38 = ((305 : Nat) : Int) from f60) rfl)
  have e359 : hV H12 335 = hV H11 335 := fRow f68.1.2.1 335 kR_223_335
  have e360 : hV H11 335 = hV H10 335 := fRow f59.1.2.1 335 kR_219_335
  have e361 : hV H10 335 = hV H9 335 := fRow f57.1.2.1 335 kR_216_335
  have e362 : hV H9 335 = hV H8 335 := uRowNe f53 _ (iS (show n30 = ((305 : Nat) : Int) from f46) rfl)
  have e363 : hV H8 335 = hV H7 335 := uRowNe f45 _ (iS (show n24 = ((305 : Nat) : Int) from f38) rfl)
  have e364 : hV H7 335 = hV H6 335 := uRowNe f37 _ (iS (show n18 = ((305 : Nat) : Int) from f30) rfl)
  have e365 : hV H6 335 = hV H5 335 := uRowNe f29 _ (iS (show n12 = ((305 : Nat) : Int) from f22) rfl)
  have e366 : hV H5 335 = hV H4 335 := uRowNe f21 _ (iS (show n8 = ((305 : Nat) : Int) from f16) rfl)
  have e367 : hV H4 335 = hV H3 335 := fRow f15.1.2.1 335 kR_229_335
  have e368 : hV H3 335 = hV H2 335 := fRow f13.1.2.1 335 kR_220_335
  have e369 : hV H2 335 = hV H1 335 := uRowNe f11 _ (iS (show n2 = ((300 : Nat) : Int) from f4) rfl)
  have e370 : hV H1 335 = hV H0 335 := fRow f10.1.2.1 335 kR_223_335
  have e371 : hV H2 335 = hV H0 335 := e369.trans e370
  have e372 : hV H3 335 = hV H0 335 := e368.trans e371
  have e373 : hV H4 335 = hV H0 335 := e367.trans e372
  have e374 : hV H5 335 = hV H0 335 := e366.trans e373
  have e375 : hV H6 335 = hV H0 335 := e365.trans e374
  have e376 : hV H7 335 = hV H0 335 := e364.trans e375
  have e377 : hV H8 335 = hV H0 335 := e363.trans e376
  have e378 : hV H9 335 = hV H0 335 := e362.trans e377
  have e379 : hV H10 335 = hV H0 335 := e361.trans e378
  have e380 : hV H11 335 = hV H0 335 := e360.trans e379
  have e381 : hV H12 335 = hV H0 335 := e359.trans e380
  have e382 : hV H13 335 = hV H0 335 := e358.trans e381
  have e383 : hV H2 285 11 = hV H1 285 11 := uPlace f11 _ _ (iS (show n2 = ((300 : Nat) : Int) from f4) rfl)
  have e384 : hV H2 285 11 = hV H1 285 11 := e383
  have e385 : hV H2 285 13 = hV H1 285 13 := uPlace f11 _ _ (iS (show n2 = ((300 : Nat) : Int) from f4) rfl)
  have e386 : hV H2 285 13 = hV H1 285 13 := e385
  have e387 : hV H3 285 15 = hV H2 285 15 := f13.1.2.1.1 285 15 kF_220_285_15
  have e388 : hV H2 285 15 = hV H1 285 15 := uPlace f11 _ _ (iS (show n2 = ((300 : Nat) : Int) from f4) rfl)
  have e389 : hV H3 285 15 = hV H1 285 15 := (e387).trans e388
  have e390 : hV H3 301 = hV H2 301 := fRow f13.1.2.1 301 kR_220_301
  have e391 : hV H2 301 = hV H1 301 := uRowNe f11 _ (iS (show n2 = ((300 : Nat) : Int) from f4) rfl)
  have e392 : hV H1 301 = hV H0 301 := fRow f10.1.2.1 301 kR_223_301
  have e393 : hV H2 301 = hV H0 301 := e391.trans e392
  have e394 : hV H3 301 = hV H0 301 := e390.trans e393
  have e395 : hV H3 302 = hV H2 302 := fRow f13.1.2.1 302 kR_220_302
  have e396 : hV H2 302 = hV H1 302 := uRowNe f11 _ (iS (show n2 = ((300 : Nat) : Int) from f4) rfl)
  have e397 : hV H1 302 = hV H0 302 := fRow f10.1.2.1 302 kR_223_302
  have e398 : hV H2 302 = hV H0 302 := e396.trans e397
  have e399 : hV H3 302 = hV H0 302 := e395.trans e398
  have e400 : hV H3 303 = hV H2 303 := fRow f13.1.2.1 303 kR_220_303
  have e401 : hV H2 303 = hV H1 303 := uRowNe f11 _ (iS (show n2 = ((300 : Nat) : Int) from f4) rfl)
  have e402 : hV H1 303 = hV H0 303 := fRow f10.1.2.1 303 kR_223_303
  have e403 : hV H2 303 = hV H0 303 := e401.trans e402
  have e404 : hV H3 303 = hV H0 303 := e400.trans e403
  have e405 : hV H4 285 18 = hV H0 285 18 := (e60).trans ((e61).trans ((e62).trans e63))
  have e406 : hV H4 285 32 = hV H0 285 32 := (e74).trans ((e75).trans ((e76).trans e77))
  have e407 : hV H4 285 33 = hV H0 285 33 := (e88).trans ((e89).trans ((e90).trans e91))
  have e408 : hV H4 285 64 = hV H0 285 64 := (e102).trans ((e103).trans ((e104).trans e105))
  have e409 : (0 : Int) ≤ hV H0 285 11 ∧ hV H0 285 11 ≤ 500 := f3.1 285 11 _ _ kW_285_11
  have e410 : (0 : Int) ≤ hV H0 285 13 ∧ hV H0 285 13 ≤ 2 := f3.1 285 13 _ _ kW_285_13
  have e411 : (0 : Int) ≤ hV H0 285 15 ∧ hV H0 285 15 ≤ 6 := f3.1 285 15 _ _ kW_285_15
  have e412 : (0 : Int) ≤ hV H0 285 18 ∧ hV H0 285 18 ≤ 8 := f3.1 285 18 _ _ kW_285_18
  have e413 : (0 : Int) ≤ hV H0 285 32 ∧ hV H0 285 32 ≤ 7 := f3.1 285 32 _ _ kW_285_32
  have e414 : (0 : Int) ≤ hV H0 285 33 ∧ hV H0 285 33 ≤ 62 := f3.1 285 33 _ _ kW_285_33
  have e415 : (0 : Int) ≤ hV H0 285 64 ∧ hV H0 285 64 ≤ 20 := f3.1 285 64 _ _ kW_285_64
  have e416 : (0 : Int) ≤ hV H1 285 11 ∧ hV H1 285 11 ≤ 500 := f10.1.2.2.2 285 11 _ _ kW_285_11
  have e417 : (0 : Int) ≤ hV H1 285 13 ∧ hV H1 285 13 ≤ 2 := f10.1.2.2.2 285 13 _ _ kW_285_13
  have e418 : (0 : Int) ≤ hV H1 285 15 ∧ hV H1 285 15 ≤ 6 := f10.1.2.2.2 285 15 _ _ kW_285_15
  have e419 : (0 : Int) ≤ hV H10 285 11 ∧ hV H10 285 11 ≤ 500 := f57.1.2.2.2 285 11 _ _ kW_285_11
  have e420 : (0 : Int) ≤ hV H4 285 11 ∧ hV H4 285 11 ≤ 500 := f15.1.2.2.2 285 11 _ _ kW_285_11
  have e421 : (0 : Int) ≤ hV H10 285 13 ∧ hV H10 285 13 ≤ 2 := f57.1.2.2.2 285 13 _ _ kW_285_13
  have e422 : (0 : Int) ≤ hV H4 285 13 ∧ hV H4 285 13 ≤ 2 := f15.1.2.2.2 285 13 _ _ kW_285_13
  have e423 : (0 : Int) ≤ hV H11 285 11 ∧ hV H11 285 11 ≤ 500 := f59.1.2.2.2 285 11 _ _ kW_285_11
  have e424 : (0 : Int) ≤ hV H11 285 13 ∧ hV H11 285 13 ≤ 2 := f59.1.2.2.2 285 13 _ _ kW_285_13
  have e425 : (0 : Int) ≤ hV H11 285 15 ∧ hV H11 285 15 ≤ 6 := f59.1.2.2.2 285 15 _ _ kW_285_15
  have e426 : (0 : Int) ≤ hV H4 285 15 ∧ hV H4 285 15 ≤ 6 := f15.1.2.2.2 285 15 _ _ kW_285_15
  have e427 : (0 : Int) ≤ hV H12 285 11 ∧ hV H12 285 11 ≤ 500 := f68.1.2.2.2 285 11 _ _ kW_285_11
  have e428 : (0 : Int) ≤ hV H12 285 13 ∧ hV H12 285 13 ≤ 2 := f68.1.2.2.2 285 13 _ _ kW_285_13
  have e429 : (0 : Int) ≤ hV H12 285 15 ∧ hV H12 285 15 ≤ 6 := f68.1.2.2.2 285 15 _ _ kW_285_15
  have e430 : (0 : Int) ≤ hV H3 285 11 ∧ hV H3 285 11 ≤ 500 := f13.1.2.2.2 285 11 _ _ kW_285_11
  have e431 : (0 : Int) ≤ hV H3 285 13 ∧ hV H3 285 13 ≤ 2 := f13.1.2.2.2 285 13 _ _ kW_285_13
  have e432 : (0 : Int) ≤ hV H3 285 15 ∧ hV H3 285 15 ≤ 6 := f13.1.2.2.2 285 15 _ _ kW_285_15
  have e433 : (0 : Int) ≤ hV H4 285 18 ∧ hV H4 285 18 ≤ 8 := f15.1.2.2.2 285 18 _ _ kW_285_18
  have e434 : (0 : Int) ≤ hV H4 285 32 ∧ hV H4 285 32 ≤ 7 := f15.1.2.2.2 285 32 _ _ kW_285_32
  have e435 : (0 : Int) ≤ hV H4 285 33 ∧ hV H4 285 33 ≤ 62 := f15.1.2.2.2 285 33 _ _ kW_285_33
  have e436 : (0 : Int) ≤ hV H4 285 64 ∧ hV H4 285 64 ≤ 20 := f15.1.2.2.2 285 64 _ _ kW_285_64
  try simp only [PA, PW]
  try simp only [e7] at e419
  try simp only [e14] at e421
  try simp only [e40] at e425
  try simp only [e389] at e432
  try simp only [e405] at e433
  try simp only [e406] at e434
  try simp only [e407] at e435
  try simp only [e408] at e436
  try simp only [e46, e48, e50, e64, e78, e92, e106, e131, e156, e181, e206, e231, e248, e265, e282, e307, e332, e357, e382]
  have p0 := f3.2.1
  have p1 := f3.2.2.1
  have p2 := f3.2.2.2.1
  have p3 := f3.2.2.2.2.1
  have p4 := f3.2.2.2.2.2.1
  have p5 := f3.2.2.2.2.2.2.1
  have p6 := f3.2.2.2.2.2.2.2.1
  have p7 := f3.2.2.2.2.2.2.2.2
  have r0_0 := f10.2.1
  have r0_1 := f10.2.2.1
  have r0_2 := f10.2.2.2.1
  have r0_3 := f10.2.2.2.2.1
  have r0_4 := f10.2.2.2.2.2.1
  have r0_5 := f10.2.2.2.2.2.2.1
  have r0_6 := f10.2.2.2.2.2.2.2.1
  have r1_0 := f13.2.1
  have r1_1 := f13.2.2.1
  have r1_2 := f13.2.2.2.1
  have r1_3 := f13.2.2.2.2.1
  have r2_0 := f15.2.1
  have r2_1 := f15.2.2.1
  have r2_2 := f15.2.2.2.1
  have r2_3 := f15.2.2.2.2.1
  have r2_4 := f15.2.2.2.2.2.1
  have r2_5 := f15.2.2.2.2.2.2.1
  have r2_6 := f15.2.2.2.2.2.2.2.1
  have r2_7 := f15.2.2.2.2.2.2.2.2.1 f14
  have r3_0 := f57.2.1
  have r3_1 := f57.2.2.resolve_right (fun z => f58 z.1)
  have r4_0 := f59.2.1
  have r4_1 := f59.2.2.1
  have r4_2 := f59.2.2.2.1
  have r4_3 := f59.2.2.2.2
  have r5_0 := f68.2.1
  have r5_1 := f68.2.2.1
  have r5_2 := f68.2.2.2.1
  have r5_3 := f68.2.2.2.2.1
  have r5_4 := f68.2.2.2.2.2.1
  have r5_5 := f68.2.2.2.2.2.2.1
  have r5_6 := f68.2.2.2.2.2.2.2.1
  try simp only [PA] at p0
  try simp only [PW] at p5
  try simp only [PA] at r2_0
  try simp only [PW] at r2_1
  try simp only [e384] at r1_0
  try simp only [e384] at r1_1
  try simp only [e386] at r1_2
  try simp only [e384] at r1_3
  try simp only [e405, e408, e122, e147, e197, e222, e298, e323, e348, e373] at r2_0
  try simp only [e406, e407, e122, e147, e172, e197, e222, e298] at r2_1
  try simp only [e389] at r2_5
  try simp only [e389] at r2_6
  try simp only [e389, e25, e394, e399, e404, e405, e406, e407, e408, e122, e147, e172, e197, e222, e298, e323, e348, e373] at r2_7
  try simp only [e14] at r3_0
  try simp only [e7, e14, e32] at r3_1
  try simp only [e7] at r4_0
  try simp only [e7] at r4_1
  try simp only [e14] at r4_2
  try simp only [e7] at r4_3
  try simp only [e40] at r5_4
  have wb0 := (p7 (hV H0 285 32).toNat).1
  have wp0 := (p7 (hV H0 285 33).toNat).2
  clear f5 f17 f23 f31 f39 f47 f61 e0 e1 e2 e3 e4 e5 e6 e7 e8 e9 e10 e11 e12 e13 e14 e15 e16 e17 e18 e19 e20 e21 e22 e23 e24 e25 e26 e27 e28 e29 e30 e31 e32 e33 e34 e35 e36 e37 e38 e39 e40 e45 e46 e47 e48 e49 e50 e51 e52 e53 e54 e55 e56 e57 e58 e59 e60 e61 e62 e63 e64 e65 e66 e67 e68 e69 e70 e71 e72 e73 e74 e75 e76 e77 e78 e79 e80 e81 e82 e83 e84 e85 e86 e87 e88 e89 e90 e91 e92 e93 e94 e95 e96 e97 e98 e99 e100 e101 e102 e103 e104 e105 e106 e107 e108 e109 e110 e111 e112 e113 e114 e115 e116 e117 e118 e119 e120 e121 e122 e123 e124 e125 e126 e127 e128 e129 e130 e131 e132 e133 e134 e135 e136 e137 e138 e139 e140 e141 e142 e143 e144 e145 e146 e147 e148 e149 e150 e151 e152 e153 e154 e155 e156 e157 e158 e159 e160 e161 e162 e163 e164 e165 e166 e167 e168 e169 e170 e171 e172 e173 e174 e175 e176 e177 e178 e179 e180 e181 e182 e183 e184 e185 e186 e187 e188 e189 e190 e191 e192 e193 e194 e195 e196 e197 e198 e199 e200 e201 e202 e203 e204 e205 e206 e207 e208 e209 e210 e211 e212 e213 e214 e215 e216 e217 e219 e220 e221 e222 e223 e224 e225 e226 e227 e228 e229 e230 e231 e232 e233 e234 e235 e236 e237 e238 e239 e240 e241 e242 e243 e244 e245 e246 e247 e248 e249 e250 e251 e252 e253 e254 e255 e256 e257 e258 e259 e260 e261 e262 e263 e264 e265 e266 e267 e268 e269 e270 e271 e272 e273 e274 e275 e276 e277 e278 e279 e280 e281 e282 e284 e285 e286 e292 e293 e294 e295 e296 e297 e298 e299 e300 e301 e302 e303 e304 e305 e306 e307 e308 e309 e310 e311 e312 e313 e314 e315 e316 e317 e318 e319 e320 e321 e322 e323 e324 e325 e326 e327 e328 e329 e330 e331 e332 e333 e334 e335 e336 e337 e338 e339 e340 e341 e342 e343 e344 e345 e346 e347 e348 e349 e350 e351 e352 e353 e354 e355 e356 e357 e358 e359 e360 e361 e362 e363 e364 e365 e366 e367 e368 e369 e370 e371 e372 e373 e374 e375 e376 e377 e378 e379 e380 e381 e382 e383 e384 e385 e386 e387 e388 e389 e390 e391 e392 e393 e394 e395 e396 e397 e398 e399 e400 e401 e402 e403 e404 e405 e406 e407 e408
  clear f3 f10 f13 f15 f57 f59 f68
  rw [f18] at f19
  rw [f24] at f25
  rw [f32] at f33
  rw [f40] at f41
  rw [f48] at f49
  rw [f62] at f63
  unfold w32 at *
  try (have ix0 : n10 = 6 * n0 := (by omega); subst ix0)
  try (have ix1 : n14 = 6 * n0 := (by omega); subst ix1)
  try (have ix2 : n16 = (6 * n0) + 1 := (by omega); subst ix2)
  try (have ix3 : n20 = 6 * n0 := (by omega); subst ix3)
  try (have ix4 : n22 = (6 * n0) + 2 := (by omega); subst ix4)
  try (have ix5 : n26 = 6 * n0 := (by omega); subst ix5)
  try (have ix6 : n28 = (6 * n0) + 3 := (by omega); subst ix6)
  try (have ix7 : n32 = 6 * n0 := (by omega); subst ix7)
  try (have ix8 : n34 = (6 * n0) + 4 := (by omega); subst ix8)
  try (have ix9 : n40 = 6 * n0 := (by omega); subst ix9)

  refine ⟨⟨?_, ?_, ?_, ?_, ?_, ?_, ?_, ?_, ?_, ?_, ?_, ?_, ?_, ?_, ?_⟩, fun q hq => ?_⟩
  · first | exact True.intro | rfl | omega
  · refine PA_cn ?_ (by omega)
    refine PA_cn ?_ (by omega)
    refine PA_cn ?_ (by omega)
    refine PA_cn ?_ (by omega)
    refine PA_cn ?_ (by omega)
    refine PA_cn ?_ (by omega)
    exact r2_0
  · intro z1 z2
    refine PW_cn ?_ (by omega) (by omega) (by omega) (by omega)
    refine PW_cn ?_ (by omega) (by omega) (by omega) (by omega)
    refine PW_cn ?_ (by omega) (by omega) (by omega) (by omega)
    refine PW_cn ?_ (by omega) (by omega) (by omega) (by omega)
    refine PW_cn ?_ (by omega) (by omega) (by omega) (by omega)
    refine PW_cn ?_ (by omega) (by omega) (by omega) (by omega)
    exact r2_1 (by omega) (by omega)
  · (try clear p0 p5 p7 r2_0 r2_1)
    first | exact True.intro | omega
  · (try clear p0 p5 p7 r2_0 r2_1)
    first | exact True.intro | omega
  · (try clear p0 p5 p7 r2_0 r2_1)
    first | exact True.intro | omega
  · (try clear p0 p5 p7 r2_0 r2_1)
    first | exact True.intro | omega
  · (try clear p0 p5 p7 r2_0 r2_1)
    first | exact True.intro | omega
  · (try clear p0 p5 p7 r2_0 r2_1)
    first | (simp only [uF_at]; omega) | omega
  · (try clear p0 p5 p7 r2_0 r2_1)
    first | (simp only [uF_at]; omega) | omega
  · (try clear p0 p5 p7 r2_0 r2_1)
    first | (simp only [uF_at]; omega) | omega
  · (try clear p0 p5 p7 r2_0 r2_1)
    first | exact True.intro | omega
  · (try clear p0 p5 p7 r2_0 r2_1)
    first | exact True.intro | omega
  · (try clear p0 p5 p7 r2_0 r2_1)
    first | (simp only [uF_at]; omega) | omega
  · (try clear p0 p5 p7 r2_0 r2_1)
    first | (simp only [uF_at]; omega) | omega
  · exact nomatch hq
def g_228_s_8 : vG := ([(80, [38, 40, 43], [13, 12], 0), (1223, [43, 0, 41, 42], [11, 12], 0), (90, [43], [], 0), (91, [43], [], 9999), (0, [42], [], 60), (0, [41], [], 0), (3, [40, 39, 1], [], 0), (0, [39], [], 6), (20, [38, 0], [11], 31), (0, [38], [], 305), (1219, [0], [10, 11], 0), (31, [37], [], 0), (1216, [37, 0, 36], [9, 10], 0), (90, [37], [], 0), (91, [37], [], 1), (0, [36], [], 26), (80, [30, 34, 35], [9, 8], 0), (0, [35], [], 1), (1, [34, 32, 33], [], 0), (0, [33], [], 4), (3, [32, 31, 1], [], 0), (0, [31], [], 6), (20, [30, 0], [8], 31), (0, [30], [], 305), (80, [24, 28, 29], [8, 7], 0), (0, [29], [], 1), (1, [28, 26, 27], [], 0), (0, [27], [], 3), (3, [26, 25, 1], [], 0), (0, [25], [], 6), (20, [24, 0], [7], 31), (0, [24], [], 305), (80, [18, 22, 23], [7, 6], 0), (0, [23], [], 100), (1, [22, 20, 21], [], 0), (0, [21], [], 2), (3, [20, 19, 1], [], 0), (0, [19], [], 6), (20, [18, 0], [6], 31), (0, [18], [], 305), (80, [12, 16, 17], [6, 5], 0), (0, [17], [], -1), (1, [16, 14, 15], [], 0), (0, [15], [], 1), (3, [14, 13, 1], [], 0), (0, [13], [], 6), (20, [12, 0], [5], 31), (0, [12], [], 305), (80, [8, 10, 11], [5, 4], 0), (0, [11], [], 0), (3, [10, 9, 1], [], 0), (0, [9], [], 6), (20, [8, 0], [4], 31), (0, [8], [], 305), (1229, [0, 1, 7], [3, 4], 0), (0, [7], [], 0), (1220, [0, 6], [2, 3], 0), (0, [6], [], 25), (80, [2, 1, 5], [2, 1], 0), (1223, [5, 0, 3, 4], [0, 1], 0), (90, [5], [], 0), (91, [5], [], 9999), (0, [4], [], 19), (0, [3], [], 0), (20, [2, 0], [0], 26), (0, [2], [], 300), (6000, [0, 1], [0], 0), (0, [0], [], 285), (90, [1], [], 0), (91, [1], [], 1007)], (4000, [0, 1], [13], 113))
theorem c_228_s_8 : vOkm T0 (eP e_228 L_228 A_228 mu_228 none) 2 g_228_s_8 := vOk_inI fun ρ η f0 f1 f2 f3 f4 f5 f6 f7 f8 f9 f10 f11 f12 f13 f14 f15 f16 f17 f18 f19 f20 f21 f22 f23 f24 f25 f26 f27 f28 f29 f30 f31 f32 f33 f34 f35 f36 f37 f38 f39 f40 f41 f42 f43 f44 f45 f46 f47 f48 f49 f50 f51 f52 f53 f54 f55 f56 f57 f58 f59 f60 f61 f62 f63 f64 f65 f66 f67 f68 f69 => q_228_8 (n0 := ρ 1) (n1 := ρ 0) (n2 := ρ 2) (n3 := ρ 3) (n4 := ρ 4) (n5 := ρ 5) (n6 := ρ 6) (n7 := ρ 7) (n8 := ρ 8) (n9 := ρ 9) (n10 := ρ 10) (n11 := ρ 11) (n12 := ρ 12) (n13 := ρ 13) (n14 := ρ 14) (n15 := ρ 15) (n16 := ρ 16) (n17 := ρ 17) (n18 := ρ 18) (n19 := ρ 19) (n20 := ρ 20) (n21 := ρ 21) (n22 := ρ 22) (n23 := ρ 23) (n24 := ρ 24) (n25 := ρ 25) (n26 := ρ 26) (n27 := ρ 27) (n28 := ρ 28) (n29 := ρ 29) (n30 := ρ 30) (n31 := ρ 31) (n32 := ρ 32) (n33 := ρ 33) (n34 := ρ 34) (n35 := ρ 35) (n36 := ρ 36) (n37 := ρ 37) (n38 := ρ 38) (n39 := ρ 39) (n40 := ρ 40) (n41 := ρ 41) (n42 := ρ 42) (n43 := ρ 43) (H0 := η 0) (H1 := η 1) (H2 := η 2) (H3 := η 3) (H4 := η 4) (H5 := η 5) (H6 := η 6) (H7 := η 7) (H8 := η 8) (H9 := η 9) (H10 := η 10) (H11 := η 11) (H12 := η 12) (H13 := η 13) f69 f68 f67 f66 f65 f64 f63 f62 f61 f60 f59 f58 f57 f56 f55 f54 f53 f52 f51 f50 f49 f48 f47 f46 f45 f44 f43 f42 f41 f40 f39 f38 f37 f36 f35 f34 f33 f32 f31 f30 f29 f28 f27 f26 f25 f24 f23 f22 f21 f20 f19 f18 f17 f16 f15 f14 f13 f12 f11 f10 f9 f8 f7 f6 f5 f4 f3 f2 f1 f0
def p_228_s : List vG := [g_228_s_0,
  g_228_s_1,
  g_228_s_2,
  g_228_s_3,
  g_228_s_4,
  g_228_s_5,
  g_228_s_6,
  g_228_s_7,
  g_228_s_8]
theorem r_228_s : vCovO false (eR0 e_228 L_228 cs_228 2000) p_228_s = true := by decide +kernel
set_option maxHeartbeats 20000000 in
theorem kR_228_288 : vFreeR s_228.2.2.2.2 288 = true := by decide +kernel
theorem kF_228_285_18 : vFree s_228.2.2.2.2 285 18 = true := by decide +kernel
theorem kF_228_285_32 : vFree s_228.2.2.2.2 285 32 = true := by decide +kernel
theorem kF_228_285_33 : vFree s_228.2.2.2.2 285 33 = true := by decide +kernel
theorem q_228_9 {q0 : Nat} {n0 n1 n2 n3 n4 n5 : Int} {H0 H1 H2 : gH} (f0 : n0 ≤ 1007) (f1 : 0 ≤ n0) (f2 : n1 = 285) (f3 : n2 ≤ 1007) (f4 : 0 ≤ n2) (f5 : n3 = 285) (f6 : (hLe T0 H0 H1 ∧ hFr s_228.2.2.2.2 H0 H1 ∧ hWt T0 H1) ∧ (Ab_228_113 n3 n2 n1 n0 H0 H1 ∧ preb_228 n3 n2 H0) ∧ some q0 = some (mub_228_113 n3 n2 n1 n0 H0 H1)) (f7 : n4 = 27) (f8 : n5 ≤ 1) (f9 : 0 ≤ n5) (f10 : (hLe T0 H1 H2 ∧ hFr s_216.2.2.2.2 H1 H2 ∧ ((0 : Int) = 0 → H2.length = H1.length) ∧ hWt T0 H2) ∧ postb_216 n5 n1 n4 H1 H2) (f11 : n5 = 0) : Ab_228_144 n3 n2 n1 n0 H0 H2 ∧ ∀ q, some q0 = some q → mub_228_144 n3 n2 n1 n0 H0 H2 < q := by
  have g4 := f6.2.1.1
  unfold Ab_228_113 at g4
  have g3 := f6.2.1.2
  unfold preb_228 at g3
  have g5 := Option.some.inj f6.2.2
  unfold mub_228_113 at g5
  unfold postb_216 at f10
  unfold Ab_228_144
  unfold mub_228_144
  have e0 : hV H1 285 18 = hV H0 285 18 := f6.1.2.1.1 285 18 kF_228_285_18
  have e1 : hV H1 285 18 = hV H0 285 18 := e0
  have e2 : hV H1 285 32 = hV H0 285 32 := f6.1.2.1.1 285 32 kF_228_285_32
  have e3 : hV H1 285 32 = hV H0 285 32 := e2
  have e4 : hV H1 285 33 = hV H0 285 33 := f6.1.2.1.1 285 33 kF_228_285_33
  have e5 : hV H1 285 33 = hV H0 285 33 := e4
  have e6 : hV H2 285 11 = hV H1 285 11 := f10.1.2.1.1 285 11 kF_216_285_11
  have e7 : hV H2 285 11 = hV H1 285 11 := e6
  have e8 : hV H2 285 13 = hV H1 285 13 := f10.1.2.1.1 285 13 kF_216_285_13
  have e9 : hV H2 285 13 = hV H1 285 13 := e8
  have e10 : hV H2 285 15 = hV H1 285 15 := f10.1.2.1.1 285 15 kF_216_285_15
  have e11 : hV H2 285 15 = hV H1 285 15 := e10
  have e12 : hV H2 288 = hV H1 288 := fRow f10.1.2.1 288 kR_216_288
  have e13 : hV H1 288 = hV H0 288 := fRow f6.1.2.1 288 kR_228_288
  have e14 : hV H2 288 = hV H0 288 := e12.trans e13
  have e15 : hV H2 300 = hV H1 300 := fRow f10.1.2.1 300 kR_216_300
  have e16 : hV H2 301 = hV H1 301 := fRow f10.1.2.1 301 kR_216_301
  have e17 : hV H2 305 = hV H1 305 := fRow f10.1.2.1 305 kR_216_305
  have e18 : PA H2 = PA H1 := PA_fr f10.1.2.1 (by decide +kernel)
  have e19 : PW H2 = PW H1 := PW_fr f10.1.2.1 (by decide +kernel)
  have e20 : (0 : Int) ≤ hV H1 285 11 ∧ hV H1 285 11 ≤ 500 := f6.1.2.2 285 11 _ _ kW_285_11
  have e21 : (0 : Int) ≤ hV H1 285 13 ∧ hV H1 285 13 ≤ 2 := f6.1.2.2 285 13 _ _ kW_285_13
  have e22 : (0 : Int) ≤ hV H1 285 15 ∧ hV H1 285 15 ≤ 6 := f6.1.2.2 285 15 _ _ kW_285_15
  have e23 : (0 : Int) ≤ hV H1 285 18 ∧ hV H1 285 18 ≤ 8 := f6.1.2.2 285 18 _ _ kW_285_18
  have e24 : (0 : Int) ≤ hV H1 285 32 ∧ hV H1 285 32 ≤ 7 := f6.1.2.2 285 32 _ _ kW_285_32
  have e25 : (0 : Int) ≤ hV H1 285 33 ∧ hV H1 285 33 ≤ 62 := f6.1.2.2 285 33 _ _ kW_285_33
  have e26 : (0 : Int) ≤ hV H2 285 11 ∧ hV H2 285 11 ≤ 500 := f10.1.2.2.2 285 11 _ _ kW_285_11
  have e27 : (0 : Int) ≤ hV H2 285 13 ∧ hV H2 285 13 ≤ 2 := f10.1.2.2.2 285 13 _ _ kW_285_13
  have e28 : (0 : Int) ≤ hV H2 285 15 ∧ hV H2 285 15 ≤ 6 := f10.1.2.2.2 285 15 _ _ kW_285_15
  try simp only [e1] at e23
  try simp only [e3] at e24
  try simp only [e5] at e25
  try simp only [e7] at e26
  try simp only [e9] at e27
  try simp only [e11] at e28
  try simp only [e1, e3, e5, e7, e9, e11, e14, e15, e16, e17, e18, e19] at g5
  try simp only [e1, e3, e5, e7, e9, e11, e14, e15, e16, e17, e18, e19]
  have k0 := g4.1
  have y0 := g4.2.1
  have y1 := g4.2.2.1
  have y2 := g4.2.2.2.1
  have y3 := g4.2.2.2.2.1
  have y4 := g4.2.2.2.2.2.1
  have y5 := g4.2.2.2.2.2.2.1
  have y6 := g4.2.2.2.2.2.2.2.1
  have y7 := g4.2.2.2.2.2.2.2.2.1
  have y8 := g4.2.2.2.2.2.2.2.2.2.1
  have y9 := g4.2.2.2.2.2.2.2.2.2.2.1
  have y10 := g4.2.2.2.2.2.2.2.2.2.2.2.1
  have y11 := g4.2.2.2.2.2.2.2.2.2.2.2.2.1
  have y12 := g4.2.2.2.2.2.2.2.2.2.2.2.2.2.1
  have y13 := g4.2.2.2.2.2.2.2.2.2.2.2.2.2.2
  have p0 := g3.1
  have p1 := g3.2.1
  have p2 := g3.2.2.1
  have p3 := g3.2.2.2.1
  have p4 := g3.2.2.2.2.1
  have p5 := g3.2.2.2.2.2.1
  have p6 := g3.2.2.2.2.2.2.1
  have p7 := g3.2.2.2.2.2.2.2
  have r0_0 := f10.2.1
  try simp only [e9] at r0_0
  clear g3
  clear g4
  have wb0 := (p7 (hV H0 285 32).toNat).1
  have wp0 := (p7 (hV H0 285 33).toNat).2
  try simp only [e1, e3, e5] at wb0
  try simp only [e1, e3, e5] at wp0
  clear e0 e1 e2 e3 e4 e5 e6 e7 e8 e9 e10 e11 e12 e13 e14 e15 e16 e17 e18 e19
  clear f6 f10

  refine ⟨⟨?_, ?_, ?_, ?_, ?_, ?_, ?_, ?_, ?_, ?_, ?_, ?_, ?_, ?_, ?_⟩, fun q hq => ?_⟩
  · first | exact True.intro | rfl | omega
  · exact y0
  · intro z1 z2
    exact y1 (by omega) (by omega)
  · (try clear y0 y1 p0 p5 p7)
    first | exact True.intro | omega
  · (try clear y0 y1 p0 p5 p7)
    first | exact True.intro | omega
  · (try clear y0 y1 p0 p5 p7)
    first | exact True.intro | omega
  · (try clear y0 y1 p0 p5 p7)
    first | exact True.intro | omega
  · (try clear y0 y1 p0 p5 p7)
    first | exact True.intro | omega
  · (try clear y0 y1 p0 p5 p7)
    first | exact True.intro | omega
  · (try clear y0 y1 p0 p5 p7)
    first | exact True.intro | omega
  · (try clear y0 y1 p0 p5 p7)
    first | exact True.intro | omega
  · (try clear y0 y1 p0 p5 p7)
    first | exact True.intro | omega
  · (try clear y0 y1 p0 p5 p7)
    first | exact True.intro | omega
  · (try clear y0 y1 p0 p5 p7)
    first | exact True.intro | omega
  · (try clear y0 y1 p0 p5 p7)
    first | exact True.intro | omega
  · (try clear y0 y1 p0 p5 p7)
    have g6 := Option.some.inj hq
    subst g6
    omega
def g_228_113_0 : vG := ([(30, [5], [], 0), (1216, [5, 2, 4], [1, 2], 0), (90, [5], [], 0), (91, [5], [], 1), (0, [4], [], 27), (5000, [0, 1, 2, 3], [0, 1], 113), (0, [0], [], 285), (90, [1], [], 0), (91, [1], [], 1007), (0, [2], [], 285), (90, [3], [], 0), (91, [3], [], 1007)], (4000, [2, 3], [2], 144))
theorem c_228_113_0 {q0 : Nat} : vOkm T0 (eP e_228 L_228 A_228 mu_228 (some q0)) 2 g_228_113_0 := vOk_inI fun ρ η f0 f1 f2 f3 f4 f5 f6 f7 f8 f9 f10 f11 => q_228_9 (q0 := q0) (n0 := ρ 3) (n1 := ρ 2) (n2 := ρ 1) (n3 := ρ 0) (n4 := ρ 4) (n5 := ρ 5) (H0 := η 0) (H1 := η 1) (H2 := η 2) f11 f10 f9 f8 f7 f6 f5 f4 f3 f2 f1 f0
set_option maxHeartbeats 20000000 in
theorem q_228_10 {q0 : Nat} {n0 n1 n2 n3 n4 n5 n6 n7 : Int} {H0 H1 : gH} (f0 : n0 ≤ 1007) (f1 : 0 ≤ n0) (f2 : n1 = 285) (f3 : n2 ≤ 1007) (f4 : 0 ≤ n2) (f5 : n3 = 285) (f6 : (hLe T0 H0 H1 ∧ hFr s_228.2.2.2.2 H0 H1 ∧ hWt T0 H1) ∧ (Ab_228_113 n3 n2 n1 n0 H0 H1 ∧ preb_228 n3 n2 H0) ∧ some q0 = some (mub_228_113 n3 n2 n1 n0 H0 H1)) (f7 : n4 = 6) (f8 : n5 = w32 (n4 * n0)) (f9 : n6 = 1) (f10 : n7 = w32 (n5 + n6)) : 0 ≤ n7 ∧ n7 < 6048 := by
  have g4 := f6.2.1.1
  unfold Ab_228_113 at g4
  have g3 := f6.2.1.2
  unfold preb_228 at g3
  have e0 : hV H1 285 18 = hV H0 285 18 := f6.1.2.1.1 285 18 kF_228_285_18
  have e1 : hV H1 285 18 = hV H0 285 18 := e0
  have e2 : hV H1 285 32 = hV H0 285 32 := f6.1.2.1.1 285 32 kF_228_285_32
  have e3 : hV H1 285 32 = hV H0 285 32 := e2
  have e4 : hV H1 285 33 = hV H0 285 33 := f6.1.2.1.1 285 33 kF_228_285_33
  have e5 : hV H1 285 33 = hV H0 285 33 := e4
  have e6 : (0 : Int) ≤ hV H1 285 11 ∧ hV H1 285 11 ≤ 500 := f6.1.2.2 285 11 _ _ kW_285_11
  have e7 : (0 : Int) ≤ hV H1 285 13 ∧ hV H1 285 13 ≤ 2 := f6.1.2.2 285 13 _ _ kW_285_13
  have e8 : (0 : Int) ≤ hV H1 285 15 ∧ hV H1 285 15 ≤ 6 := f6.1.2.2 285 15 _ _ kW_285_15
  have e9 : (0 : Int) ≤ hV H1 285 18 ∧ hV H1 285 18 ≤ 8 := f6.1.2.2 285 18 _ _ kW_285_18
  have e10 : (0 : Int) ≤ hV H1 285 32 ∧ hV H1 285 32 ≤ 7 := f6.1.2.2 285 32 _ _ kW_285_32
  have e11 : (0 : Int) ≤ hV H1 285 33 ∧ hV H1 285 33 ≤ 62 := f6.1.2.2 285 33 _ _ kW_285_33
  try simp only [e1] at e9
  try simp only [e3] at e10
  try simp only [e5] at e11
  have k0 := g4.1
  have y0 := g4.2.1
  have y1 := g4.2.2.1
  have y2 := g4.2.2.2.1
  have y3 := g4.2.2.2.2.1
  have y4 := g4.2.2.2.2.2.1
  have y5 := g4.2.2.2.2.2.2.1
  have y6 := g4.2.2.2.2.2.2.2.1
  have y7 := g4.2.2.2.2.2.2.2.2.1
  have y8 := g4.2.2.2.2.2.2.2.2.2.1
  have y9 := g4.2.2.2.2.2.2.2.2.2.2.1
  have y10 := g4.2.2.2.2.2.2.2.2.2.2.2.1
  have y11 := g4.2.2.2.2.2.2.2.2.2.2.2.2.1
  have y12 := g4.2.2.2.2.2.2.2.2.2.2.2.2.2.1
  have y13 := g4.2.2.2.2.2.2.2.2.2.2.2.2.2.2
  have p0 := g3.1
  have p1 := g3.2.1
  have p2 := g3.2.2.1
  have p3 := g3.2.2.2.1
  have p4 := g3.2.2.2.2.1
  have p5 := g3.2.2.2.2.2.1
  have p6 := g3.2.2.2.2.2.2.1
  have p7 := g3.2.2.2.2.2.2.2
  clear g3
  clear g4
  have wb0 := (p7 (hV H0 285 32).toNat).1
  have wp0 := (p7 (hV H0 285 33).toNat).2
  try simp only [e1, e3, e5] at wb0
  try simp only [e1, e3, e5] at wp0
  clear e0 e1 e2 e3 e4 e5
  clear f6
  rw [f7] at f8
  unfold w32 at *
  try (have ix0 : n5 = 6 * n0 := (by omega); subst ix0)
  try (have ix1 : n7 = (6 * n0) + 1 := (by omega); subst ix1)

  (try clear y0 y1 p0 p5 p7)
  omega
def g_228_113_1 : vG := ([(1, [10, 8, 9], [], 0), (0, [9], [], 1), (3, [8, 7, 3], [], 0), (0, [7], [], 6), (5000, [0, 1, 2, 3], [0, 1], 113), (0, [0], [], 285), (90, [1], [], 0), (91, [1], [], 1007), (0, [2], [], 285), (90, [3], [], 0), (91, [3], [], 1007)], (70, [10], [], 6048))
theorem c_228_113_1 {q0 : Nat} : vOkm T0 (eP e_228 L_228 A_228 mu_228 (some q0)) 2 g_228_113_1 := vOk_inI fun ρ η f0 f1 f2 f3 f4 f5 f6 f7 f8 f9 f10 => q_228_10 (q0 := q0) (n0 := ρ 3) (n1 := ρ 2) (n2 := ρ 1) (n3 := ρ 0) (n4 := ρ 7) (n5 := ρ 8) (n6 := ρ 9) (n7 := ρ 10) (H0 := η 0) (H1 := η 1) f10 f9 f8 f7 f6 f5 f4 f3 f2 f1 f0
set_option maxHeartbeats 20000000 in
theorem kR_228_294 : vFreeR s_228.2.2.2.2 294 = true := by decide +kernel
theorem kR_228_296 : vFreeR s_228.2.2.2.2 296 = true := by decide +kernel
theorem kR_228_297 : vFreeR s_228.2.2.2.2 297 = true := by decide +kernel
theorem kR_228_298 : vFreeR s_228.2.2.2.2 298 = true := by decide +kernel
theorem kR_228_328 : vFreeR s_228.2.2.2.2 328 = true := by decide +kernel
theorem kR_228_332 : vFreeR s_228.2.2.2.2 332 = true := by decide +kernel
theorem kR_228_335 : vFreeR s_228.2.2.2.2 335 = true := by decide +kernel
theorem kF_228_285_64 : vFree s_228.2.2.2.2 285 64 = true := by decide +kernel
theorem q_228_11 {q0 : Nat} {n0 n1 n2 n3 n4 n5 n6 n7 n8 n9 n10 n11 n12 n13 : Int} {H0 H1 H2 H3 H4 H5 : gH} (f0 : n0 ≤ 1007) (f1 : 0 ≤ n0) (f2 : n1 = 285) (f3 : n2 ≤ 1007) (f4 : 0 ≤ n2) (f5 : n3 = 285) (f6 : (hLe T0 H0 H1 ∧ hFr s_228.2.2.2.2 H0 H1 ∧ hWt T0 H1) ∧ (Ab_228_113 n3 n2 n1 n0 H0 H1 ∧ preb_228 n3 n2 H0) ∧ some q0 = some (mub_228_113 n3 n2 n1 n0 H0 H1)) (f7 : n4 = 27) (f8 : n5 ≤ 1) (f9 : 0 ≤ n5) (f10 : (hLe T0 H1 H2 ∧ hFr s_216.2.2.2.2 H1 H2 ∧ ((0 : Int) = 0 → H2.length = H1.length) ∧ hWt T0 H2) ∧ postb_216 n5 n1 n4 H1 H2) (f11 : n5 ≠ 0) (f12 : (hLe T0 H2 H3 ∧ hFr s_219.2.2.2.2 H2 H3 ∧ ((0 : Int) = 0 → H3.length = H2.length) ∧ hWt T0 H3) ∧ postb_219 n1 H2 H3) (f13 : n6 = 305) (f14 : n6 = hV H3 (n1).toNat 31) (f15 : n7 = 6) (f16 : n8 = w32 (n7 * n0)) (f17 : n9 = 1) (f18 : n10 = w32 (n8 + n9)) (f19 : n11 = 0) (f20 : n12 = 60) (f21 : n13 ≤ 9999) (f22 : 0 ≤ n13) (f23 : (hLe T0 H3 H4 ∧ hFr s_223.2.2.2.2 H3 H4 ∧ ((0 : Int) = 0 → H4.length = H3.length) ∧ hWt T0 H4) ∧ postb_223 n13 n1 n11 n12 H3 H4) (f24 : hUpd H5 H4 n6 n10 n13) : Ab_228_144 n3 n2 n1 n0 H0 H5 ∧ ∀ q, some q0 = some q → mub_228_144 n3 n2 n1 n0 H0 H5 < q := by
  have g4 := f6.2.1.1
  unfold Ab_228_113 at g4
  have g3 := f6.2.1.2
  unfold preb_228 at g3
  have g5 := Option.some.inj f6.2.2
  unfold mub_228_113 at g5
  unfold postb_216 at f10
  unfold postb_219 at f12
  unfold postb_223 at f23
  unfold Ab_228_144
  unfold mub_228_144
  have e0 : hV H1 285 18 = hV H0 285 18 := f6.1.2.1.1 285 18 kF_228_285_18
  have e1 : hV H1 285 18 = hV H0 285 18 := e0
  have e2 : hV H1 285 32 = hV H0 285 32 := f6.1.2.1.1 285 32 kF_228_285_32
  have e3 : hV H1 285 32 = hV H0 285 32 := e2
  have e4 : hV H1 285 33 = hV H0 285 33 := f6.1.2.1.1 285 33 kF_228_285_33
  have e5 : hV H1 285 33 = hV H0 285 33 := e4
  have e6 : hV H1 285 64 = hV H0 285 64 := f6.1.2.1.1 285 64 kF_228_285_64
  have e7 : hV H1 285 64 = hV H0 285 64 := e6
  have e8 : hV H1 294 = hV H0 294 := fRow f6.1.2.1 294 kR_228_294
  have e9 : hV H1 296 = hV H0 296 := fRow f6.1.2.1 296 kR_228_296
  have e10 : hV H1 297 = hV H0 297 := fRow f6.1.2.1 297 kR_228_297
  have e11 : hV H1 298 = hV H0 298 := fRow f6.1.2.1 298 kR_228_298
  have e12 : hV H1 328 = hV H0 328 := fRow f6.1.2.1 328 kR_228_328
  have e13 : hV H1 332 = hV H0 332 := fRow f6.1.2.1 332 kR_228_332
  have e14 : hV H1 335 = hV H0 335 := fRow f6.1.2.1 335 kR_228_335
  have e15 : hV H2 285 11 = hV H1 285 11 := f10.1.2.1.1 285 11 kF_216_285_11
  have e16 : hV H2 285 11 = hV H1 285 11 := e15
  have e17 : hV H2 285 13 = hV H1 285 13 := f10.1.2.1.1 285 13 kF_216_285_13
  have e18 : hV H2 285 13 = hV H1 285 13 := e17
  have e19 : hV H2 288 = hV H1 288 := fRow f10.1.2.1 288 kR_216_288
  have e20 : hV H1 288 = hV H0 288 := fRow f6.1.2.1 288 kR_228_288
  have e21 : hV H2 288 = hV H0 288 := e19.trans e20
  have e22 : hV H3 285 15 = hV H2 285 15 := f12.1.2.1.1 285 15 kF_219_285_15
  have e23 : hV H2 285 15 = hV H1 285 15 := f10.1.2.1.1 285 15 kF_216_285_15
  have e24 : hV H3 285 15 = hV H1 285 15 := (e22).trans e23
  have e25 : hV H4 288 = hV H3 288 := fRow f23.1.2.1 288 kR_223_288
  have e26 : hV H3 288 = hV H2 288 := fRow f12.1.2.1 288 kR_219_288
  have e27 : hV H3 288 = hV H0 288 := e26.trans e21
  have e28 : hV H4 288 = hV H0 288 := e25.trans e27
  have e29 : hV H5 285 11 = hV H4 285 11 := uPlace f24 _ _ (iS (show n6 = ((305 : Nat) : Int) from f13) rfl)
  have e30 : hV H5 285 11 = hV H4 285 11 := e29
  have e31 : hV H5 285 13 = hV H4 285 13 := uPlace f24 _ _ (iS (show n6 = ((305 : Nat) : Int) from f13) rfl)
  have e32 : hV H5 285 13 = hV H4 285 13 := e31
  have e33 : hV H5 285 15 = hV H4 285 15 := uPlace f24 _ _ (iS (show n6 = ((305 : Nat) : Int) from f13) rfl)
  have e34 : hV H5 285 15 = hV H4 285 15 := e33
  have e35 : hV H5 285 18 = hV H4 285 18 := uPlace f24 _ _ (iS (show n6 = ((305 : Nat) : Int) from f13) rfl)
  have e36 : hV H4 285 18 = hV H3 285 18 := f23.1.2.1.1 285 18 kF_223_285_18
  have e37 : hV H3 285 18 = hV H2 285 18 := f12.1.2.1.1 285 18 kF_219_285_18
  have e38 : hV H2 285 18 = hV H1 285 18 := f10.1.2.1.1 285 18 kF_216_285_18
  have e39 : hV H5 285 18 = hV H0 285 18 := (e35).trans ((e36).trans ((e37).trans ((e38).trans e0)))
  have e40 : hV H5 285 32 = hV H4 285 32 := uPlace f24 _ _ (iS (show n6 = ((305 : Nat) : Int) from f13) rfl)
  have e41 : hV H4 285 32 = hV H3 285 32 := f23.1.2.1.1 285 32 kF_223_285_32
  have e42 : hV H3 285 32 = hV H2 285 32 := f12.1.2.1.1 285 32 kF_219_285_32
  have e43 : hV H2 285 32 = hV H1 285 32 := f10.1.2.1.1 285 32 kF_216_285_32
  have e44 : hV H5 285 32 = hV H0 285 32 := (e40).trans ((e41).trans ((e42).trans ((e43).trans e2)))
  have e45 : hV H5 285 33 = hV H4 285 33 := uPlace f24 _ _ (iS (show n6 = ((305 : Nat) : Int) from f13) rfl)
  have e46 : hV H4 285 33 = hV H3 285 33 := f23.1.2.1.1 285 33 kF_223_285_33
  have e47 : hV H3 285 33 = hV H2 285 33 := f12.1.2.1.1 285 33 kF_219_285_33
  have e48 : hV H2 285 33 = hV H1 285 33 := f10.1.2.1.1 285 33 kF_216_285_33
  have e49 : hV H5 285 33 = hV H0 285 33 := (e45).trans ((e46).trans ((e47).trans ((e48).trans e4)))
  have e50 : hV H5 285 64 = hV H4 285 64 := uPlace f24 _ _ (iS (show n6 = ((305 : Nat) : Int) from f13) rfl)
  have e51 : hV H4 285 64 = hV H3 285 64 := f23.1.2.1.1 285 64 kF_223_285_64
  have e52 : hV H3 285 64 = hV H2 285 64 := f12.1.2.1.1 285 64 kF_219_285_64
  have e53 : hV H2 285 64 = hV H1 285 64 := f10.1.2.1.1 285 64 kF_216_285_64
  have e54 : hV H5 285 64 = hV H0 285 64 := (e50).trans ((e51).trans ((e52).trans ((e53).trans e6)))
  have e55 : hV H5 294 = hV H4 294 := uRowNe f24 _ (iS (show n6 = ((305 : Nat) : Int) from f13) rfl)
  have e56 : hV H4 294 = hV H3 294 := fRow f23.1.2.1 294 kR_223_294
  have e57 : hV H3 294 = hV H2 294 := fRow f12.1.2.1 294 kR_219_294
  have e58 : hV H2 294 = hV H1 294 := fRow f10.1.2.1 294 kR_216_294
  have e59 : hV H2 294 = hV H0 294 := e58.trans e8
  have e60 : hV H3 294 = hV H0 294 := e57.trans e59
  have e61 : hV H4 294 = hV H0 294 := e56.trans e60
  have e62 : hV H5 294 = hV H0 294 := e55.trans e61
  have e63 : hV H5 296 = hV H4 296 := uRowNe f24 _ (iS (show n6 = ((305 : Nat) : Int) from f13) rfl)
  have e64 : hV H4 296 = hV H3 296 := fRow f23.1.2.1 296 kR_223_296
  have e65 : hV H3 296 = hV H2 296 := fRow f12.1.2.1 296 kR_219_296
  have e66 : hV H2 296 = hV H1 296 := fRow f10.1.2.1 296 kR_216_296
  have e67 : hV H2 296 = hV H0 296 := e66.trans e9
  have e68 : hV H3 296 = hV H0 296 := e65.trans e67
  have e69 : hV H4 296 = hV H0 296 := e64.trans e68
  have e70 : hV H5 296 = hV H0 296 := e63.trans e69
  have e71 : hV H5 297 = hV H4 297 := uRowNe f24 _ (iS (show n6 = ((305 : Nat) : Int) from f13) rfl)
  have e72 : hV H4 297 = hV H3 297 := fRow f23.1.2.1 297 kR_223_297
  have e73 : hV H3 297 = hV H2 297 := fRow f12.1.2.1 297 kR_219_297
  have e74 : hV H2 297 = hV H1 297 := fRow f10.1.2.1 297 kR_216_297
  have e75 : hV H2 297 = hV H0 297 := e74.trans e10
  have e76 : hV H3 297 = hV H0 297 := e73.trans e75
  have e77 : hV H4 297 = hV H0 297 := e72.trans e76
  have e78 : hV H5 297 = hV H0 297 := e71.trans e77
  have e79 : hV H5 298 = hV H4 298 := uRowNe f24 _ (iS (show n6 = ((305 : Nat) : Int) from f13) rfl)
  have e80 : hV H4 298 = hV H3 298 := fRow f23.1.2.1 298 kR_223_298
  have e81 : hV H3 298 = hV H2 298 := fRow f12.1.2.1 298 kR_219_298
  have e82 : hV H2 298 = hV H1 298 := fRow f10.1.2.1 298 kR_216_298
  have e83 : hV H2 298 = hV H0 298 := e82.trans e11
  have e84 : hV H3 298 = hV H0 298 := e81.trans e83
  have e85 : hV H4 298 = hV H0 298 := e80.trans e84
  have e86 : hV H5 298 = hV H0 298 := e79.trans e85
  have e87 : hV H5 300 = hV H4 300 := uRowNe f24 _ (iS (show n6 = ((305 : Nat) : Int) from f13) rfl)
  have e88 : hV H4 300 = hV H3 300 := fRow f23.1.2.1 300 kR_223_300
  have e89 : hV H3 300 = hV H2 300 := fRow f12.1.2.1 300 kR_219_300
  have e90 : hV H2 300 = hV H1 300 := fRow f10.1.2.1 300 kR_216_300
  have e91 : hV H3 300 = hV H1 300 := e89.trans e90
  have e92 : hV H4 300 = hV H1 300 := e88.trans e91
  have e93 : hV H5 300 = hV H1 300 := e87.trans e92
  have e94 : hV H5 301 = hV H4 301 := uRowNe f24 _ (iS (show n6 = ((305 : Nat) : Int) from f13) rfl)
  have e95 : hV H4 301 = hV H3 301 := fRow f23.1.2.1 301 kR_223_301
  have e96 : hV H3 301 = hV H2 301 := fRow f12.1.2.1 301 kR_219_301
  have e97 : hV H2 301 = hV H1 301 := fRow f10.1.2.1 301 kR_216_301
  have e98 : hV H3 301 = hV H1 301 := e96.trans e97
  have e99 : hV H4 301 = hV H1 301 := e95.trans e98
  have e100 : hV H5 301 = hV H1 301 := e94.trans e99
  have e101 : hV H5 302 = hV H4 302 := uRowNe f24 _ (iS (show n6 = ((305 : Nat) : Int) from f13) rfl)
  have e102 : hV H4 302 = hV H3 302 := fRow f23.1.2.1 302 kR_223_302
  have e103 : hV H3 302 = hV H2 302 := fRow f12.1.2.1 302 kR_219_302
  have e104 : hV H2 302 = hV H1 302 := fRow f10.1.2.1 302 kR_216_302
  have e105 : hV H3 302 = hV H1 302 := e103.trans e104
  have e106 : hV H4 302 = hV H1 302 := e102.trans e105
  have e107 : hV H5 302 = hV H1 302 := e101.trans e106
  have e108 : hV H5 303 = hV H4 303 := uRowNe f24 _ (iS (show n6 = ((305 : Nat) : Int) from f13) rfl)
  have e109 : hV H4 303 = hV H3 303 := fRow f23.1.2.1 303 kR_223_303
  have e110 : hV H3 303 = hV H2 303 := fRow f12.1.2.1 303 kR_219_303
  have e111 : hV H2 303 = hV H1 303 := fRow f10.1.2.1 303 kR_216_303
  have e112 : hV H3 303 = hV H1 303 := e110.trans e111
  have e113 : hV H4 303 = hV H1 303 := e109.trans e112
  have e114 : hV H5 303 = hV H1 303 := e108.trans e113
  have e115 : hV H5 305 = uF (hV H4 305) n10 n13 := uRow f24 _ f13.symm
  have e116 : hV H4 305 = hV H3 305 := fRow f23.1.2.1 305 kR_223_305
  have e117 : hV H3 305 = hV H2 305 := fRow f12.1.2.1 305 kR_219_305
  have e118 : hV H2 305 = hV H1 305 := fRow f10.1.2.1 305 kR_216_305
  have e119 : hV H3 305 = hV H1 305 := e117.trans e118
  have e120 : hV H4 305 = hV H1 305 := e116.trans e119
  have e121 : hV H5 305 = (uF (hV H1 305) n10 n13) := e115.trans (congrArg (fun z => uF z n10 n13) e120)
  have e122 : hV H5 328 = hV H4 328 := uRowNe f24 _ (iS (show n6 = ((305 : Nat) : Int) from f13) rfl)
  have e123 : hV H4 328 = hV H3 328 := fRow f23.1.2.1 328 kR_223_328
  have e124 : hV H3 328 = hV H2 328 := fRow f12.1.2.1 328 kR_219_328
  have e125 : hV H2 328 = hV H1 328 := fRow f10.1.2.1 328 kR_216_328
  have e126 : hV H2 328 = hV H0 328 := e125.trans e12
  have e127 : hV H3 328 = hV H0 328 := e124.trans e126
  have e128 : hV H4 328 = hV H0 328 := e123.trans e127
  have e129 : hV H5 328 = hV H0 328 := e122.trans e128
  have e130 : hV H5 332 = hV H4 332 := uRowNe f24 _ (iS (show n6 = ((305 : Nat) : Int) from f13) rfl)
  have e131 : hV H4 332 = hV H3 332 := fRow f23.1.2.1 332 kR_223_332
  have e132 : hV H3 332 = hV H2 332 := fRow f12.1.2.1 332 kR_219_332
  have e133 : hV H2 332 = hV H1 332 := fRow f10.1.2.1 332 kR_216_332
  have e134 : hV H2 332 = hV H0 332 := e133.trans e13
  have e135 : hV H3 332 = hV H0 332 := e132.trans e134
  have e136 : hV H4 332 = hV H0 332 := e131.trans e135
  have e137 : hV H5 332 = hV H0 332 := e130.trans e136
  have e138 : hV H5 335 = hV H4 335 := uRowNe f24 _ (iS (show n6 = ((305 : Nat) : Int) from f13) rfl)
  have e139 : hV H4 335 = hV H3 335 := fRow f23.1.2.1 335 kR_223_335
  have e140 : hV H3 335 = hV H2 335 := fRow f12.1.2.1 335 kR_219_335
  have e141 : hV H2 335 = hV H1 335 := fRow f10.1.2.1 335 kR_216_335
  have e142 : hV H2 335 = hV H0 335 := e141.trans e14
  have e143 : hV H3 335 = hV H0 335 := e140.trans e142
  have e144 : hV H4 335 = hV H0 335 := e139.trans e143
  have e145 : hV H5 335 = hV H0 335 := e138.trans e144
  have e146 : (0 : Int) ≤ hV H1 285 11 ∧ hV H1 285 11 ≤ 500 := f6.1.2.2 285 11 _ _ kW_285_11
  have e147 : (0 : Int) ≤ hV H1 285 13 ∧ hV H1 285 13 ≤ 2 := f6.1.2.2 285 13 _ _ kW_285_13
  have e148 : (0 : Int) ≤ hV H1 285 15 ∧ hV H1 285 15 ≤ 6 := f6.1.2.2 285 15 _ _ kW_285_15
  have e149 : (0 : Int) ≤ hV H1 285 18 ∧ hV H1 285 18 ≤ 8 := f6.1.2.2 285 18 _ _ kW_285_18
  have e150 : (0 : Int) ≤ hV H1 285 32 ∧ hV H1 285 32 ≤ 7 := f6.1.2.2 285 32 _ _ kW_285_32
  have e151 : (0 : Int) ≤ hV H1 285 33 ∧ hV H1 285 33 ≤ 62 := f6.1.2.2 285 33 _ _ kW_285_33
  have e152 : (0 : Int) ≤ hV H1 285 64 ∧ hV H1 285 64 ≤ 20 := f6.1.2.2 285 64 _ _ kW_285_64
  have e153 : (0 : Int) ≤ hV H2 285 11 ∧ hV H2 285 11 ≤ 500 := f10.1.2.2.2 285 11 _ _ kW_285_11
  have e154 : (0 : Int) ≤ hV H2 285 13 ∧ hV H2 285 13 ≤ 2 := f10.1.2.2.2 285 13 _ _ kW_285_13
  have e155 : (0 : Int) ≤ hV H3 285 11 ∧ hV H3 285 11 ≤ 500 := f12.1.2.2.2 285 11 _ _ kW_285_11
  have e156 : (0 : Int) ≤ hV H3 285 13 ∧ hV H3 285 13 ≤ 2 := f12.1.2.2.2 285 13 _ _ kW_285_13
  have e157 : (0 : Int) ≤ hV H3 285 15 ∧ hV H3 285 15 ≤ 6 := f12.1.2.2.2 285 15 _ _ kW_285_15
  have e158 : (0 : Int) ≤ hV H4 285 11 ∧ hV H4 285 11 ≤ 500 := f23.1.2.2.2 285 11 _ _ kW_285_11
  have e159 : (0 : Int) ≤ hV H4 285 13 ∧ hV H4 285 13 ≤ 2 := f23.1.2.2.2 285 13 _ _ kW_285_13
  have e160 : (0 : Int) ≤ hV H4 285 15 ∧ hV H4 285 15 ≤ 6 := f23.1.2.2.2 285 15 _ _ kW_285_15
  try simp only [PA, PW]
  try simp only [e1] at e149
  try simp only [e3] at e150
  try simp only [e5] at e151
  try simp only [e7] at e152
  try simp only [e16] at e153
  try simp only [e18] at e154
  try simp only [e24] at e157
  try simp only [e1, e3, e5, e7, e8, e9, e10, e11, e12, e13, e14, e16, e18, e21, e24, e28, e30, e32, e34, e39, e44, e49, e54, e62, e70, e78, e86, e93, e100, e107, e114, e121, e129, e137, e145] at g5
  try simp only [e1, e3, e5, e7, e8, e9, e10, e11, e12, e13, e14, e16, e18, e21, e24, e28, e30, e32, e34, e39, e44, e49, e54, e62, e70, e78, e86, e93, e100, e107, e114, e121, e129, e137, e145]
  have k0 := g4.1
  have y0 := g4.2.1
  have y1 := g4.2.2.1
  have y2 := g4.2.2.2.1
  have y3 := g4.2.2.2.2.1
  have y4 := g4.2.2.2.2.2.1
  have y5 := g4.2.2.2.2.2.2.1
  have y6 := g4.2.2.2.2.2.2.2.1
  have y7 := g4.2.2.2.2.2.2.2.2.1
  have y8 := g4.2.2.2.2.2.2.2.2.2.1
  have y9 := g4.2.2.2.2.2.2.2.2.2.2.1
  have y10 := g4.2.2.2.2.2.2.2.2.2.2.2.1
  have y11 := g4.2.2.2.2.2.2.2.2.2.2.2.2.1
  have y12 := g4.2.2.2.2.2.2.2.2.2.2.2.2.2.1
  have y13 := g4.2.2.2.2.2.2.2.2.2.2.2.2.2.2
  have p0 := g3.1
  have p1 := g3.2.1
  have p2 := g3.2.2.1
  have p3 := g3.2.2.2.1
  have p4 := g3.2.2.2.2.1
  have p5 := g3.2.2.2.2.2.1
  have p6 := g3.2.2.2.2.2.2.1
  have p7 := g3.2.2.2.2.2.2.2
  have r0_0 := f10.2.1
  have r0_1 := f10.2.2.resolve_right (fun z => f11 z.1)
  have r1_0 := f12.2.1
  have r1_1 := f12.2.2.1
  have r1_2 := f12.2.2.2.1
  have r1_3 := f12.2.2.2.2
  have r2_0 := f23.2.1
  have r2_1 := f23.2.2.1
  have r2_2 := f23.2.2.2.1
  have r2_3 := f23.2.2.2.2.1
  have r2_4 := f23.2.2.2.2.2.1
  have r2_5 := f23.2.2.2.2.2.2.1
  have r2_6 := f23.2.2.2.2.2.2.2.1
  try simp only [PA] at y0
  try simp only [PW] at y1
  try simp only [PA] at p0
  try simp only [PW] at p5
  try simp only [e1, e7, e8, e9, e11, e12, e13, e14] at y0
  try simp only [e3, e5, e8, e9, e10, e11] at y1
  try simp only [e18] at r0_0
  try simp only [e1, e3, e5, e7, e8, e9, e10, e11, e12, e13, e14, e16, e18, e21] at r0_1
  try simp only [e16] at r1_0
  try simp only [e16] at r1_1
  try simp only [e18] at r1_2
  try simp only [e16] at r1_3
  try simp only [e24] at r2_4
  clear g3
  clear g4
  have wb0 := (p7 (hV H0 285 32).toNat).1
  have wp0 := (p7 (hV H0 285 33).toNat).2
  try simp only [e1, e3, e5, e7, e8, e9, e10, e11, e12, e13, e14] at wb0
  try simp only [e1, e3, e5, e7, e8, e9, e10, e11, e12, e13, e14] at wp0
  clear f14 e0 e1 e2 e3 e4 e5 e6 e7 e8 e9 e10 e11 e12 e13 e14 e15 e16 e17 e18 e19 e20 e21 e22 e23 e24 e25 e26 e27 e28 e29 e30 e31 e32 e33 e34 e35 e36 e37 e38 e39 e40 e41 e42 e43 e44 e45 e46 e47 e48 e49 e50 e51 e52 e53 e54 e55 e56 e57 e58 e59 e60 e61 e62 e63 e64 e65 e66 e67 e68 e69 e70 e71 e72 e73 e74 e75 e76 e77 e78 e79 e80 e81 e82 e83 e84 e85 e86 e87 e88 e89 e90 e91 e92 e93 e94 e95 e96 e97 e98 e99 e100 e101 e102 e103 e104 e105 e106 e107 e108 e109 e110 e111 e112 e113 e114 e116 e117 e118 e119 e120 e121 e122 e123 e124 e125 e126 e127 e128 e129 e130 e131 e132 e133 e134 e135 e136 e137 e138 e139 e140 e141 e142 e143 e144 e145
  clear f6 f10 f12 f23
  rw [f15] at f16
  unfold w32 at *
  try (have ix0 : n8 = 6 * n0 := (by omega); subst ix0)
  try (have ix1 : n10 = (6 * n0) + 1 := (by omega); subst ix1)

  refine ⟨⟨?_, ?_, ?_, ?_, ?_, ?_, ?_, ?_, ?_, ?_, ?_, ?_, ?_, ?_, ?_⟩, fun q hq => ?_⟩
  · first | exact True.intro | rfl | omega
  · refine PA_cn ?_ (by omega)
    exact y0
  · intro z1 z2
    refine PW_cn ?_ (by omega) (by omega) (by omega) (by omega)
    exact y1 (by omega) (by omega)
  · (try clear y0 y1 p0 p5 p7)
    first | exact True.intro | omega
  · (try clear y0 y1 p0 p5 p7)
    first | exact True.intro | omega
  · (try clear y0 y1 p0 p5 p7)
    first | exact True.intro | omega
  · (try clear y0 y1 p0 p5 p7)
    first | exact True.intro | omega
  · (try clear y0 y1 p0 p5 p7)
    first | exact True.intro | omega
  · (try clear y0 y1 p0 p5 p7)
    first | exact True.intro | omega
  · (try clear y0 y1 p0 p5 p7)
    first | exact True.intro | omega
  · (try clear y0 y1 p0 p5 p7)
    first | exact True.intro | omega
  · (try clear y0 y1 p0 p5 p7)
    first | exact True.intro | omega
  · (try clear y0 y1 p0 p5 p7)
    first | exact True.intro | omega
  · (try clear y0 y1 p0 p5 p7)
    first | (simp only [uF_at]; omega) | omega
  · (try clear y0 y1 p0 p5 p7)
    first | (simp only [uF_at]; omega) | omega
  · (try clear y0 y1 p0 p5 p7)
    have g6 := Option.some.inj hq
    subst g6
    omega
def g_228_113_2 : vG := ([(80, [6, 10, 13], [5, 4], 0), (1223, [13, 2, 11, 12], [3, 4], 0), (90, [13], [], 0), (91, [13], [], 9999), (0, [12], [], 60), (0, [11], [], 0), (1, [10, 8, 9], [], 0), (0, [9], [], 1), (3, [8, 7, 3], [], 0), (0, [7], [], 6), (20, [6, 2], [3], 31), (0, [6], [], 305), (1219, [2], [2, 3], 0), (31, [5], [], 0), (1216, [5, 2, 4], [1, 2], 0), (90, [5], [], 0), (91, [5], [], 1), (0, [4], [], 27), (5000, [0, 1, 2, 3], [0, 1], 113), (0, [0], [], 285), (90, [1], [], 0), (91, [1], [], 1007), (0, [2], [], 285), (90, [3], [], 0), (91, [3], [], 1007)], (4000, [2, 3], [5], 144))
theorem c_228_113_2 {q0 : Nat} : vOkm T0 (eP e_228 L_228 A_228 mu_228 (some q0)) 2 g_228_113_2 := vOk_inI fun ρ η f0 f1 f2 f3 f4 f5 f6 f7 f8 f9 f10 f11 f12 f13 f14 f15 f16 f17 f18 f19 f20 f21 f22 f23 f24 => q_228_11 (q0 := q0) (n0 := ρ 3) (n1 := ρ 2) (n2 := ρ 1) (n3 := ρ 0) (n4 := ρ 4) (n5 := ρ 5) (n6 := ρ 6) (n7 := ρ 7) (n8 := ρ 8) (n9 := ρ 9) (n10 := ρ 10) (n11 := ρ 11) (n12 := ρ 12) (n13 := ρ 13) (H0 := η 0) (H1 := η 1) (H2 := η 2) (H3 := η 3) (H4 := η 4) (H5 := η 5) f24 f23 f22 f21 f20 f19 f18 f17 f16 f15 f14 f13 f12 f11 f10 f9 f8 f7 f6 f5 f4 f3 f2 f1 f0
def p_228_113 : List vG := [g_228_113_0,
  g_228_113_1,
  g_228_113_2]
theorem r_228_113 : vCovO false (eRc e_228 L_228 cs_228 2000 (113, [(0, (3, 12, 285, 0)), (1, (0, 0, 1007, 0))])) p_228_113 = true := by decide +kernel
set_option maxHeartbeats 20000000 in
theorem q_228_12 {q0 : Nat} {n0 n1 n2 n3 n4 n5 : Int} {H0 H1 H2 : gH} (f0 : n0 ≤ 1007) (f1 : 0 ≤ n0) (f2 : n1 = 285) (f3 : n2 ≤ 1007) (f4 : 0 ≤ n2) (f5 : n3 = 285) (f6 : (hLe T0 H0 H1 ∧ hFr s_228.2.2.2.2 H0 H1 ∧ hWt T0 H1) ∧ (Ab_228_144 n3 n2 n1 n0 H0 H1 ∧ preb_228 n3 n2 H0) ∧ some q0 = some (mub_228_144 n3 n2 n1 n0 H0 H1)) (f7 : n4 = 28) (f8 : n5 ≤ 1) (f9 : 0 ≤ n5) (f10 : (hLe T0 H1 H2 ∧ hFr s_216.2.2.2.2 H1 H2 ∧ ((0 : Int) = 0 → H2.length = H1.length) ∧ hWt T0 H2) ∧ postb_216 n5 n1 n4 H1 H2) (f11 : n5 = 0) : Ab_228_176 n3 n2 n1 n0 H0 H2 ∧ ∀ q, some q0 = some q → mub_228_176 n3 n2 n1 n0 H0 H2 < q := by
  have g4 := f6.2.1.1
  unfold Ab_228_144 at g4
  have g3 := f6.2.1.2
  unfold preb_228 at g3
  have g5 := Option.some.inj f6.2.2
  unfold mub_228_144 at g5
  unfold postb_216 at f10
  unfold Ab_228_176
  unfold mub_228_176
  have e0 : hV H1 285 18 = hV H0 285 18 := f6.1.2.1.1 285 18 kF_228_285_18
  have e1 : hV H1 285 18 = hV H0 285 18 := e0
  have e2 : hV H1 285 32 = hV H0 285 32 := f6.1.2.1.1 285 32 kF_228_285_32
  have e3 : hV H1 285 32 = hV H0 285 32 := e2
  have e4 : hV H1 285 33 = hV H0 285 33 := f6.1.2.1.1 285 33 kF_228_285_33
  have e5 : hV H1 285 33 = hV H0 285 33 := e4
  have e6 : hV H2 285 11 = hV H1 285 11 := f10.1.2.1.1 285 11 kF_216_285_11
  have e7 : hV H2 285 11 = hV H1 285 11 := e6
  have e8 : hV H2 285 13 = hV H1 285 13 := f10.1.2.1.1 285 13 kF_216_285_13
  have e9 : hV H2 285 13 = hV H1 285 13 := e8
  have e10 : hV H2 285 15 = hV H1 285 15 := f10.1.2.1.1 285 15 kF_216_285_15
  have e11 : hV H2 285 15 = hV H1 285 15 := e10
  have e12 : hV H2 288 = hV H1 288 := fRow f10.1.2.1 288 kR_216_288
  have e13 : hV H1 288 = hV H0 288 := fRow f6.1.2.1 288 kR_228_288
  have e14 : hV H2 288 = hV H0 288 := e12.trans e13
  have e15 : hV H2 300 = hV H1 300 := fRow f10.1.2.1 300 kR_216_300
  have e16 : hV H2 301 = hV H1 301 := fRow f10.1.2.1 301 kR_216_301
  have e17 : hV H2 305 = hV H1 305 := fRow f10.1.2.1 305 kR_216_305
  have e18 : PA H2 = PA H1 := PA_fr f10.1.2.1 (by decide +kernel)
  have e19 : PW H2 = PW H1 := PW_fr f10.1.2.1 (by decide +kernel)
  have e20 : (0 : Int) ≤ hV H1 285 11 ∧ hV H1 285 11 ≤ 500 := f6.1.2.2 285 11 _ _ kW_285_11
  have e21 : (0 : Int) ≤ hV H1 285 13 ∧ hV H1 285 13 ≤ 2 := f6.1.2.2 285 13 _ _ kW_285_13
  have e22 : (0 : Int) ≤ hV H1 285 15 ∧ hV H1 285 15 ≤ 6 := f6.1.2.2 285 15 _ _ kW_285_15
  have e23 : (0 : Int) ≤ hV H1 285 18 ∧ hV H1 285 18 ≤ 8 := f6.1.2.2 285 18 _ _ kW_285_18
  have e24 : (0 : Int) ≤ hV H1 285 32 ∧ hV H1 285 32 ≤ 7 := f6.1.2.2 285 32 _ _ kW_285_32
  have e25 : (0 : Int) ≤ hV H1 285 33 ∧ hV H1 285 33 ≤ 62 := f6.1.2.2 285 33 _ _ kW_285_33
  have e26 : (0 : Int) ≤ hV H2 285 11 ∧ hV H2 285 11 ≤ 500 := f10.1.2.2.2 285 11 _ _ kW_285_11
  have e27 : (0 : Int) ≤ hV H2 285 13 ∧ hV H2 285 13 ≤ 2 := f10.1.2.2.2 285 13 _ _ kW_285_13
  have e28 : (0 : Int) ≤ hV H2 285 15 ∧ hV H2 285 15 ≤ 6 := f10.1.2.2.2 285 15 _ _ kW_285_15
  try simp only [e1] at e23
  try simp only [e3] at e24
  try simp only [e5] at e25
  try simp only [e7] at e26
  try simp only [e9] at e27
  try simp only [e11] at e28
  try simp only [e1, e3, e5, e7, e9, e11, e14, e15, e16, e17, e18, e19] at g5
  try simp only [e1, e3, e5, e7, e9, e11, e14, e15, e16, e17, e18, e19]
  have k0 := g4.1
  have y0 := g4.2.1
  have y1 := g4.2.2.1
  have y2 := g4.2.2.2.1
  have y3 := g4.2.2.2.2.1
  have y4 := g4.2.2.2.2.2.1
  have y5 := g4.2.2.2.2.2.2.1
  have y6 := g4.2.2.2.2.2.2.2.1
  have y7 := g4.2.2.2.2.2.2.2.2.1
  have y8 := g4.2.2.2.2.2.2.2.2.2.1
  have y9 := g4.2.2.2.2.2.2.2.2.2.2.1
  have y10 := g4.2.2.2.2.2.2.2.2.2.2.2.1
  have y11 := g4.2.2.2.2.2.2.2.2.2.2.2.2.1
  have y12 := g4.2.2.2.2.2.2.2.2.2.2.2.2.2.1
  have y13 := g4.2.2.2.2.2.2.2.2.2.2.2.2.2.2
  have p0 := g3.1
  have p1 := g3.2.1
  have p2 := g3.2.2.1
  have p3 := g3.2.2.2.1
  have p4 := g3.2.2.2.2.1
  have p5 := g3.2.2.2.2.2.1
  have p6 := g3.2.2.2.2.2.2.1
  have p7 := g3.2.2.2.2.2.2.2
  have r0_0 := f10.2.1
  try simp only [e9] at r0_0
  clear g3
  clear g4
  have wb0 := (p7 (hV H0 285 32).toNat).1
  have wp0 := (p7 (hV H0 285 33).toNat).2
  try simp only [e1, e3, e5] at wb0
  try simp only [e1, e3, e5] at wp0
  clear e0 e1 e2 e3 e4 e5 e6 e7 e8 e9 e10 e11 e12 e13 e14 e15 e16 e17 e18 e19
  clear f6 f10

  refine ⟨⟨?_, ?_, ?_, ?_, ?_, ?_, ?_, ?_, ?_, ?_, ?_, ?_, ?_, ?_, ?_⟩, fun q hq => ?_⟩
  · first | exact True.intro | rfl | omega
  · exact y0
  · intro z1 z2
    exact y1 (by omega) (by omega)
  · (try clear y0 y1 p0 p5 p7)
    first | exact True.intro | omega
  · (try clear y0 y1 p0 p5 p7)
    first | exact True.intro | omega
  · (try clear y0 y1 p0 p5 p7)
    first | exact True.intro | omega
  · (try clear y0 y1 p0 p5 p7)
    first | exact True.intro | omega
  · (try clear y0 y1 p0 p5 p7)
    first | exact True.intro | omega
  · (try clear y0 y1 p0 p5 p7)
    first | exact True.intro | omega
  · (try clear y0 y1 p0 p5 p7)
    first | exact True.intro | omega
  · (try clear y0 y1 p0 p5 p7)
    first | exact True.intro | omega
  · (try clear y0 y1 p0 p5 p7)
    first | exact True.intro | omega
  · (try clear y0 y1 p0 p5 p7)
    first | exact True.intro | omega
  · (try clear y0 y1 p0 p5 p7)
    first | exact True.intro | omega
  · (try clear y0 y1 p0 p5 p7)
    first | exact True.intro | omega
  · (try clear y0 y1 p0 p5 p7)
    have g6 := Option.some.inj hq
    subst g6
    omega
def g_228_144_0 : vG := ([(30, [5], [], 0), (1216, [5, 2, 4], [1, 2], 0), (90, [5], [], 0), (91, [5], [], 1), (0, [4], [], 28), (5000, [0, 1, 2, 3], [0, 1], 144), (0, [0], [], 285), (90, [1], [], 0), (91, [1], [], 1007), (0, [2], [], 285), (90, [3], [], 0), (91, [3], [], 1007)], (4000, [2, 3], [2], 176))
theorem c_228_144_0 {q0 : Nat} : vOkm T0 (eP e_228 L_228 A_228 mu_228 (some q0)) 2 g_228_144_0 := vOk_inI fun ρ η f0 f1 f2 f3 f4 f5 f6 f7 f8 f9 f10 f11 => q_228_12 (q0 := q0) (n0 := ρ 3) (n1 := ρ 2) (n2 := ρ 1) (n3 := ρ 0) (n4 := ρ 4) (n5 := ρ 5) (H0 := η 0) (H1 := η 1) (H2 := η 2) f11 f10 f9 f8 f7 f6 f5 f4 f3 f2 f1 f0
set_option maxHeartbeats 20000000 in
theorem q_228_13 {q0 : Nat} {n0 n1 n2 n3 n4 n5 n6 n7 : Int} {H0 H1 : gH} (f0 : n0 ≤ 1007) (f1 : 0 ≤ n0) (f2 : n1 = 285) (f3 : n2 ≤ 1007) (f4 : 0 ≤ n2) (f5 : n3 = 285) (f6 : (hLe T0 H0 H1 ∧ hFr s_228.2.2.2.2 H0 H1 ∧ hWt T0 H1) ∧ (Ab_228_144 n3 n2 n1 n0 H0 H1 ∧ preb_228 n3 n2 H0) ∧ some q0 = some (mub_228_144 n3 n2 n1 n0 H0 H1)) (f7 : n4 = 6) (f8 : n5 = w32 (n4 * n0)) (f9 : n6 = 2) (f10 : n7 = w32 (n5 + n6)) : 0 ≤ n7 ∧ n7 < 6048 := by
  have g4 := f6.2.1.1
  unfold Ab_228_144 at g4
  have g3 := f6.2.1.2
  unfold preb_228 at g3
  have e0 : hV H1 285 18 = hV H0 285 18 := f6.1.2.1.1 285 18 kF_228_285_18
  have e1 : hV H1 285 18 = hV H0 285 18 := e0
  have e2 : hV H1 285 32 = hV H0 285 32 := f6.1.2.1.1 285 32 kF_228_285_32
  have e3 : hV H1 285 32 = hV H0 285 32 := e2
  have e4 : hV H1 285 33 = hV H0 285 33 := f6.1.2.1.1 285 33 kF_228_285_33
  have e5 : hV H1 285 33 = hV H0 285 33 := e4
  have e6 : (0 : Int) ≤ hV H1 285 11 ∧ hV H1 285 11 ≤ 500 := f6.1.2.2 285 11 _ _ kW_285_11
  have e7 : (0 : Int) ≤ hV H1 285 13 ∧ hV H1 285 13 ≤ 2 := f6.1.2.2 285 13 _ _ kW_285_13
  have e8 : (0 : Int) ≤ hV H1 285 15 ∧ hV H1 285 15 ≤ 6 := f6.1.2.2 285 15 _ _ kW_285_15
  have e9 : (0 : Int) ≤ hV H1 285 18 ∧ hV H1 285 18 ≤ 8 := f6.1.2.2 285 18 _ _ kW_285_18
  have e10 : (0 : Int) ≤ hV H1 285 32 ∧ hV H1 285 32 ≤ 7 := f6.1.2.2 285 32 _ _ kW_285_32
  have e11 : (0 : Int) ≤ hV H1 285 33 ∧ hV H1 285 33 ≤ 62 := f6.1.2.2 285 33 _ _ kW_285_33
  try simp only [e1] at e9
  try simp only [e3] at e10
  try simp only [e5] at e11
  have k0 := g4.1
  have y0 := g4.2.1
  have y1 := g4.2.2.1
  have y2 := g4.2.2.2.1
  have y3 := g4.2.2.2.2.1
  have y4 := g4.2.2.2.2.2.1
  have y5 := g4.2.2.2.2.2.2.1
  have y6 := g4.2.2.2.2.2.2.2.1
  have y7 := g4.2.2.2.2.2.2.2.2.1
  have y8 := g4.2.2.2.2.2.2.2.2.2.1
  have y9 := g4.2.2.2.2.2.2.2.2.2.2.1
  have y10 := g4.2.2.2.2.2.2.2.2.2.2.2.1
  have y11 := g4.2.2.2.2.2.2.2.2.2.2.2.2.1
  have y12 := g4.2.2.2.2.2.2.2.2.2.2.2.2.2.1
  have y13 := g4.2.2.2.2.2.2.2.2.2.2.2.2.2.2
  have p0 := g3.1
  have p1 := g3.2.1
  have p2 := g3.2.2.1
  have p3 := g3.2.2.2.1
  have p4 := g3.2.2.2.2.1
  have p5 := g3.2.2.2.2.2.1
  have p6 := g3.2.2.2.2.2.2.1
  have p7 := g3.2.2.2.2.2.2.2
  clear g3
  clear g4
  have wb0 := (p7 (hV H0 285 32).toNat).1
  have wp0 := (p7 (hV H0 285 33).toNat).2
  try simp only [e1, e3, e5] at wb0
  try simp only [e1, e3, e5] at wp0
  clear e0 e1 e2 e3 e4 e5
  clear f6
  rw [f7] at f8
  unfold w32 at *
  try (have ix0 : n5 = 6 * n0 := (by omega); subst ix0)
  try (have ix1 : n7 = (6 * n0) + 2 := (by omega); subst ix1)

  (try clear y0 y1 p0 p5 p7)
  omega
def g_228_144_1 : vG := ([(1, [10, 8, 9], [], 0), (0, [9], [], 2), (3, [8, 7, 3], [], 0), (0, [7], [], 6), (5000, [0, 1, 2, 3], [0, 1], 144), (0, [0], [], 285), (90, [1], [], 0), (91, [1], [], 1007), (0, [2], [], 285), (90, [3], [], 0), (91, [3], [], 1007)], (70, [10], [], 6048))
theorem c_228_144_1 {q0 : Nat} : vOkm T0 (eP e_228 L_228 A_228 mu_228 (some q0)) 2 g_228_144_1 := vOk_inI fun ρ η f0 f1 f2 f3 f4 f5 f6 f7 f8 f9 f10 => q_228_13 (q0 := q0) (n0 := ρ 3) (n1 := ρ 2) (n2 := ρ 1) (n3 := ρ 0) (n4 := ρ 7) (n5 := ρ 8) (n6 := ρ 9) (n7 := ρ 10) (H0 := η 0) (H1 := η 1) f10 f9 f8 f7 f6 f5 f4 f3 f2 f1 f0
set_option maxHeartbeats 20000000 in
theorem q_228_14 {q0 : Nat} {n0 n1 n2 n3 n4 n5 n6 n7 n8 n9 n10 n11 n12 n13 : Int} {H0 H1 H2 H3 H4 H5 : gH} (f0 : n0 ≤ 1007) (f1 : 0 ≤ n0) (f2 : n1 = 285) (f3 : n2 ≤ 1007) (f4 : 0 ≤ n2) (f5 : n3 = 285) (f6 : (hLe T0 H0 H1 ∧ hFr s_228.2.2.2.2 H0 H1 ∧ hWt T0 H1) ∧ (Ab_228_144 n3 n2 n1 n0 H0 H1 ∧ preb_228 n3 n2 H0) ∧ some q0 = some (mub_228_144 n3 n2 n1 n0 H0 H1)) (f7 : n4 = 28) (f8 : n5 ≤ 1) (f9 : 0 ≤ n5) (f10 : (hLe T0 H1 H2 ∧ hFr s_216.2.2.2.2 H1 H2 ∧ ((0 : Int) = 0 → H2.length = H1.length) ∧ hWt T0 H2) ∧ postb_216 n5 n1 n4 H1 H2) (f11 : n5 ≠ 0) (f12 : (hLe T0 H2 H3 ∧ hFr s_219.2.2.2.2 H2 H3 ∧ ((0 : Int) = 0 → H3.length = H2.length) ∧ hWt T0 H3) ∧ postb_219 n1 H2 H3) (f13 : n6 = 305) (f14 : n6 = hV H3 (n1).toNat 31) (f15 : n7 = 6) (f16 : n8 = w32 (n7 * n0)) (f17 : n9 = 2) (f18 : n10 = w32 (n8 + n9)) (f19 : n11 = 0) (f20 : n12 = 400) (f21 : n13 ≤ 9999) (f22 : 0 ≤ n13) (f23 : (hLe T0 H3 H4 ∧ hFr s_223.2.2.2.2 H3 H4 ∧ ((0 : Int) = 0 → H4.length = H3.length) ∧ hWt T0 H4) ∧ postb_223 n13 n1 n11 n12 H3 H4) (f24 : hUpd H5 H4 n6 n10 n13) : Ab_228_176 n3 n2 n1 n0 H0 H5 ∧ ∀ q, some q0 = some q → mub_228_176 n3 n2 n1 n0 H0 H5 < q := by
  have g4 := f6.2.1.1
  unfold Ab_228_144 at g4
  have g3 := f6.2.1.2
  unfold preb_228 at g3
  have g5 := Option.some.inj f6.2.2
  unfold mub_228_144 at g5
  unfold postb_216 at f10
  unfold postb_219 at f12
  unfold postb_223 at f23
  unfold Ab_228_176
  unfold mub_228_176
  have e0 : hV H1 285 18 = hV H0 285 18 := f6.1.2.1.1 285 18 kF_228_285_18
  have e1 : hV H1 285 18 = hV H0 285 18 := e0
  have e2 : hV H1 285 32 = hV H0 285 32 := f6.1.2.1.1 285 32 kF_228_285_32
  have e3 : hV H1 285 32 = hV H0 285 32 := e2
  have e4 : hV H1 285 33 = hV H0 285 33 := f6.1.2.1.1 285 33 kF_228_285_33
  have e5 : hV H1 285 33 = hV H0 285 33 := e4
  have e6 : hV H1 285 64 = hV H0 285 64 := f6.1.2.1.1 285 64 kF_228_285_64
  have e7 : hV H1 285 64 = hV H0 285 64 := e6
  have e8 : hV H1 294 = hV H0 294 := fRow f6.1.2.1 294 kR_228_294
  have e9 : hV H1 296 = hV H0 296 := fRow f6.1.2.1 296 kR_228_296
  have e10 : hV H1 297 = hV H0 297 := fRow f6.1.2.1 297 kR_228_297
  have e11 : hV H1 298 = hV H0 298 := fRow f6.1.2.1 298 kR_228_298
  have e12 : hV H1 328 = hV H0 328 := fRow f6.1.2.1 328 kR_228_328
  have e13 : hV H1 332 = hV H0 332 := fRow f6.1.2.1 332 kR_228_332
  have e14 : hV H1 335 = hV H0 335 := fRow f6.1.2.1 335 kR_228_335
  have e15 : hV H2 285 11 = hV H1 285 11 := f10.1.2.1.1 285 11 kF_216_285_11
  have e16 : hV H2 285 11 = hV H1 285 11 := e15
  have e17 : hV H2 285 13 = hV H1 285 13 := f10.1.2.1.1 285 13 kF_216_285_13
  have e18 : hV H2 285 13 = hV H1 285 13 := e17
  have e19 : hV H2 288 = hV H1 288 := fRow f10.1.2.1 288 kR_216_288
  have e20 : hV H1 288 = hV H0 288 := fRow f6.1.2.1 288 kR_228_288
  have e21 : hV H2 288 = hV H0 288 := e19.trans e20
  have e22 : hV H3 285 15 = hV H2 285 15 := f12.1.2.1.1 285 15 kF_219_285_15
  have e23 : hV H2 285 15 = hV H1 285 15 := f10.1.2.1.1 285 15 kF_216_285_15
  have e24 : hV H3 285 15 = hV H1 285 15 := (e22).trans e23
  have e25 : hV H4 288 = hV H3 288 := fRow f23.1.2.1 288 kR_223_288
  have e26 : hV H3 288 = hV H2 288 := fRow f12.1.2.1 288 kR_219_288
  have e27 : hV H3 288 = hV H0 288 := e26.trans e21
  have e28 : hV H4 288 = hV H0 288 := e25.trans e27
  have e29 : hV H5 285 11 = hV H4 285 11 := uPlace f24 _ _ (iS (show n6 = ((305 : Nat) : Int) from f13) rfl)
  have e30 : hV H5 285 11 = hV H4 285 11 := e29
  have e31 : hV H5 285 13 = hV H4 285 13 := uPlace f24 _ _ (iS (show n6 = ((305 : Nat) : Int) from f13) rfl)
  have e32 : hV H5 285 13 = hV H4 285 13 := e31
  have e33 : hV H5 285 15 = hV H4 285 15 := uPlace f24 _ _ (iS (show n6 = ((305 : Nat) : Int) from f13) rfl)
  have e34 : hV H5 285 15 = hV H4 285 15 := e33
  have e35 : hV H5 285 18 = hV H4 285 18 := uPlace f24 _ _ (iS (show n6 = ((305 : Nat) : Int) from f13) rfl)
  have e36 : hV H4 285 18 = hV H3 285 18 := f23.1.2.1.1 285 18 kF_223_285_18
  have e37 : hV H3 285 18 = hV H2 285 18 := f12.1.2.1.1 285 18 kF_219_285_18
  have e38 : hV H2 285 18 = hV H1 285 18 := f10.1.2.1.1 285 18 kF_216_285_18
  have e39 : hV H5 285 18 = hV H0 285 18 := (e35).trans ((e36).trans ((e37).trans ((e38).trans e0)))
  have e40 : hV H5 285 32 = hV H4 285 32 := uPlace f24 _ _ (iS (show n6 = ((305 : Nat) : Int) from f13) rfl)
  have e41 : hV H4 285 32 = hV H3 285 32 := f23.1.2.1.1 285 32 kF_223_285_32
  have e42 : hV H3 285 32 = hV H2 285 32 := f12.1.2.1.1 285 32 kF_219_285_32
  have e43 : hV H2 285 32 = hV H1 285 32 := f10.1.2.1.1 285 32 kF_216_285_32
  have e44 : hV H5 285 32 = hV H0 285 32 := (e40).trans ((e41).trans ((e42).trans ((e43).trans e2)))
  have e45 : hV H5 285 33 = hV H4 285 33 := uPlace f24 _ _ (iS (show n6 = ((305 : Nat) : Int) from f13) rfl)
  have e46 : hV H4 285 33 = hV H3 285 33 := f23.1.2.1.1 285 33 kF_223_285_33
  have e47 : hV H3 285 33 = hV H2 285 33 := f12.1.2.1.1 285 33 kF_219_285_33
  have e48 : hV H2 285 33 = hV H1 285 33 := f10.1.2.1.1 285 33 kF_216_285_33
  have e49 : hV H5 285 33 = hV H0 285 33 := (e45).trans ((e46).trans ((e47).trans ((e48).trans e4)))
  have e50 : hV H5 285 64 = hV H4 285 64 := uPlace f24 _ _ (iS (show n6 = ((305 : Nat) : Int) from f13) rfl)
  have e51 : hV H4 285 64 = hV H3 285 64 := f23.1.2.1.1 285 64 kF_223_285_64
  have e52 : hV H3 285 64 = hV H2 285 64 := f12.1.2.1.1 285 64 kF_219_285_64
  have e53 : hV H2 285 64 = hV H1 285 64 := f10.1.2.1.1 285 64 kF_216_285_64
  have e54 : hV H5 285 64 = hV H0 285 64 := (e50).trans ((e51).trans ((e52).trans ((e53).trans e6)))
  have e55 : hV H5 294 = hV H4 294 := uRowNe f24 _ (iS (show n6 = ((305 : Nat) : Int) from f13) rfl)
  have e56 : hV H4 294 = hV H3 294 := fRow f23.1.2.1 294 kR_223_294
  have e57 : hV H3 294 = hV H2 294 := fRow f12.1.2.1 294 kR_219_294
  have e58 : hV H2 294 = hV H1 294 := fRow f10.1.2.1 294 kR_216_294
  have e59 : hV H2 294 = hV H0 294 := e58.trans e8
  have e60 : hV H3 294 = hV H0 294 := e57.trans e59
  have e61 : hV H4 294 = hV H0 294 := e56.trans e60
  have e62 : hV H5 294 = hV H0 294 := e55.trans e61
  have e63 : hV H5 296 = hV H4 296 := uRowNe f24 _ (iS (show n6 = ((305 : Nat) : Int) from f13) rfl)
  have e64 : hV H4 296 = hV H3 296 := fRow f23.1.2.1 296 kR_223_296
  have e65 : hV H3 296 = hV H2 296 := fRow f12.1.2.1 296 kR_219_296
  have e66 : hV H2 296 = hV H1 296 := fRow f10.1.2.1 296 kR_216_296
  have e67 : hV H2 296 = hV H0 296 := e66.trans e9
  have e68 : hV H3 296 = hV H0 296 := e65.trans e67
  have e69 : hV H4 296 = hV H0 296 := e64.trans e68
  have e70 : hV H5 296 = hV H0 296 := e63.trans e69
  have e71 : hV H5 297 = hV H4 297 := uRowNe f24 _ (iS (show n6 = ((305 : Nat) : Int) from f13) rfl)
  have e72 : hV H4 297 = hV H3 297 := fRow f23.1.2.1 297 kR_223_297
  have e73 : hV H3 297 = hV H2 297 := fRow f12.1.2.1 297 kR_219_297
  have e74 : hV H2 297 = hV H1 297 := fRow f10.1.2.1 297 kR_216_297
  have e75 : hV H2 297 = hV H0 297 := e74.trans e10
  have e76 : hV H3 297 = hV H0 297 := e73.trans e75
  have e77 : hV H4 297 = hV H0 297 := e72.trans e76
  have e78 : hV H5 297 = hV H0 297 := e71.trans e77
  have e79 : hV H5 298 = hV H4 298 := uRowNe f24 _ (iS (show n6 = ((305 : Nat) : Int) from f13) rfl)
  have e80 : hV H4 298 = hV H3 298 := fRow f23.1.2.1 298 kR_223_298
  have e81 : hV H3 298 = hV H2 298 := fRow f12.1.2.1 298 kR_219_298
  have e82 : hV H2 298 = hV H1 298 := fRow f10.1.2.1 298 kR_216_298
  have e83 : hV H2 298 = hV H0 298 := e82.trans e11
  have e84 : hV H3 298 = hV H0 298 := e81.trans e83
  have e85 : hV H4 298 = hV H0 298 := e80.trans e84
  have e86 : hV H5 298 = hV H0 298 := e79.trans e85
  have e87 : hV H5 300 = hV H4 300 := uRowNe f24 _ (iS (show n6 = ((305 : Nat) : Int) from f13) rfl)
  have e88 : hV H4 300 = hV H3 300 := fRow f23.1.2.1 300 kR_223_300
  have e89 : hV H3 300 = hV H2 300 := fRow f12.1.2.1 300 kR_219_300
  have e90 : hV H2 300 = hV H1 300 := fRow f10.1.2.1 300 kR_216_300
  have e91 : hV H3 300 = hV H1 300 := e89.trans e90
  have e92 : hV H4 300 = hV H1 300 := e88.trans e91
  have e93 : hV H5 300 = hV H1 300 := e87.trans e92
  have e94 : hV H5 301 = hV H4 301 := uRowNe f24 _ (iS (show n6 = ((305 : Nat) : Int) from f13) rfl)
  have e95 : hV H4 301 = hV H3 301 := fRow f23.1.2.1 301 kR_223_301
  have e96 : hV H3 301 = hV H2 301 := fRow f12.1.2.1 301 kR_219_301
  have e97 : hV H2 301 = hV H1 301 := fRow f10.1.2.1 301 kR_216_301
  have e98 : hV H3 301 = hV H1 301 := e96.trans e97
  have e99 : hV H4 301 = hV H1 301 := e95.trans e98
  have e100 : hV H5 301 = hV H1 301 := e94.trans e99
  have e101 : hV H5 302 = hV H4 302 := uRowNe f24 _ (iS (show n6 = ((305 : Nat) : Int) from f13) rfl)
  have e102 : hV H4 302 = hV H3 302 := fRow f23.1.2.1 302 kR_223_302
  have e103 : hV H3 302 = hV H2 302 := fRow f12.1.2.1 302 kR_219_302
  have e104 : hV H2 302 = hV H1 302 := fRow f10.1.2.1 302 kR_216_302
  have e105 : hV H3 302 = hV H1 302 := e103.trans e104
  have e106 : hV H4 302 = hV H1 302 := e102.trans e105
  have e107 : hV H5 302 = hV H1 302 := e101.trans e106
  have e108 : hV H5 303 = hV H4 303 := uRowNe f24 _ (iS (show n6 = ((305 : Nat) : Int) from f13) rfl)
  have e109 : hV H4 303 = hV H3 303 := fRow f23.1.2.1 303 kR_223_303
  have e110 : hV H3 303 = hV H2 303 := fRow f12.1.2.1 303 kR_219_303
  have e111 : hV H2 303 = hV H1 303 := fRow f10.1.2.1 303 kR_216_303
  have e112 : hV H3 303 = hV H1 303 := e110.trans e111
  have e113 : hV H4 303 = hV H1 303 := e109.trans e112
  have e114 : hV H5 303 = hV H1 303 := e108.trans e113
  have e115 : hV H5 305 = uF (hV H4 305) n10 n13 := uRow f24 _ f13.symm
  have e116 : hV H4 305 = hV H3 305 := fRow f23.1.2.1 305 kR_223_305
  have e117 : hV H3 305 = hV H2 305 := fRow f12.1.2.1 305 kR_219_305
  have e118 : hV H2 305 = hV H1 305 := fRow f10.1.2.1 305 kR_216_305
  have e119 : hV H3 305 = hV H1 305 := e117.trans e118
  have e120 : hV H4 305 = hV H1 305 := e116.trans e119
  have e121 : hV H5 305 = (uF (hV H1 305) n10 n13) := e115.trans (congrArg (fun z => uF z n10 n13) e120)
  have e122 : hV H5 328 = hV H4 328 := uRowNe f24 _ (iS (show n6 = ((305 : Nat) : Int) from f13) rfl)
  have e123 : hV H4 328 = hV H3 328 := fRow f23.1.2.1 328 kR_223_328
  have e124 : hV H3 328 = hV H2 328 := fRow f12.1.2.1 328 kR_219_328
  have e125 : hV H2 328 = hV H1 328 := fRow f10.1.2.1 328 kR_216_328
  have e126 : hV H2 328 = hV H0 328 := e125.trans e12
  have e127 : hV H3 328 = hV H0 328 := e124.trans e126
  have e128 : hV H4 328 = hV H0 328 := e123.trans e127
  have e129 : hV H5 328 = hV H0 328 := e122.trans e128
  have e130 : hV H5 332 = hV H4 332 := uRowNe f24 _ (iS (show n6 = ((305 : Nat) : Int) from f13) rfl)
  have e131 : hV H4 332 = hV H3 332 := fRow f23.1.2.1 332 kR_223_332
  have e132 : hV H3 332 = hV H2 332 := fRow f12.1.2.1 332 kR_219_332
  have e133 : hV H2 332 = hV H1 332 := fRow f10.1.2.1 332 kR_216_332
  have e134 : hV H2 332 = hV H0 332 := e133.trans e13
  have e135 : hV H3 332 = hV H0 332 := e132.trans e134
  have e136 : hV H4 332 = hV H0 332 := e131.trans e135
  have e137 : hV H5 332 = hV H0 332 := e130.trans e136
  have e138 : hV H5 335 = hV H4 335 := uRowNe f24 _ (iS (show n6 = ((305 : Nat) : Int) from f13) rfl)
  have e139 : hV H4 335 = hV H3 335 := fRow f23.1.2.1 335 kR_223_335
  have e140 : hV H3 335 = hV H2 335 := fRow f12.1.2.1 335 kR_219_335
  have e141 : hV H2 335 = hV H1 335 := fRow f10.1.2.1 335 kR_216_335
  have e142 : hV H2 335 = hV H0 335 := e141.trans e14
  have e143 : hV H3 335 = hV H0 335 := e140.trans e142
  have e144 : hV H4 335 = hV H0 335 := e139.trans e143
  have e145 : hV H5 335 = hV H0 335 := e138.trans e144
  have e146 : (0 : Int) ≤ hV H1 285 11 ∧ hV H1 285 11 ≤ 500 := f6.1.2.2 285 11 _ _ kW_285_11
  have e147 : (0 : Int) ≤ hV H1 285 13 ∧ hV H1 285 13 ≤ 2 := f6.1.2.2 285 13 _ _ kW_285_13
  have e148 : (0 : Int) ≤ hV H1 285 15 ∧ hV H1 285 15 ≤ 6 := f6.1.2.2 285 15 _ _ kW_285_15
  have e149 : (0 : Int) ≤ hV H1 285 18 ∧ hV H1 285 18 ≤ 8 := f6.1.2.2 285 18 _ _ kW_285_18
  have e150 : (0 : Int) ≤ hV H1 285 32 ∧ hV H1 285 32 ≤ 7 := f6.1.2.2 285 32 _ _ kW_285_32
  have e151 : (0 : Int) ≤ hV H1 285 33 ∧ hV H1 285 33 ≤ 62 := f6.1.2.2 285 33 _ _ kW_285_33
  have e152 : (0 : Int) ≤ hV H1 285 64 ∧ hV H1 285 64 ≤ 20 := f6.1.2.2 285 64 _ _ kW_285_64
  have e153 : (0 : Int) ≤ hV H2 285 11 ∧ hV H2 285 11 ≤ 500 := f10.1.2.2.2 285 11 _ _ kW_285_11
  have e154 : (0 : Int) ≤ hV H2 285 13 ∧ hV H2 285 13 ≤ 2 := f10.1.2.2.2 285 13 _ _ kW_285_13
  have e155 : (0 : Int) ≤ hV H3 285 11 ∧ hV H3 285 11 ≤ 500 := f12.1.2.2.2 285 11 _ _ kW_285_11
  have e156 : (0 : Int) ≤ hV H3 285 13 ∧ hV H3 285 13 ≤ 2 := f12.1.2.2.2 285 13 _ _ kW_285_13
  have e157 : (0 : Int) ≤ hV H3 285 15 ∧ hV H3 285 15 ≤ 6 := f12.1.2.2.2 285 15 _ _ kW_285_15
  have e158 : (0 : Int) ≤ hV H4 285 11 ∧ hV H4 285 11 ≤ 500 := f23.1.2.2.2 285 11 _ _ kW_285_11
  have e159 : (0 : Int) ≤ hV H4 285 13 ∧ hV H4 285 13 ≤ 2 := f23.1.2.2.2 285 13 _ _ kW_285_13
  have e160 : (0 : Int) ≤ hV H4 285 15 ∧ hV H4 285 15 ≤ 6 := f23.1.2.2.2 285 15 _ _ kW_285_15
  try simp only [PA, PW]
  try simp only [e1] at e149
  try simp only [e3] at e150
  try simp only [e5] at e151
  try simp only [e7] at e152
  try simp only [e16] at e153
  try simp only [e18] at e154
  try simp only [e24] at e157
  try simp only [e1, e3, e5, e7, e8, e9, e10, e11, e12, e13, e14, e16, e18, e21, e24, e28, e30, e32, e34, e39, e44, e49, e54, e62, e70, e78, e86, e93, e100, e107, e114, e121, e129, e137, e145] at g5
  try simp only [e1, e3, e5, e7, e8, e9, e10, e11, e12, e13, e14, e16, e18, e21, e24, e28, e30, e32, e34, e39, e44, e49, e54, e62, e70, e78, e86, e93, e100, e107, e114, e121, e129, e137, e145]
  have k0 := g4.1
  have y0 := g4.2.1
  have y1 := g4.2.2.1
  have y2 := g4.2.2.2.1
  have y3 := g4.2.2.2.2.1
  have y4 := g4.2.2.2.2.2.1
  have y5 := g4.2.2.2.2.2.2.1
  have y6 := g4.2.2.2.2.2.2.2.1
  have y7 := g4.2.2.2.2.2.2.2.2.1
  have y8 := g4.2.2.2.2.2.2.2.2.2.1
  have y9 := g4.2.2.2.2.2.2.2.2.2.2.1
  have y10 := g4.2.2.2.2.2.2.2.2.2.2.2.1
  have y11 := g4.2.2.2.2.2.2.2.2.2.2.2.2.1
  have y12 := g4.2.2.2.2.2.2.2.2.2.2.2.2.2.1
  have y13 := g4.2.2.2.2.2.2.2.2.2.2.2.2.2.2
  have p0 := g3.1
  have p1 := g3.2.1
  have p2 := g3.2.2.1
  have p3 := g3.2.2.2.1
  have p4 := g3.2.2.2.2.1
  have p5 := g3.2.2.2.2.2.1
  have p6 := g3.2.2.2.2.2.2.1
  have p7 := g3.2.2.2.2.2.2.2
  have r0_0 := f10.2.1
  have r0_1 := f10.2.2.resolve_right (fun z => f11 z.1)
  have r1_0 := f12.2.1
  have r1_1 := f12.2.2.1
  have r1_2 := f12.2.2.2.1
  have r1_3 := f12.2.2.2.2
  have r2_0 := f23.2.1
  have r2_1 := f23.2.2.1
  have r2_2 := f23.2.2.2.1
  have r2_3 := f23.2.2.2.2.1
  have r2_4 := f23.2.2.2.2.2.1
  have r2_5 := f23.2.2.2.2.2.2.1
  have r2_6 := f23.2.2.2.2.2.2.2.1
  try simp only [PA] at y0
  try simp only [PW] at y1
  try simp only [PA] at p0
  try simp only [PW] at p5
  try simp only [e1, e7, e8, e9, e11, e12, e13, e14] at y0
  try simp only [e3, e5, e8, e9, e10, e11] at y1
  try simp only [e18] at r0_0
  try simp only [e1, e3, e5, e7, e8, e9, e10, e11, e12, e13, e14, e16, e18, e21] at r0_1
  try simp only [e16] at r1_0
  try simp only [e16] at r1_1
  try simp only [e18] at r1_2
  try simp only [e16] at r1_3
  try simp only [e24] at r2_4
  clear g3
  clear g4
  have wb0 := (p7 (hV H0 285 32).toNat).1
  have wp0 := (p7 (hV H0 285 33).toNat).2
  try simp only [e1, e3, e5, e7, e8, e9, e10, e11, e12, e13, e14] at wb0
  try simp only [e1, e3, e5, e7, e8, e9, e10, e11, e12, e13, e14] at wp0
  clear f14 e0 e1 e2 e3 e4 e5 e6 e7 e8 e9 e10 e11 e12 e13 e14 e15 e16 e17 e18 e19 e20 e21 e22 e23 e24 e25 e26 e27 e28 e29 e30 e31 e32 e33 e34 e35 e36 e37 e38 e39 e40 e41 e42 e43 e44 e45 e46 e47 e48 e49 e50 e51 e52 e53 e54 e55 e56 e57 e58 e59 e60 e61 e62 e63 e64 e65 e66 e67 e68 e69 e70 e71 e72 e73 e74 e75 e76 e77 e78 e79 e80 e81 e82 e83 e84 e85 e86 e87 e88 e89 e90 e91 e92 e93 e94 e95 e96 e97 e98 e99 e100 e101 e102 e103 e104 e105 e106 e107 e108 e109 e110 e111 e112 e113 e114 e116 e117 e118 e119 e120 e121 e122 e123 e124 e125 e126 e127 e128 e129 e130 e131 e132 e133 e134 e135 e136 e137 e138 e139 e140 e141 e142 e143 e144 e145
  clear f6 f10 f12 f23
  rw [f15] at f16
  unfold w32 at *
  try (have ix0 : n8 = 6 * n0 := (by omega); subst ix0)
  try (have ix1 : n10 = (6 * n0) + 2 := (by omega); subst ix1)

  refine ⟨⟨?_, ?_, ?_, ?_, ?_, ?_, ?_, ?_, ?_, ?_, ?_, ?_, ?_, ?_, ?_⟩, fun q hq => ?_⟩
  · first | exact True.intro | rfl | omega
  · refine PA_cn ?_ (by omega)
    exact y0
  · intro z1 z2
    refine PW_cn ?_ (by omega) (by omega) (by omega) (by omega)
    exact y1 (by omega) (by omega)
  · (try clear y0 y1 p0 p5 p7)
    first | exact True.intro | omega
  · (try clear y0 y1 p0 p5 p7)
    first | exact True.intro | omega
  · (try clear y0 y1 p0 p5 p7)
    first | exact True.intro | omega
  · (try clear y0 y1 p0 p5 p7)
    first | exact True.intro | omega
  · (try clear y0 y1 p0 p5 p7)
    first | exact True.intro | omega
  · (try clear y0 y1 p0 p5 p7)
    first | exact True.intro | omega
  · (try clear y0 y1 p0 p5 p7)
    first | exact True.intro | omega
  · (try clear y0 y1 p0 p5 p7)
    first | exact True.intro | omega
  · (try clear y0 y1 p0 p5 p7)
    first | exact True.intro | omega
  · (try clear y0 y1 p0 p5 p7)
    first | exact True.intro | omega
  · (try clear y0 y1 p0 p5 p7)
    first | (simp only [uF_at]; omega) | omega
  · (try clear y0 y1 p0 p5 p7)
    first | (simp only [uF_at]; omega) | omega
  · (try clear y0 y1 p0 p5 p7)
    have g6 := Option.some.inj hq
    subst g6
    omega
def g_228_144_2 : vG := ([(80, [6, 10, 13], [5, 4], 0), (1223, [13, 2, 11, 12], [3, 4], 0), (90, [13], [], 0), (91, [13], [], 9999), (0, [12], [], 400), (0, [11], [], 0), (1, [10, 8, 9], [], 0), (0, [9], [], 2), (3, [8, 7, 3], [], 0), (0, [7], [], 6), (20, [6, 2], [3], 31), (0, [6], [], 305), (1219, [2], [2, 3], 0), (31, [5], [], 0), (1216, [5, 2, 4], [1, 2], 0), (90, [5], [], 0), (91, [5], [], 1), (0, [4], [], 28), (5000, [0, 1, 2, 3], [0, 1], 144), (0, [0], [], 285), (90, [1], [], 0), (91, [1], [], 1007), (0, [2], [], 285), (90, [3], [], 0), (91, [3], [], 1007)], (4000, [2, 3], [5], 176))
theorem c_228_144_2 {q0 : Nat} : vOkm T0 (eP e_228 L_228 A_228 mu_228 (some q0)) 2 g_228_144_2 := vOk_inI fun ρ η f0 f1 f2 f3 f4 f5 f6 f7 f8 f9 f10 f11 f12 f13 f14 f15 f16 f17 f18 f19 f20 f21 f22 f23 f24 => q_228_14 (q0 := q0) (n0 := ρ 3) (n1 := ρ 2) (n2 := ρ 1) (n3 := ρ 0) (n4 := ρ 4) (n5 := ρ 5) (n6 := ρ 6) (n7 := ρ 7) (n8 := ρ 8) (n9 := ρ 9) (n10 := ρ 10) (n11 := ρ 11) (n12 := ρ 12) (n13 := ρ 13) (H0 := η 0) (H1 := η 1) (H2 := η 2) (H3 := η 3) (H4 := η 4) (H5 := η 5) f24 f23 f22 f21 f20 f19 f18 f17 f16 f15 f14 f13 f12 f11 f10 f9 f8 f7 f6 f5 f4 f3 f2 f1 f0
def p_228_144 : List vG := [g_228_144_0,
  g_228_144_1,
  g_228_144_2]
theorem r_228_144 : vCovO false (eRc e_228 L_228 cs_228 2000 (144, [(0, (3, 12, 285, 0)), (1, (0, 0, 1007, 0))])) p_228_144 = true := by decide +kernel
set_option maxHeartbeats 20000000 in
theorem q_228_15 {q0 : Nat} {n0 n1 n2 n3 n4 n5 : Int} {H0 H1 H2 : gH} (f0 : n0 ≤ 1007) (f1 : 0 ≤ n0) (f2 : n1 = 285) (f3 : n2 ≤ 1007) (f4 : 0 ≤ n2) (f5 : n3 = 285) (f6 : (hLe T0 H0 H1 ∧ hFr s_228.2.2.2.2 H0 H1 ∧ hWt T0 H1) ∧ (Ab_228_176 n3 n2 n1 n0 H0 H1 ∧ preb_228 n3 n2 H0) ∧ some q0 = some (mub_228_176 n3 n2 n1 n0 H0 H1)) (f7 : n4 = 29) (f8 : n5 ≤ 1) (f9 : 0 ≤ n5) (f10 : (hLe T0 H1 H2 ∧ hFr s_216.2.2.2.2 H1 H2 ∧ ((0 : Int) = 0 → H2.length = H1.length) ∧ hWt T0 H2) ∧ postb_216 n5 n1 n4 H1 H2) (f11 : n5 = 0) : Ab_228_231 n3 n2 n1 n0 H0 H2 ∧ ∀ q, some q0 = some q → mub_228_231 n3 n2 n1 n0 H0 H2 < q := by
  have g4 := f6.2.1.1
  unfold Ab_228_176 at g4
  have g3 := f6.2.1.2
  unfold preb_228 at g3
  have g5 := Option.some.inj f6.2.2
  unfold mub_228_176 at g5
  unfold postb_216 at f10
  unfold Ab_228_231
  unfold mub_228_231
  have e0 : hV H1 285 18 = hV H0 285 18 := f6.1.2.1.1 285 18 kF_228_285_18
  have e1 : hV H1 285 18 = hV H0 285 18 := e0
  have e2 : hV H1 285 32 = hV H0 285 32 := f6.1.2.1.1 285 32 kF_228_285_32
  have e3 : hV H1 285 32 = hV H0 285 32 := e2
  have e4 : hV H1 285 33 = hV H0 285 33 := f6.1.2.1.1 285 33 kF_228_285_33
  have e5 : hV H1 285 33 = hV H0 285 33 := e4
  have e6 : hV H2 285 11 = hV H1 285 11 := f10.1.2.1.1 285 11 kF_216_285_11
  have e7 : hV H2 285 11 = hV H1 285 11 := e6
  have e8 : hV H2 285 13 = hV H1 285 13 := f10.1.2.1.1 285 13 kF_216_285_13
  have e9 : hV H2 285 13 = hV H1 285 13 := e8
  have e10 : hV H2 285 15 = hV H1 285 15 := f10.1.2.1.1 285 15 kF_216_285_15
  have e11 : hV H2 285 15 = hV H1 285 15 := e10
  have e12 : hV H2 288 = hV H1 288 := fRow f10.1.2.1 288 kR_216_288
  have e13 : hV H1 288 = hV H0 288 := fRow f6.1.2.1 288 kR_228_288
  have e14 : hV H2 288 = hV H0 288 := e12.trans e13
  have e15 : hV H2 300 = hV H1 300 := fRow f10.1.2.1 300 kR_216_300
  have e16 : hV H2 301 = hV H1 301 := fRow f10.1.2.1 301 kR_216_301
  have e17 : hV H2 305 = hV H1 305 := fRow f10.1.2.1 305 kR_216_305
  have e18 : PA H2 = PA H1 := PA_fr f10.1.2.1 (by decide +kernel)
  have e19 : PW H2 = PW H1 := PW_fr f10.1.2.1 (by decide +kernel)
  have e20 : (0 : Int) ≤ hV H1 285 11 ∧ hV H1 285 11 ≤ 500 := f6.1.2.2 285 11 _ _ kW_285_11
  have e21 : (0 : Int) ≤ hV H1 285 13 ∧ hV H1 285 13 ≤ 2 := f6.1.2.2 285 13 _ _ kW_285_13
  have e22 : (0 : Int) ≤ hV H1 285 15 ∧ hV H1 285 15 ≤ 6 := f6.1.2.2 285 15 _ _ kW_285_15
  have e23 : (0 : Int) ≤ hV H1 285 18 ∧ hV H1 285 18 ≤ 8 := f6.1.2.2 285 18 _ _ kW_285_18
  have e24 : (0 : Int) ≤ hV H1 285 32 ∧ hV H1 285 32 ≤ 7 := f6.1.2.2 285 32 _ _ kW_285_32
  have e25 : (0 : Int) ≤ hV H1 285 33 ∧ hV H1 285 33 ≤ 62 := f6.1.2.2 285 33 _ _ kW_285_33
  have e26 : (0 : Int) ≤ hV H2 285 11 ∧ hV H2 285 11 ≤ 500 := f10.1.2.2.2 285 11 _ _ kW_285_11
  have e27 : (0 : Int) ≤ hV H2 285 13 ∧ hV H2 285 13 ≤ 2 := f10.1.2.2.2 285 13 _ _ kW_285_13
  have e28 : (0 : Int) ≤ hV H2 285 15 ∧ hV H2 285 15 ≤ 6 := f10.1.2.2.2 285 15 _ _ kW_285_15
  try simp only [e1] at e23
  try simp only [e3] at e24
  try simp only [e5] at e25
  try simp only [e7] at e26
  try simp only [e9] at e27
  try simp only [e11] at e28
  try simp only [e1, e3, e5, e7, e9, e11, e14, e15, e16, e17, e18, e19] at g5
  try simp only [e1, e3, e5, e7, e9, e11, e14, e15, e16, e17, e18, e19]
  have k0 := g4.1
  have y0 := g4.2.1
  have y1 := g4.2.2.1
  have y2 := g4.2.2.2.1
  have y3 := g4.2.2.2.2.1
  have y4 := g4.2.2.2.2.2.1
  have y5 := g4.2.2.2.2.2.2.1
  have y6 := g4.2.2.2.2.2.2.2.1
  have y7 := g4.2.2.2.2.2.2.2.2.1
  have y8 := g4.2.2.2.2.2.2.2.2.2.1
  have y9 := g4.2.2.2.2.2.2.2.2.2.2.1
  have y10 := g4.2.2.2.2.2.2.2.2.2.2.2.1
  have y11 := g4.2.2.2.2.2.2.2.2.2.2.2.2.1
  have y12 := g4.2.2.2.2.2.2.2.2.2.2.2.2.2.1
  have y13 := g4.2.2.2.2.2.2.2.2.2.2.2.2.2.2
  have p0 := g3.1
  have p1 := g3.2.1
  have p2 := g3.2.2.1
  have p3 := g3.2.2.2.1
  have p4 := g3.2.2.2.2.1
  have p5 := g3.2.2.2.2.2.1
  have p6 := g3.2.2.2.2.2.2.1
  have p7 := g3.2.2.2.2.2.2.2
  have r0_0 := f10.2.1
  try simp only [e9] at r0_0
  clear g3
  clear g4
  have wb0 := (p7 (hV H0 285 32).toNat).1
  have wp0 := (p7 (hV H0 285 33).toNat).2
  try simp only [e1, e3, e5] at wb0
  try simp only [e1, e3, e5] at wp0
  clear e0 e1 e2 e3 e4 e5 e6 e7 e8 e9 e10 e11 e12 e13 e14 e15 e16 e17 e18 e19
  clear f6 f10

  refine ⟨⟨?_, ?_, ?_, ?_, ?_, ?_, ?_, ?_, ?_, ?_, ?_, ?_, ?_, ?_, ?_⟩, fun q hq => ?_⟩
  · first | exact True.intro | rfl | omega
  · exact y0
  · intro z1 z2
    exact y1 (by omega) (by omega)
  · (try clear y0 y1 p0 p5 p7)
    first | exact True.intro | omega
  · (try clear y0 y1 p0 p5 p7)
    first | exact True.intro | omega
  · (try clear y0 y1 p0 p5 p7)
    first | exact True.intro | omega
  · (try clear y0 y1 p0 p5 p7)
    first | exact True.intro | omega
  · (try clear y0 y1 p0 p5 p7)
    first | exact True.intro | omega
  · (try clear y0 y1 p0 p5 p7)
    first | exact True.intro | omega
  · (try clear y0 y1 p0 p5 p7)
    first | exact True.intro | omega
  · (try clear y0 y1 p0 p5 p7)
    first | exact True.intro | omega
  · (try clear y0 y1 p0 p5 p7)
    first | exact True.intro | omega
  · (try clear y0 y1 p0 p5 p7)
    first | exact True.intro | omega
  · (try clear y0 y1 p0 p5 p7)
    first | exact True.intro | omega
  · (try clear y0 y1 p0 p5 p7)
    first | exact True.intro | omega
  · (try clear y0 y1 p0 p5 p7)
    have g6 := Option.some.inj hq
    subst g6
    omega
def g_228_176_0 : vG := ([(30, [5], [], 0), (1216, [5, 2, 4], [1, 2], 0), (90, [5], [], 0), (91, [5], [], 1), (0, [4], [], 29), (5000, [0, 1, 2, 3], [0, 1], 176), (0, [0], [], 285), (90, [1], [], 0), (91, [1], [], 1007), (0, [2], [], 285), (90, [3], [], 0), (91, [3], [], 1007)], (4000, [2, 3], [2], 231))
theorem c_228_176_0 {q0 : Nat} : vOkm T0 (eP e_228 L_228 A_228 mu_228 (some q0)) 2 g_228_176_0 := vOk_inI fun ρ η f0 f1 f2 f3 f4 f5 f6 f7 f8 f9 f10 f11 => q_228_15 (q0 := q0) (n0 := ρ 3) (n1 := ρ 2) (n2 := ρ 1) (n3 := ρ 0) (n4 := ρ 4) (n5 := ρ 5) (H0 := η 0) (H1 := η 1) (H2 := η 2) f11 f10 f9 f8 f7 f6 f5 f4 f3 f2 f1 f0
set_option maxHeartbeats 20000000 in
theorem q_228_16 {q0 : Nat} {n0 n1 n2 n3 n4 n5 n6 n7 : Int} {H0 H1 : gH} (f0 : n0 ≤ 1007) (f1 : 0 ≤ n0) (f2 : n1 = 285) (f3 : n2 ≤ 1007) (f4 : 0 ≤ n2) (f5 : n3 = 285) (f6 : (hLe T0 H0 H1 ∧ hFr s_228.2.2.2.2 H0 H1 ∧ hWt T0 H1) ∧ (Ab_228_176 n3 n2 n1 n0 H0 H1 ∧ preb_228 n3 n2 H0) ∧ some q0 = some (mub_228_176 n3 n2 n1 n0 H0 H1)) (f7 : n4 = 6) (f8 : n5 = w32 (n4 * n0)) (f9 : n6 = 3) (f10 : n7 = w32 (n5 + n6)) : 0 ≤ n7 ∧ n7 < 6048 := by
  have g4 := f6.2.1.1
  unfold Ab_228_176 at g4
  have g3 := f6.2.1.2
  unfold preb_228 at g3
  have e0 : hV H1 285 18 = hV H0 285 18 := f6.1.2.1.1 285 18 kF_228_285_18
  have e1 : hV H1 285 18 = hV H0 285 18 := e0
  have e2 : hV H1 285 32 = hV H0 285 32 := f6.1.2.1.1 285 32 kF_228_285_32
  have e3 : hV H1 285 32 = hV H0 285 32 := e2
  have e4 : hV H1 285 33 = hV H0 285 33 := f6.1.2.1.1 285 33 kF_228_285_33
  have e5 : hV H1 285 33 = hV H0 285 33 := e4
  have e6 : (0 : Int) ≤ hV H1 285 11 ∧ hV H1 285 11 ≤ 500 := f6.1.2.2 285 11 _ _ kW_285_11
  have e7 : (0 : Int) ≤ hV H1 285 13 ∧ hV H1 285 13 ≤ 2 := f6.1.2.2 285 13 _ _ kW_285_13
  have e8 : (0 : Int) ≤ hV H1 285 15 ∧ hV H1 285 15 ≤ 6 := f6.1.2.2 285 15 _ _ kW_285_15
  have e9 : (0 : Int) ≤ hV H1 285 18 ∧ hV H1 285 18 ≤ 8 := f6.1.2.2 285 18 _ _ kW_285_18
  have e10 : (0 : Int) ≤ hV H1 285 32 ∧ hV H1 285 32 ≤ 7 := f6.1.2.2 285 32 _ _ kW_285_32
  have e11 : (0 : Int) ≤ hV H1 285 33 ∧ hV H1 285 33 ≤ 62 := f6.1.2.2 285 33 _ _ kW_285_33
  try simp only [e1] at e9
  try simp only [e3] at e10
  try simp only [e5] at e11
  have k0 := g4.1
  have y0 := g4.2.1
  have y1 := g4.2.2.1
  have y2 := g4.2.2.2.1
  have y3 := g4.2.2.2.2.1
  have y4 := g4.2.2.2.2.2.1
  have y5 := g4.2.2.2.2.2.2.1
  have y6 := g4.2.2.2.2.2.2.2.1
  have y7 := g4.2.2.2.2.2.2.2.2.1
  have y8 := g4.2.2.2.2.2.2.2.2.2.1
  have y9 := g4.2.2.2.2.2.2.2.2.2.2.1
  have y10 := g4.2.2.2.2.2.2.2.2.2.2.2.1
  have y11 := g4.2.2.2.2.2.2.2.2.2.2.2.2.1
  have y12 := g4.2.2.2.2.2.2.2.2.2.2.2.2.2.1
  have y13 := g4.2.2.2.2.2.2.2.2.2.2.2.2.2.2
  have p0 := g3.1
  have p1 := g3.2.1
  have p2 := g3.2.2.1
  have p3 := g3.2.2.2.1
  have p4 := g3.2.2.2.2.1
  have p5 := g3.2.2.2.2.2.1
  have p6 := g3.2.2.2.2.2.2.1
  have p7 := g3.2.2.2.2.2.2.2
  clear g3
  clear g4
  have wb0 := (p7 (hV H0 285 32).toNat).1
  have wp0 := (p7 (hV H0 285 33).toNat).2
  try simp only [e1, e3, e5] at wb0
  try simp only [e1, e3, e5] at wp0
  clear e0 e1 e2 e3 e4 e5
  clear f6
  rw [f7] at f8
  unfold w32 at *
  try (have ix0 : n5 = 6 * n0 := (by omega); subst ix0)
  try (have ix1 : n7 = (6 * n0) + 3 := (by omega); subst ix1)

  (try clear y0 y1 p0 p5 p7)
  omega
def g_228_176_1 : vG := ([(1, [10, 8, 9], [], 0), (0, [9], [], 3), (3, [8, 7, 3], [], 0), (0, [7], [], 6), (5000, [0, 1, 2, 3], [0, 1], 176), (0, [0], [], 285), (90, [1], [], 0), (91, [1], [], 1007), (0, [2], [], 285), (90, [3], [], 0), (91, [3], [], 1007)], (70, [10], [], 6048))
theorem c_228_176_1 {q0 : Nat} : vOkm T0 (eP e_228 L_228 A_228 mu_228 (some q0)) 2 g_228_176_1 := vOk_inI fun ρ η f0 f1 f2 f3 f4 f5 f6 f7 f8 f9 f10 => q_228_16 (q0 := q0) (n0 := ρ 3) (n1 := ρ 2) (n2 := ρ 1) (n3 := ρ 0) (n4 := ρ 7) (n5 := ρ 8) (n6 := ρ 9) (n7 := ρ 10) (H0 := η 0) (H1 := η 1) f10 f9 f8 f7 f6 f5 f4 f3 f2 f1 f0
set_option maxHeartbeats 20000000 in
theorem q_228_17 {q0 : Nat} {n0 n1 n2 n3 n4 n5 n6 n7 n8 n9 n10 n11 : Int} {H0 H1 : gH} (f0 : n0 ≤ 1007) (f1 : 0 ≤ n0) (f2 : n1 = 285) (f3 : n2 ≤ 1007) (f4 : 0 ≤ n2) (f5 : n3 = 285) (f6 : (hLe T0 H0 H1 ∧ hFr s_228.2.2.2.2 H0 H1 ∧ hWt T0 H1) ∧ (Ab_228_176 n3 n2 n1 n0 H0 H1 ∧ preb_228 n3 n2 H0) ∧ some q0 = some (mub_228_176 n3 n2 n1 n0 H0 H1)) (f7 : n4 = 6) (f8 : n5 = w32 (n4 * n0)) (f9 : n6 = 3) (f10 : n7 = w32 (n5 + n6)) (f11 : n8 = 6) (f12 : n9 = w32 (n8 * n0)) (f13 : n10 = 4) (f14 : n11 = w32 (n9 + n10)) : 0 ≤ n11 ∧ n11 < 6048 := by
  have g4 := f6.2.1.1
  unfold Ab_228_176 at g4
  have g3 := f6.2.1.2
  unfold preb_228 at g3
  have e0 : hV H1 285 18 = hV H0 285 18 := f6.1.2.1.1 285 18 kF_228_285_18
  have e1 : hV H1 285 18 = hV H0 285 18 := e0
  have e2 : hV H1 285 32 = hV H0 285 32 := f6.1.2.1.1 285 32 kF_228_285_32
  have e3 : hV H1 285 32 = hV H0 285 32 := e2
  have e4 : hV H1 285 33 = hV H0 285 33 := f6.1.2.1.1 285 33 kF_228_285_33
  have e5 : hV H1 285 33 = hV H0 285 33 := e4
  have e6 : (0 : Int) ≤ hV H1 285 11 ∧ hV H1 285 11 ≤ 500 := f6.1.2.2 285 11 _ _ kW_285_11
  have e7 : (0 : Int) ≤ hV H1 285 13 ∧ hV H1 285 13 ≤ 2 := f6.1.2.2 285 13 _ _ kW_285_13
  have e8 : (0 : Int) ≤ hV H1 285 15 ∧ hV H1 285 15 ≤ 6 := f6.1.2.2 285 15 _ _ kW_285_15
  have e9 : (0 : Int) ≤ hV H1 285 18 ∧ hV H1 285 18 ≤ 8 := f6.1.2.2 285 18 _ _ kW_285_18
  have e10 : (0 : Int) ≤ hV H1 285 32 ∧ hV H1 285 32 ≤ 7 := f6.1.2.2 285 32 _ _ kW_285_32
  have e11 : (0 : Int) ≤ hV H1 285 33 ∧ hV H1 285 33 ≤ 62 := f6.1.2.2 285 33 _ _ kW_285_33
  try simp only [e1] at e9
  try simp only [e3] at e10
  try simp only [e5] at e11
  have k0 := g4.1
  have y0 := g4.2.1
  have y1 := g4.2.2.1
  have y2 := g4.2.2.2.1
  have y3 := g4.2.2.2.2.1
  have y4 := g4.2.2.2.2.2.1
  have y5 := g4.2.2.2.2.2.2.1
  have y6 := g4.2.2.2.2.2.2.2.1
  have y7 := g4.2.2.2.2.2.2.2.2.1
  have y8 := g4.2.2.2.2.2.2.2.2.2.1
  have y9 := g4.2.2.2.2.2.2.2.2.2.2.1
  have y10 := g4.2.2.2.2.2.2.2.2.2.2.2.1
  have y11 := g4.2.2.2.2.2.2.2.2.2.2.2.2.1
  have y12 := g4.2.2.2.2.2.2.2.2.2.2.2.2.2.1
  have y13 := g4.2.2.2.2.2.2.2.2.2.2.2.2.2.2
  have p0 := g3.1
  have p1 := g3.2.1
  have p2 := g3.2.2.1
  have p3 := g3.2.2.2.1
  have p4 := g3.2.2.2.2.1
  have p5 := g3.2.2.2.2.2.1
  have p6 := g3.2.2.2.2.2.2.1
  have p7 := g3.2.2.2.2.2.2.2
  clear g3
  clear g4
  have wb0 := (p7 (hV H0 285 32).toNat).1
  have wp0 := (p7 (hV H0 285 33).toNat).2
  try simp only [e1, e3, e5] at wb0
  try simp only [e1, e3, e5] at wp0
  clear e0 e1 e2 e3 e4 e5
  clear f6
  rw [f7] at f8
  rw [f11] at f12
  unfold w32 at *
  try (have ix0 : n9 = 6 * n0 := (by omega); subst ix0)
  try (have ix1 : n11 = (6 * n0) + 4 := (by omega); subst ix1)

  (try clear y0 y1 p0 p5 p7)
  omega
def g_228_176_2 : vG := ([(1, [19, 17, 18], [], 0), (0, [18], [], 4), (3, [17, 16, 3], [], 0), (0, [16], [], 6), (1, [10, 8, 9], [], 0), (0, [9], [], 3), (3, [8, 7, 3], [], 0), (0, [7], [], 6), (5000, [0, 1, 2, 3], [0, 1], 176), (0, [0], [], 285), (90, [1], [], 0), (91, [1], [], 1007), (0, [2], [], 285), (90, [3], [], 0), (91, [3], [], 1007)], (70, [19], [], 6048))
theorem c_228_176_2 {q0 : Nat} : vOkm T0 (eP e_228 L_228 A_228 mu_228 (some q0)) 2 g_228_176_2 := vOk_inI fun ρ η f0 f1 f2 f3 f4 f5 f6 f7 f8 f9 f10 f11 f12 f13 f14 => q_228_17 (q0 := q0) (n0 := ρ 3) (n1 := ρ 2) (n2 := ρ 1) (n3 := ρ 0) (n4 := ρ 7) (n5 := ρ 8) (n6 := ρ 9) (n7 := ρ 10) (n8 := ρ 16) (n9 := ρ 17) (n10 := ρ 18) (n11 := ρ 19) (H0 := η 0) (H1 := η 1) f14 f13 f12 f11 f10 f9 f8 f7 f6 f5 f4 f3 f2 f1 f0
set_option maxHeartbeats 20000000 in
theorem q_228_18 {q0 : Nat} {n0 n1 n2 n3 n4 n5 n6 n7 n8 n9 n10 n11 n12 n13 n14 n15 n16 n17 n18 n19 n20 n21 n22 : Int} {H0 H1 H2 H3 H4 H5 H6 H7 H8 : gH} (f0 : n0 ≤ 1007) (f1 : 0 ≤ n0) (f2 : n1 = 285) (f3 : n2 ≤ 1007) (f4 : 0 ≤ n2) (f5 : n3 = 285) (f6 : (hLe T0 H0 H1 ∧ hFr s_228.2.2.2.2 H0 H1 ∧ hWt T0 H1) ∧ (Ab_228_176 n3 n2 n1 n0 H0 H1 ∧ preb_228 n3 n2 H0) ∧ some q0 = some (mub_228_176 n3 n2 n1 n0 H0 H1)) (f7 : n4 = 29) (f8 : n5 ≤ 1) (f9 : 0 ≤ n5) (f10 : (hLe T0 H1 H2 ∧ hFr s_216.2.2.2.2 H1 H2 ∧ ((0 : Int) = 0 → H2.length = H1.length) ∧ hWt T0 H2) ∧ postb_216 n5 n1 n4 H1 H2) (f11 : n5 ≠ 0) (f12 : (hLe T0 H2 H3 ∧ hFr s_219.2.2.2.2 H2 H3 ∧ ((0 : Int) = 0 → H3.length = H2.length) ∧ hWt T0 H3) ∧ postb_219 n1 H2 H3) (f13 : n6 = 305) (f14 : n6 = hV H3 (n1).toNat 31) (f15 : n7 = 6) (f16 : n8 = w32 (n7 * n0)) (f17 : n9 = 3) (f18 : n10 = w32 (n8 + n9)) (f19 : n11 = 1) (f20 : n12 = 9) (f21 : n13 ≤ 9999) (f22 : 0 ≤ n13) (f23 : (hLe T0 H3 H4 ∧ hFr s_223.2.2.2.2 H3 H4 ∧ ((0 : Int) = 0 → H4.length = H3.length) ∧ hWt T0 H4) ∧ postb_223 n13 n1 n11 n12 H3 H4) (f24 : hUpd H5 H4 n6 n10 n13) (f25 : n14 = 15) (f26 : (hLe T0 H5 H6 ∧ hFr s_220.2.2.2.2 H5 H6 ∧ ((0 : Int) = 0 → H6.length = H5.length) ∧ hWt T0 H6) ∧ postb_220 n1 n14 H5 H6) (f27 : n15 = 305) (f28 : n15 = hV H6 (n1).toNat 31) (f29 : n16 = 6) (f30 : n17 = w32 (n16 * n0)) (f31 : n18 = 4) (f32 : n19 = w32 (n17 + n18)) (f33 : n20 = 1) (f34 : n21 = 9) (f35 : n22 ≤ 9999) (f36 : 0 ≤ n22) (f37 : (hLe T0 H6 H7 ∧ hFr s_223.2.2.2.2 H6 H7 ∧ ((0 : Int) = 0 → H7.length = H6.length) ∧ hWt T0 H7) ∧ postb_223 n22 n1 n20 n21 H6 H7) (f38 : hUpd H8 H7 n15 n19 n22) : Ab_228_231 n3 n2 n1 n0 H0 H8 ∧ ∀ q, some q0 = some q → mub_228_231 n3 n2 n1 n0 H0 H8 < q := by
  have g4 := f6.2.1.1
  unfold Ab_228_176 at g4
  have g3 := f6.2.1.2
  unfold preb_228 at g3
  have g5 := Option.some.inj f6.2.2
  unfold mub_228_176 at g5
  unfold postb_216 at f10
  unfold postb_219 at f12
  unfold postb_223 at f23
  unfold postb_220 at f26
  unfold postb_223 at f37
  unfold Ab_228_231
  unfold mub_228_231
  have e0 : hV H1 285 18 = hV H0 285 18 := f6.1.2.1.1 285 18 kF_228_285_18
  have e1 : hV H1 285 18 = hV H0 285 18 := e0
  have e2 : hV H1 285 32 = hV H0 285 32 := f6.1.2.1.1 285 32 kF_228_285_32
  have e3 : hV H1 285 32 = hV H0 285 32 := e2
  have e4 : hV H1 285 33 = hV H0 285 33 := f6.1.2.1.1 285 33 kF_228_285_33
  have e5 : hV H1 285 33 = hV H0 285 33 := e4
  have e6 : hV H1 285 64 = hV H0 285 64 := f6.1.2.1.1 285 64 kF_228_285_64
  have e7 : hV H1 285 64 = hV H0 285 64 := e6
  have e8 : hV H1 294 = hV H0 294 := fRow f6.1.2.1 294 kR_228_294
  have e9 : hV H1 296 = hV H0 296 := fRow f6.1.2.1 296 kR_228_296
  have e10 : hV H1 297 = hV H0 297 := fRow f6.1.2.1 297 kR_228_297
  have e11 : hV H1 298 = hV H0 298 := fRow f6.1.2.1 298 kR_228_298
  have e12 : hV H1 328 = hV H0 328 := fRow f6.1.2.1 328 kR_228_328
  have e13 : hV H1 332 = hV H0 332 := fRow f6.1.2.1 332 kR_228_332
  have e14 : hV H1 335 = hV H0 335 := fRow f6.1.2.1 335 kR_228_335
  have e15 : hV H2 285 11 = hV H1 285 11 := f10.1.2.1.1 285 11 kF_216_285_11
  have e16 : hV H2 285 11 = hV H1 285 11 := e15
  have e17 : hV H2 285 13 = hV H1 285 13 := f10.1.2.1.1 285 13 kF_216_285_13
  have e18 : hV H2 285 13 = hV H1 285 13 := e17
  have e19 : hV H2 288 = hV H1 288 := fRow f10.1.2.1 288 kR_216_288
  have e20 : hV H1 288 = hV H0 288 := fRow f6.1.2.1 288 kR_228_288
  have e21 : hV H2 288 = hV H0 288 := e19.trans e20
  have e22 : hV H3 285 15 = hV H2 285 15 := f12.1.2.1.1 285 15 kF_219_285_15
  have e23 : hV H2 285 15 = hV H1 285 15 := f10.1.2.1.1 285 15 kF_216_285_15
  have e24 : hV H3 285 15 = hV H1 285 15 := (e22).trans e23
  have e25 : hV H4 288 = hV H3 288 := fRow f23.1.2.1 288 kR_223_288
  have e26 : hV H3 288 = hV H2 288 := fRow f12.1.2.1 288 kR_219_288
  have e27 : hV H3 288 = hV H0 288 := e26.trans e21
  have e28 : hV H4 288 = hV H0 288 := e25.trans e27
  have e29 : hV H5 285 11 = hV H4 285 11 := uPlace f24 _ _ (iS (show n6 = ((305 : Nat) : Int) from f13) rfl)
  have e30 : hV H5 285 11 = hV H4 285 11 := e29
  have e31 : hV H5 285 13 = hV H4 285 13 := uPlace f24 _ _ (iS (show n6 = ((305 : Nat) : Int) from f13) rfl)
  have e32 : hV H5 285 13 = hV H4 285 13 := e31
  have e33 : hV H6 285 15 = hV H5 285 15 := f26.1.2.1.1 285 15 kF_220_285_15
  have e34 : hV H5 285 15 = hV H4 285 15 := uPlace f24 _ _ (iS (show n6 = ((305 : Nat) : Int) from f13) rfl)
  have e35 : hV H6 285 15 = hV H4 285 15 := (e33).trans e34
  have e36 : hV H6 288 = hV H5 288 := fRow f26.1.2.1 288 kR_220_288
  have e37 : hV H5 288 = hV H4 288 := uRowNe f24 _ (iS (show n6 = ((305 : Nat) : Int) from f13) rfl)
  have e38 : hV H5 288 = hV H0 288 := e37.trans e28
  have e39 : hV H6 288 = hV H0 288 := e36.trans e38
  have e40 : hV H7 288 = hV H6 288 := fRow f37.1.2.1 288 kR_223_288
  have e41 : hV H7 288 = hV H0 288 := e40.trans e39
  have e42 : hV H8 285 11 = hV H7 285 11 := uPlace f38 _ _ (iS (show n15 = ((305 : Nat) : Int) from f27) rfl)
  have e43 : hV H8 285 11 = hV H7 285 11 := e42
  have e44 : hV H8 285 13 = hV H7 285 13 := uPlace f38 _ _ (iS (show n15 = ((305 : Nat) : Int) from f27) rfl)
  have e45 : hV H8 285 13 = hV H7 285 13 := e44
  have e46 : hV H8 285 15 = hV H7 285 15 := uPlace f38 _ _ (iS (show n15 = ((305 : Nat) : Int) from f27) rfl)
  have e47 : hV H8 285 15 = hV H7 285 15 := e46
  have e48 : hV H8 285 18 = hV H7 285 18 := uPlace f38 _ _ (iS (show n15 = ((305 : Nat) : Int) from f27) rfl)
  have e49 : hV H7 285 18 = hV H6 285 18 := f37.1.2.1.1 285 18 kF_223_285_18
  have e50 : hV H6 285 18 = hV H5 285 18 := f26.1.2.1.1 285 18 kF_220_285_18
  have e51 : hV H5 285 18 = hV H4 285 18 := uPlace f24 _ _ (iS (show n6 = ((305 : Nat) : Int) from f13) rfl)
  have e52 : hV H4 285 18 = hV H3 285 18 := f23.1.2.1.1 285 18 kF_223_285_18
  have e53 : hV H3 285 18 = hV H2 285 18 := f12.1.2.1.1 285 18 kF_219_285_18
  have e54 : hV H2 285 18 = hV H1 285 18 := f10.1.2.1.1 285 18 kF_216_285_18
  have e55 : hV H8 285 18 = hV H0 285 18 := (e48).trans ((e49).trans ((e50).trans ((e51).trans ((e52).trans ((e53).trans ((e54).trans e0))))))
  have e56 : hV H8 285 32 = hV H7 285 32 := uPlace f38 _ _ (iS (show n15 = ((305 : Nat) : Int) from f27) rfl)
  have e57 : hV H7 285 32 = hV H6 285 32 := f37.1.2.1.1 285 32 kF_223_285_32
  have e58 : hV H6 285 32 = hV H5 285 32 := f26.1.2.1.1 285 32 kF_220_285_32
  have e59 : hV H5 285 32 = hV H4 285 32 := uPlace f24 _ _ (iS (show n6 = ((305 : Nat) : Int) from f13) rfl)
  have e60 : hV H4 285 32 = hV H3 285 32 := f23.1.2.1.1 285 32 kF_223_285_32
  have e61 : hV H3 285 32 = hV H2 285 32 := f12.1.2.1.1 285 32 kF_219_285_32
  have e62 : hV H2 285 32 = hV H1 285 32 := f10.1.2.1.1 285 32 kF_216_285_32
  have e63 : hV H8 285 32 = hV H0 285 32 := (e56).trans ((e57).trans ((e58).trans ((e59).trans ((e60).trans ((e61).trans ((e62).trans e2))))))
  have e64 : hV H8 285 33 = hV H7 285 33 := uPlace f38 _ _ (iS (show n15 = ((305 : Nat) : Int) from f27) rfl)
  have e65 : hV H7 285 33 = hV H6 285 33 := f37.1.2.1.1 285 33 kF_223_285_33
  have e66 : hV H6 285 33 = hV H5 285 33 := f26.1.2.1.1 285 33 kF_220_285_33
  have e67 : hV H5 285 33 = hV H4 285 33 := uPlace f24 _ _ (iS (show n6 = ((305 : Nat) : Int) from f13) rfl)
  have e68 : hV H4 285 33 = hV H3 285 33 := f23.1.2.1.1 285 33 kF_223_285_33
  have e69 : hV H3 285 33 = hV H2 285 33 := f12.1.2.1.1 285 33 kF_219_285_33
  have e70 : hV H2 285 33 = hV H1 285 33 := f10.1.2.1.1 285 33 kF_216_285_33
  have e71 : hV H8 285 33 = hV H0 285 33 := (e64).trans ((e65).trans ((e66).trans ((e67).trans ((e68).trans ((e69).trans ((e70).trans e4))))))
  have e72 : hV H8 285 64 = hV H7 285 64 := uPlace f38 _ _ (iS (show n15 = ((305 : Nat) : Int) from f27) rfl)
  have e73 : hV H7 285 64 = hV H6 285 64 := f37.1.2.1.1 285 64 kF_223_285_64
  have e74 : hV H6 285 64 = hV H5 285 64 := f26.1.2.1.1 285 64 kF_220_285_64
  have e75 : hV H5 285 64 = hV H4 285 64 := uPlace f24 _ _ (iS (show n6 = ((305 : Nat) : Int) from f13) rfl)
  have e76 : hV H4 285 64 = hV H3 285 64 := f23.1.2.1.1 285 64 kF_223_285_64
  have e77 : hV H3 285 64 = hV H2 285 64 := f12.1.2.1.1 285 64 kF_219_285_64
  have e78 : hV H2 285 64 = hV H1 285 64 := f10.1.2.1.1 285 64 kF_216_285_64
  have e79 : hV H8 285 64 = hV H0 285 64 := (e72).trans ((e73).trans ((e74).trans ((e75).trans ((e76).trans ((e77).trans ((e78).trans e6))))))
  have e80 : hV H8 294 = hV H7 294 := uRowNe f38 _ (iS (show n15 = ((305 : Nat) : Int) from f27) rfl)
  have e81 : hV H7 294 = hV H6 294 := fRow f37.1.2.1 294 kR_223_294
  have e82 : hV H6 294 = hV H5 294 := fRow f26.1.2.1 294 kR_220_294
  have e83 : hV H5 294 = hV H4 294 := uRowNe f24 _ (iS (show n6 = ((305 : Nat) : Int) from f13) rfl)
  have e84 : hV H4 294 = hV H3 294 := fRow f23.1.2.1 294 kR_223_294
  have e85 : hV H3 294 = hV H2 294 := fRow f12.1.2.1 294 kR_219_294
  have e86 : hV H2 294 = hV H1 294 := fRow f10.1.2.1 294 kR_216_294
  have e87 : hV H2 294 = hV H0 294 := e86.trans e8
  have e88 : hV H3 294 = hV H0 294 := e85.trans e87
  have e89 : hV H4 294 = hV H0 294 := e84.trans e88
  have e90 : hV H5 294 = hV H0 294 := e83.trans e89
  have e91 : hV H6 294 = hV H0 294 := e82.trans e90
  have e92 : hV H7 294 = hV H0 294 := e81.trans e91
  have e93 : hV H8 294 = hV H0 294 := e80.trans e92
  have e94 : hV H8 296 = hV H7 296 := uRowNe f38 _ (iS (show n15 = ((305 : Nat) : Int) from f27) rfl)
  have e95 : hV H7 296 = hV H6 296 := fRow f37.1.2.1 296 kR_223_296
  have e96 : hV H6 296 = hV H5 296 := fRow f26.1.2.1 296 kR_220_296
  have e97 : hV H5 296 = hV H4 296 := uRowNe f24 _ (iS (show n6 = ((305 : Nat) : Int) from f13) rfl)
  have e98 : hV H4 296 = hV H3 296 := fRow f23.1.2.1 296 kR_223_296
  have e99 : hV H3 296 = hV H2 296 := fRow f12.1.2.1 296 kR_219_296
  have e100 : hV H2 296 = hV H1 296 := fRow f10.1.2.1 296 kR_216_296
  have e101 : hV H2 296 = hV H0 296 := e100.trans e9
  have e102 : hV H3 296 = hV H0 296 := e99.trans e101
  have e103 : hV H4 296 = hV H0 296 := e98.trans e102
  have e104 : hV H5 296 = hV H0 296 := e97.trans e103
  have e105 : hV H6 296 = hV H0 296 := e96.trans e104
  have e106 : hV H7 296 = hV H0 296 := e95.trans e105
  have e107 : hV H8 296 = hV H0 296 := e94.trans e106
  have e108 : hV H8 297 = hV H7 297 := uRowNe f38 _ (iS (show n15 = ((305 : Nat) : Int) from f27) rfl)
  have e109 : hV H7 297 = hV H6 297 := fRow f37.1.2.1 297 kR_223_297
  have e110 : hV H6 297 = hV H5 297 := fRow f26.1.2.1 297 kR_220_297
  have e111 : hV H5 297 = hV H4 297 := uRowNe f24 _ (iS (show n6 = ((305 : Nat) : Int) from f13) rfl)
  have e112 : hV H4 297 = hV H3 297 := fRow f23.1.2.1 297 kR_223_297
  have e113 : hV H3 297 = hV H2 297 := fRow f12.1.2.1 297 kR_219_297
  have e114 : hV H2 297 = hV H1 297 := fRow f10.1.2.1 297 kR_216_297
  have e115 : hV H2 297 = hV H0 297 := e114.trans e10
  have e116 : hV H3 297 = hV H0 297 := e113.trans e115
  have e117 : hV H4 297 = hV H0 297 := e112.trans e116
  have e118 : hV H5 297 = hV H0 297 := e111.trans e117
  have e119 : hV H6 297 = hV H0 297 := e110.trans e118
  have e120 : hV H7 297 = hV H0 297 := e109.trans e119
  have e121 : hV H8 297 = hV H0 297 := e108.trans e120
  have e122 : hV H8 298 = hV H7 298 := uRowNe f38 _ (iS (show n15 = ((305 : Nat) : Int) from f27) rfl)
  have e123 : hV H7 298 = hV H6 298 := fRow f37.1.2.1 298 kR_223_298
  have e124 : hV H6 298 = hV H5 298 := fRow f26.1.2.1 298 kR_220_298
  have e125 : hV H5 298 = hV H4 298 := uRowNe f24 _ (iS (show n6 = ((305 : Nat) : Int) from f13) rfl)
  have e126 : hV H4 298 = hV H3 298 := fRow f23.1.2.1 298 kR_223_298
  have e127 : hV H3 298 = hV H2 298 := fRow f12.1.2.1 298 kR_219_298
  have e128 : hV H2 298 = hV H1 298 := fRow f10.1.2.1 298 kR_216_298
  have e129 : hV H2 298 = hV H0 298 := e128.trans e11
  have e130 : hV H3 298 = hV H0 298 := e127.trans e129
  have e131 : hV H4 298 = hV H0 298 := e126.trans e130
  have e132 : hV H5 298 = hV H0 298 := e125.trans e131
  have e133 : hV H6 298 = hV H0 298 := e124.trans e132
  have e134 : hV H7 298 = hV H0 298 := e123.trans e133
  have e135 : hV H8 298 = hV H0 298 := e122.trans e134
  have e136 : hV H8 300 = hV H7 300 := uRowNe f38 _ (iS (show n15 = ((305 : Nat) : Int) from f27) rfl)
  have e137 : hV H7 300 = hV H6 300 := fRow f37.1.2.1 300 kR_223_300
  have e138 : hV H6 300 = hV H5 300 := fRow f26.1.2.1 300 kR_220_300
  have e139 : hV H5 300 = hV H4 300 := uRowNe f24 _ (iS (show n6 = ((305 : Nat) : Int) from f13) rfl)
  have e140 : hV H4 300 = hV H3 300 := fRow f23.1.2.1 300 kR_223_300
  have e141 : hV H3 300 = hV H2 300 := fRow f12.1.2.1 300 kR_219_300
  have e142 : hV H2 300 = hV H1 300 := fRow f10.1.2.1 300 kR_216_300
  have e143 : hV H3 300 = hV H1 300 := e141.trans e142
  have e144 : hV H4 300 = hV H1 300 := e140.trans e143
  have e145 : hV H5 300 = hV H1 300 := e139.trans e144
  have e146 : hV H6 300 = hV H1 300 := e138.trans e145
  have e147 : hV H7 300 = hV H1 300 := e137.trans e146
  have e148 : hV H8 300 = hV H1 300 := e136.trans e147
  have e149 : hV H8 301 = hV H7 301 := uRowNe f38 _ (iS (show n15 = ((305 : Nat) : Int) from f27) rfl)
  have e150 : hV H7 301 = hV H6 301 := fRow f37.1.2.1 301 kR_223_301
  have e151 : hV H6 301 = hV H5 301 := fRow f26.1.2.1 301 kR_220_301
  have e152 : hV H5 301 = hV H4 301 := uRowNe f24 _ (iS (show n6 = ((305 : Nat) : Int) from f13) rfl)
  have e153 : hV H4 301 = hV H3 301 := fRow f23.1.2.1 301 kR_223_301
  have e154 : hV H3 301 = hV H2 301 := fRow f12.1.2.1 301 kR_219_301
  have e155 : hV H2 301 = hV H1 301 := fRow f10.1.2.1 301 kR_216_301
  have e156 : hV H3 301 = hV H1 301 := e154.trans e155
  have e157 : hV H4 301 = hV H1 301 := e153.trans e156
  have e158 : hV H5 301 = hV H1 301 := e152.trans e157
  have e159 : hV H6 301 = hV H1 301 := e151.trans e158
  have e160 : hV H7 301 = hV H1 301 := e150.trans e159
  have e161 : hV H8 301 = hV H1 301 := e149.trans e160
  have e162 : hV H8 302 = hV H7 302 := uRowNe f38 _ (iS (show n15 = ((305 : Nat) : Int) from f27) rfl)
  have e163 : hV H7 302 = hV H6 302 := fRow f37.1.2.1 302 kR_223_302
  have e164 : hV H6 302 = hV H5 302 := fRow f26.1.2.1 302 kR_220_302
  have e165 : hV H5 302 = hV H4 302 := uRowNe f24 _ (iS (show n6 = ((305 : Nat) : Int) from f13) rfl)
  have e166 : hV H4 302 = hV H3 302 := fRow f23.1.2.1 302 kR_223_302
  have e167 : hV H3 302 = hV H2 302 := fRow f12.1.2.1 302 kR_219_302
  have e168 : hV H2 302 = hV H1 302 := fRow f10.1.2.1 302 kR_216_302
  have e169 : hV H3 302 = hV H1 302 := e167.trans e168
  have e170 : hV H4 302 = hV H1 302 := e166.trans e169
  have e171 : hV H5 302 = hV H1 302 := e165.trans e170
  have e172 : hV H6 302 = hV H1 302 := e164.trans e171
  have e173 : hV H7 302 = hV H1 302 := e163.trans e172
  have e174 : hV H8 302 = hV H1 302 := e162.trans e173
  have e175 : hV H8 303 = hV H7 303 := uRowNe f38 _ (iS (show n15 = ((305 : Nat) : Int) from f27) rfl)
  have e176 : hV H7 303 = hV H6 303 := fRow f37.1.2.1 303 kR_223_303
  have e177 : hV H6 303 = hV H5 303 := fRow f26.1.2.1 303 kR_220_303
  have e178 : hV H5 303 = hV H4 303 := uRowNe f24 _ (iS (show n6 = ((305 : Nat) : Int) from f13) rfl)
  have e179 : hV H4 303 = hV H3 303 := fRow f23.1.2.1 303 kR_223_303
  have e180 : hV H3 303 = hV H2 303 := fRow f12.1.2.1 303 kR_219_303
  have e181 : hV H2 303 = hV H1 303 := fRow f10.1.2.1 303 kR_216_303
  have e182 : hV H3 303 = hV H1 303 := e180.trans e181
  have e183 : hV H4 303 = hV H1 303 := e179.trans e182
  have e184 : hV H5 303 = hV H1 303 := e178.trans e183
  have e185 : hV H6 303 = hV H1 303 := e177.trans e184
  have e186 : hV H7 303 = hV H1 303 := e176.trans e185
  have e187 : hV H8 303 = hV H1 303 := e175.trans e186
  have e188 : hV H8 305 = uF (hV H7 305) n19 n22 := uRow f38 _ f27.symm
  have e189 : hV H7 305 = hV H6 305 := fRow f37.1.2.1 305 kR_223_305
  have e190 : hV H6 305 = hV H5 305 := fRow f26.1.2.1 305 kR_220_305
  have e191 : hV H5 305 = uF (hV H4 305) n10 n13 := uRow f24 _ f13.symm
  have e192 : hV H4 305 = hV H3 305 := fRow f23.1.2.1 305 kR_223_305
  have e193 : hV H3 305 = hV H2 305 := fRow f12.1.2.1 305 kR_219_305
  have e194 : hV H2 305 = hV H1 305 := fRow f10.1.2.1 305 kR_216_305
  have e195 : hV H3 305 = hV H1 305 := e193.trans e194
  have e196 : hV H4 305 = hV H1 305 := e192.trans e195
  have e197 : hV H5 305 = (uF (hV H1 305) n10 n13) := e191.trans (congrArg (fun z => uF z n10 n13) e196)
  have e198 : hV H6 305 = (uF (hV H1 305) n10 n13) := e190.trans e197
  have e199 : hV H7 305 = (uF (hV H1 305) n10 n13) := e189.trans e198
  have e200 : hV H8 305 = (uF (uF (hV H1 305) n10 n13) n19 n22) := e188.trans (congrArg (fun z => uF z n19 n22) e199)
  have e201 : hV H8 328 = hV H7 328 := uRowNe f38 _ (iS (show n15 = ((305 : Nat) : Int) from f27) rfl)
  have e202 : hV H7 328 = hV H6 328 := fRow f37.1.2.1 328 kR_223_328
  have e203 : hV H6 328 = hV H5 328 := fRow f26.1.2.1 328 kR_220_328
  have e204 : hV H5 328 = hV H4 328 := uRowNe f24 _ (iS (show n6 = ((305 : Nat) : Int) from f13) rfl)
  have e205 : hV H4 328 = hV H3 328 := fRow f23.1.2.1 328 kR_223_328
  have e206 : hV H3 328 = hV H2 328 := fRow f12.1.2.1 328 kR_219_328
  have e207 : hV H2 328 = hV H1 328 := fRow f10.1.2.1 328 kR_216_328
  have e208 : hV H2 328 = hV H0 328 := e207.trans e12
  have e209 : hV H3 328 = hV H0 328 := e206.trans e208
  have e210 : hV H4 328 = hV H0 328 := e205.trans e209
  have e211 : hV H5 328 = hV H0 328 := e204.trans e210
  have e212 : hV H6 328 = hV H0 328 := e203.trans e211
  have e213 : hV H7 328 = hV H0 328 := e202.trans e212
  have e214 : hV H8 328 = hV H0 328 := e201.trans e213
  have e215 : hV H8 332 = hV H7 332 := uRowNe f38 _ (iS (show n15 = ((305 : Nat) : Int) from f27) rfl)
  have e216 : hV H7 332 = hV H6 332 := fRow f37.1.2.1 332 kR_223_332
  have e217 : hV H6 332 = hV H5 332 := fRow f26.1.2.1 332 kR_220_332
  have e218 : hV H5 332 = hV H4 332 := uRowNe f24 _ (iS (show n6 = ((305 : Nat) : Int) from f13) rfl)
  have e219 : hV H4 332 = hV H3 332 := fRow f23.1.2.1 332 kR_223_332
  have e220 : hV H3 332 = hV H2 332 := fRow f12.1.2.1 332 kR_219_332
  have e221 : hV H2 332 = hV H1 332 := fRow f10.1.2.1 332 kR_216_332
  have e222 : hV H2 332 = hV H0 332 := e221.trans e13
  have e223 : hV H3 332 = hV H0 332 := e220.trans e222
  have e224 : hV H4 332 = hV H0 332 := e219.trans e223
  have e225 : hV H5 332 = hV H0 332 := e218.trans e224
  have e226 : hV H6 332 = hV H0 332 := e217.trans e225
  have e227 : hV H7 332 = hV H0 332 := e216.trans e226
  have e228 : hV H8 332 = hV H0 332 := e215.trans e227
  have e229 : hV H8 335 = hV H7 335 := uRowNe f38 _ (iS (show n15 = ((305 : Nat) : Int) from f27) rfl)
  have e230 : hV H7 335 = hV H6 335 := fRow f37.1.2.1 335 kR_223_335
  have e231 : hV H6 335 = hV H5 335 := fRow f26.1.2.1 335 kR_220_335
  have e232 : hV H5 335 = hV H4 335 := uRowNe f24 _ (iS (show n6 = ((305 : Nat) : Int) from f13) rfl)
  have e233 : hV H4 335 = hV H3 335 := fRow f23.1.2.1 335 kR_223_335
  have e234 : hV H3 335 = hV H2 335 := fRow f12.1.2.1 335 kR_219_335
  have e235 : hV H2 335 = hV H1 335 := fRow f10.1.2.1 335 kR_216_335
  have e236 : hV H2 335 = hV H0 335 := e235.trans e14
  have e237 : hV H3 335 = hV H0 335 := e234.trans e236
  have e238 : hV H4 335 = hV H0 335 := e233.trans e237
  have e239 : hV H5 335 = hV H0 335 := e232.trans e238
  have e240 : hV H6 335 = hV H0 335 := e231.trans e239
  have e241 : hV H7 335 = hV H0 335 := e230.trans e240
  have e242 : hV H8 335 = hV H0 335 := e229.trans e241
  have e243 : (0 : Int) ≤ hV H1 285 11 ∧ hV H1 285 11 ≤ 500 := f6.1.2.2 285 11 _ _ kW_285_11
  have e244 : (0 : Int) ≤ hV H1 285 13 ∧ hV H1 285 13 ≤ 2 := f6.1.2.2 285 13 _ _ kW_285_13
  have e245 : (0 : Int) ≤ hV H1 285 15 ∧ hV H1 285 15 ≤ 6 := f6.1.2.2 285 15 _ _ kW_285_15
  have e246 : (0 : Int) ≤ hV H1 285 18 ∧ hV H1 285 18 ≤ 8 := f6.1.2.2 285 18 _ _ kW_285_18
  have e247 : (0 : Int) ≤ hV H1 285 32 ∧ hV H1 285 32 ≤ 7 := f6.1.2.2 285 32 _ _ kW_285_32
  have e248 : (0 : Int) ≤ hV H1 285 33 ∧ hV H1 285 33 ≤ 62 := f6.1.2.2 285 33 _ _ kW_285_33
  have e249 : (0 : Int) ≤ hV H1 285 64 ∧ hV H1 285 64 ≤ 20 := f6.1.2.2 285 64 _ _ kW_285_64
  have e250 : (0 : Int) ≤ hV H2 285 11 ∧ hV H2 285 11 ≤ 500 := f10.1.2.2.2 285 11 _ _ kW_285_11
  have e251 : (0 : Int) ≤ hV H2 285 13 ∧ hV H2 285 13 ≤ 2 := f10.1.2.2.2 285 13 _ _ kW_285_13
  have e252 : (0 : Int) ≤ hV H3 285 11 ∧ hV H3 285 11 ≤ 500 := f12.1.2.2.2 285 11 _ _ kW_285_11
  have e253 : (0 : Int) ≤ hV H3 285 13 ∧ hV H3 285 13 ≤ 2 := f12.1.2.2.2 285 13 _ _ kW_285_13
  have e254 : (0 : Int) ≤ hV H3 285 15 ∧ hV H3 285 15 ≤ 6 := f12.1.2.2.2 285 15 _ _ kW_285_15
  have e255 : (0 : Int) ≤ hV H4 285 11 ∧ hV H4 285 11 ≤ 500 := f23.1.2.2.2 285 11 _ _ kW_285_11
  have e256 : (0 : Int) ≤ hV H4 285 13 ∧ hV H4 285 13 ≤ 2 := f23.1.2.2.2 285 13 _ _ kW_285_13
  have e257 : (0 : Int) ≤ hV H4 285 15 ∧ hV H4 285 15 ≤ 6 := f23.1.2.2.2 285 15 _ _ kW_285_15
  have e258 : (0 : Int) ≤ hV H6 285 11 ∧ hV H6 285 11 ≤ 500 := f26.1.2.2.2 285 11 _ _ kW_285_11
  have e259 : (0 : Int) ≤ hV H6 285 13 ∧ hV H6 285 13 ≤ 2 := f26.1.2.2.2 285 13 _ _ kW_285_13
  have e260 : (0 : Int) ≤ hV H6 285 15 ∧ hV H6 285 15 ≤ 6 := f26.1.2.2.2 285 15 _ _ kW_285_15
  have e261 : (0 : Int) ≤ hV H7 285 11 ∧ hV H7 285 11 ≤ 500 := f37.1.2.2.2 285 11 _ _ kW_285_11
  have e262 : (0 : Int) ≤ hV H7 285 13 ∧ hV H7 285 13 ≤ 2 := f37.1.2.2.2 285 13 _ _ kW_285_13
  have e263 : (0 : Int) ≤ hV H7 285 15 ∧ hV H7 285 15 ≤ 6 := f37.1.2.2.2 285 15 _ _ kW_285_15
  try simp only [PA, PW]
  try simp only [e1] at e246
  try simp only [e3] at e247
  try simp only [e5] at e248
  try simp only [e7] at e249
  try simp only [e16] at e250
  try simp only [e18] at e251
  try simp only [e24] at e254
  try simp only [e35] at e260
  try simp only [e1, e3, e5, e7, e8, e9, e10, e11, e12, e13, e14, e16, e18, e21, e24, e28, e30, e32, e35, e39, e41, e43, e45, e47, e55, e63, e71, e79, e93, e107, e121, e135, e148, e161, e174, e187, e200, e214, e228, e242] at g5
  try simp only [e1, e3, e5, e7, e8, e9, e10, e11, e12, e13, e14, e16, e18, e21, e24, e28, e30, e32, e35, e39, e41, e43, e45, e47, e55, e63, e71, e79, e93, e107, e121, e135, e148, e161, e174, e187, e200, e214, e228, e242]
  have k0 := g4.1
  have y0 := g4.2.1
  have y1 := g4.2.2.1
  have y2 := g4.2.2.2.1
  have y3 := g4.2.2.2.2.1
  have y4 := g4.2.2.2.2.2.1
  have y5 := g4.2.2.2.2.2.2.1
  have y6 := g4.2.2.2.2.2.2.2.1
  have y7 := g4.2.2.2.2.2.2.2.2.1
  have y8 := g4.2.2.2.2.2.2.2.2.2.1
  have y9 := g4.2.2.2.2.2.2.2.2.2.2.1
  have y10 := g4.2.2.2.2.2.2.2.2.2.2.2.1
  have y11 := g4.2.2.2.2.2.2.2.2.2.2.2.2.1
  have y12 := g4.2.2.2.2.2.2.2.2.2.2.2.2.2.1
  have y13 := g4.2.2.2.2.2.2.2.2.2.2.2.2.2.2
  have p0 := g3.1
  have p1 := g3.2.1
  have p2 := g3.2.2.1
  have p3 := g3.2.2.2.1
  have p4 := g3.2.2.2.2.1
  have p5 := g3.2.2.2.2.2.1
  have p6 := g3.2.2.2.2.2.2.1
  have p7 := g3.2.2.2.2.2.2.2
  have r0_0 := f10.2.1
  have r0_1 := f10.2.2.resolve_right (fun z => f11 z.1)
  have r1_0 := f12.2.1
  have r1_1 := f12.2.2.1
  have r1_2 := f12.2.2.2.1
  have r1_3 := f12.2.2.2.2
  have r2_0 := f23.2.1
  have r2_1 := f23.2.2.1
  have r2_2 := f23.2.2.2.1
  have r2_3 := f23.2.2.2.2.1
  have r2_4 := f23.2.2.2.2.2.1
  have r2_5 := f23.2.2.2.2.2.2.1
  have r2_6 := f23.2.2.2.2.2.2.2.1
  have r3_0 := f26.2.1
  have r3_1 := f26.2.2.1
  have r3_2 := f26.2.2.2.1
  have r3_3 := f26.2.2.2.2.1
  have r4_0 := f37.2.1
  have r4_1 := f37.2.2.1
  have r4_2 := f37.2.2.2.1
  have r4_3 := f37.2.2.2.2.1
  have r4_4 := f37.2.2.2.2.2.1
  have r4_5 := f37.2.2.2.2.2.2.1
  have r4_6 := f37.2.2.2.2.2.2.2.1
  try simp only [PA] at y0
  try simp only [PW] at y1
  try simp only [PA] at p0
  try simp only [PW] at p5
  try simp only [e1, e7, e8, e9, e11, e12, e13, e14] at y0
  try simp only [e3, e5, e8, e9, e10, e11] at y1
  try simp only [e18] at r0_0
  try simp only [e1, e3, e5, e7, e8, e9, e10, e11, e12, e13, e14, e16, e18, e21] at r0_1
  try simp only [e16] at r1_0
  try simp only [e16] at r1_1
  try simp only [e18] at r1_2
  try simp only [e16] at r1_3
  try simp only [e24] at r2_4
  try simp only [e30] at r3_0
  try simp only [e30] at r3_1
  try simp only [e32] at r3_2
  try simp only [e30] at r3_3
  try simp only [e35] at r4_4
  clear g3
  clear g4
  have wb0 := (p7 (hV H0 285 32).toNat).1
  have wp0 := (p7 (hV H0 285 33).toNat).2
  try simp only [e1, e3, e5, e7, e8, e9, e10, e11, e12, e13, e14] at wb0
  try simp only [e1, e3, e5, e7, e8, e9, e10, e11, e12, e13, e14] at wp0
  clear f14 f28 e0 e1 e2 e3 e4 e5 e6 e7 e8 e9 e10 e11 e12 e13 e14 e15 e16 e17 e18 e19 e20 e21 e22 e23 e24 e25 e26 e27 e28 e29 e30 e31 e32 e33 e34 e35 e36 e37 e38 e39 e40 e41 e42 e43 e44 e45 e46 e47 e48 e49 e50 e51 e52 e53 e54 e55 e56 e57 e58 e59 e60 e61 e62 e63 e64 e65 e66 e67 e68 e69 e70 e71 e72 e73 e74 e75 e76 e77 e78 e79 e80 e81 e82 e83 e84 e85 e86 e87 e88 e89 e90 e91 e92 e93 e94 e95 e96 e97 e98 e99 e100 e101 e102 e103 e104 e105 e106 e107 e108 e109 e110 e111 e112 e113 e114 e115 e116 e117 e118 e119 e120 e121 e122 e123 e124 e125 e126 e127 e128 e129 e130 e131 e132 e133 e134 e135 e136 e137 e138 e139 e140 e141 e142 e143 e144 e145 e146 e147 e148 e149 e150 e151 e152 e153 e154 e155 e156 e157 e158 e159 e160 e161 e162 e163 e164 e165 e166 e167 e168 e169 e170 e171 e172 e173 e174 e175 e176 e177 e178 e179 e180 e181 e182 e183 e184 e185 e186 e187 e189 e190 e192 e193 e194 e195 e196 e197 e198 e199 e200 e201 e202 e203 e204 e205 e206 e207 e208 e209 e210 e211 e212 e213 e214 e215 e216 e217 e218 e219 e220 e221 e222 e223 e224 e225 e226 e227 e228 e229 e230 e231 e232 e233 e234 e235 e236 e237 e238 e239 e240 e241 e242
  clear f6 f10 f12 f23 f26 f37
  rw [f15] at f16
  rw [f29] at f30
  unfold w32 at *
  try (have ix0 : n8 = 6 * n0 := (by omega); subst ix0)
  try (have ix1 : n10 = (6 * n0) + 3 := (by omega); subst ix1)
  try (have ix2 : n17 = 6 * n0 := (by omega); subst ix2)
  try (have ix3 : n19 = (6 * n0) + 4 := (by omega); subst ix3)

  refine ⟨⟨?_, ?_, ?_, ?_, ?_, ?_, ?_, ?_, ?_, ?_, ?_, ?_, ?_, ?_, ?_⟩, fun q hq => ?_⟩
  · first | exact True.intro | rfl | omega
  · refine PA_cn ?_ (by omega)
    refine PA_cn ?_ (by omega)
    exact y0
  · intro z1 z2
    refine PW_cn ?_ (by omega) (by omega) (by omega) (by omega)
    refine PW_cn ?_ (by omega) (by omega) (by omega) (by omega)
    exact y1 (by omega) (by omega)
  · (try clear y0 y1 p0 p5 p7)
    first | exact True.intro | omega
  · (try clear y0 y1 p0 p5 p7)
    first | exact True.intro | omega
  · (try clear y0 y1 p0 p5 p7)
    first | exact True.intro | omega
  · (try clear y0 y1 p0 p5 p7)
    first | exact True.intro | omega
  · (try clear y0 y1 p0 p5 p7)
    first | exact True.intro | omega
  · (try clear y0 y1 p0 p5 p7)
    first | exact True.intro | omega
  · (try clear y0 y1 p0 p5 p7)
    first | exact True.intro | omega
  · (try clear y0 y1 p0 p5 p7)
    first | exact True.intro | omega
  · (try clear y0 y1 p0 p5 p7)
    first | exact True.intro | omega
  · (try clear y0 y1 p0 p5 p7)
    first | exact True.intro | omega
  · (try clear y0 y1 p0 p5 p7)
    first | (simp only [uF_at]; omega) | omega
  · (try clear y0 y1 p0 p5 p7)
    first | (simp only [uF_at]; omega) | omega
  · (try clear y0 y1 p0 p5 p7)
    have g6 := Option.some.inj hq
    subst g6
    omega
def g_228_176_3 : vG := ([(80, [15, 19, 22], [8, 7], 0), (1223, [22, 2, 20, 21], [6, 7], 0), (90, [22], [], 0), (91, [22], [], 9999), (0, [21], [], 9), (0, [20], [], 1), (1, [19, 17, 18], [], 0), (0, [18], [], 4), (3, [17, 16, 3], [], 0), (0, [16], [], 6), (20, [15, 2], [6], 31), (0, [15], [], 305), (1220, [2, 14], [5, 6], 0), (0, [14], [], 15), (80, [6, 10, 13], [5, 4], 0), (1223, [13, 2, 11, 12], [3, 4], 0), (90, [13], [], 0), (91, [13], [], 9999), (0, [12], [], 9), (0, [11], [], 1), (1, [10, 8, 9], [], 0), (0, [9], [], 3), (3, [8, 7, 3], [], 0), (0, [7], [], 6), (20, [6, 2], [3], 31), (0, [6], [], 305), (1219, [2], [2, 3], 0), (31, [5], [], 0), (1216, [5, 2, 4], [1, 2], 0), (90, [5], [], 0), (91, [5], [], 1), (0, [4], [], 29), (5000, [0, 1, 2, 3], [0, 1], 176), (0, [0], [], 285), (90, [1], [], 0), (91, [1], [], 1007), (0, [2], [], 285), (90, [3], [], 0), (91, [3], [], 1007)], (4000, [2, 3], [8], 231))
theorem c_228_176_3 {q0 : Nat} : vOkm T0 (eP e_228 L_228 A_228 mu_228 (some q0)) 2 g_228_176_3 := vOk_inI fun ρ η f0 f1 f2 f3 f4 f5 f6 f7 f8 f9 f10 f11 f12 f13 f14 f15 f16 f17 f18 f19 f20 f21 f22 f23 f24 f25 f26 f27 f28 f29 f30 f31 f32 f33 f34 f35 f36 f37 f38 => q_228_18 (q0 := q0) (n0 := ρ 3) (n1 := ρ 2) (n2 := ρ 1) (n3 := ρ 0) (n4 := ρ 4) (n5 := ρ 5) (n6 := ρ 6) (n7 := ρ 7) (n8 := ρ 8) (n9 := ρ 9) (n10 := ρ 10) (n11 := ρ 11) (n12 := ρ 12) (n13 := ρ 13) (n14 := ρ 14) (n15 := ρ 15) (n16 := ρ 16) (n17 := ρ 17) (n18 := ρ 18) (n19 := ρ 19) (n20 := ρ 20) (n21 := ρ 21) (n22 := ρ 22) (H0 := η 0) (H1 := η 1) (H2 := η 2) (H3 := η 3) (H4 := η 4) (H5 := η 5) (H6 := η 6) (H7 := η 7) (H8 := η 8) f38 f37 f36 f35 f34 f33 f32 f31 f30 f29 f28 f27 f26 f25 f24 f23 f22 f21 f20 f19 f18 f17 f16 f15 f14 f13 f12 f11 f10 f9 f8 f7 f6 f5 f4 f3 f2 f1 f0
def p_228_176 : List vG := [g_228_176_0,
  g_228_176_1,
  g_228_176_2,
  g_228_176_3]
theorem r_228_176 : vCovO false (eRc e_228 L_228 cs_228 2000 (176, [(0, (3, 12, 285, 0)), (1, (0, 0, 1007, 0))])) p_228_176 = true := by decide +kernel
set_option maxHeartbeats 20000000 in
theorem q_228_19 {q0 : Nat} {n0 n1 n2 n3 n4 n5 n6 n7 : Int} {H0 H1 : gH} (f0 : n0 ≤ 1007) (f1 : 0 ≤ n0) (f2 : n1 = 285) (f3 : n2 ≤ 1007) (f4 : 0 ≤ n2) (f5 : n3 = 285) (f6 : (hLe T0 H0 H1 ∧ hFr s_228.2.2.2.2 H0 H1 ∧ hWt T0 H1) ∧ (Ab_228_231 n3 n2 n1 n0 H0 H1 ∧ preb_228 n3 n2 H0) ∧ some q0 = some (mub_228_231 n3 n2 n1 n0 H0 H1)) (f7 : n4 = 6) (f8 : n5 = w32 (n4 * n0)) (f9 : n6 = 5) (f10 : n7 = w32 (n5 + n6)) : 0 ≤ n7 ∧ n7 < 6048 := by
  have g4 := f6.2.1.1
  unfold Ab_228_231 at g4
  have g3 := f6.2.1.2
  unfold preb_228 at g3
  have e0 : hV H1 285 18 = hV H0 285 18 := f6.1.2.1.1 285 18 kF_228_285_18
  have e1 : hV H1 285 18 = hV H0 285 18 := e0
  have e2 : hV H1 285 32 = hV H0 285 32 := f6.1.2.1.1 285 32 kF_228_285_32
  have e3 : hV H1 285 32 = hV H0 285 32 := e2
  have e4 : hV H1 285 33 = hV H0 285 33 := f6.1.2.1.1 285 33 kF_228_285_33
  have e5 : hV H1 285 33 = hV H0 285 33 := e4
  have e6 : (0 : Int) ≤ hV H1 285 11 ∧ hV H1 285 11 ≤ 500 := f6.1.2.2 285 11 _ _ kW_285_11
  have e7 : (0 : Int) ≤ hV H1 285 13 ∧ hV H1 285 13 ≤ 2 := f6.1.2.2 285 13 _ _ kW_285_13
  have e8 : (0 : Int) ≤ hV H1 285 15 ∧ hV H1 285 15 ≤ 6 := f6.1.2.2 285 15 _ _ kW_285_15
  have e9 : (0 : Int) ≤ hV H1 285 18 ∧ hV H1 285 18 ≤ 8 := f6.1.2.2 285 18 _ _ kW_285_18
  have e10 : (0 : Int) ≤ hV H1 285 32 ∧ hV H1 285 32 ≤ 7 := f6.1.2.2 285 32 _ _ kW_285_32
  have e11 : (0 : Int) ≤ hV H1 285 33 ∧ hV H1 285 33 ≤ 62 := f6.1.2.2 285 33 _ _ kW_285_33
  try simp only [e1] at e9
  try simp only [e3] at e10
  try simp only [e5] at e11
  have k0 := g4.1
  have y0 := g4.2.1
  have y1 := g4.2.2.1
  have y2 := g4.2.2.2.1
  have y3 := g4.2.2.2.2.1
  have y4 := g4.2.2.2.2.2.1
  have y5 := g4.2.2.2.2.2.2.1
  have y6 := g4.2.2.2.2.2.2.2.1
  have y7 := g4.2.2.2.2.2.2.2.2.1
  have y8 := g4.2.2.2.2.2.2.2.2.2.1
  have y9 := g4.2.2.2.2.2.2.2.2.2.2.1
  have y10 := g4.2.2.2.2.2.2.2.2.2.2.2.1
  have y11 := g4.2.2.2.2.2.2.2.2.2.2.2.2.1
  have y12 := g4.2.2.2.2.2.2.2.2.2.2.2.2.2.1
  have y13 := g4.2.2.2.2.2.2.2.2.2.2.2.2.2.2
  have p0 := g3.1
  have p1 := g3.2.1
  have p2 := g3.2.2.1
  have p3 := g3.2.2.2.1
  have p4 := g3.2.2.2.2.1
  have p5 := g3.2.2.2.2.2.1
  have p6 := g3.2.2.2.2.2.2.1
  have p7 := g3.2.2.2.2.2.2.2
  clear g3
  clear g4
  have wb0 := (p7 (hV H0 285 32).toNat).1
  have wp0 := (p7 (hV H0 285 33).toNat).2
  try simp only [e1, e3, e5] at wb0
  try simp only [e1, e3, e5] at wp0
  clear e0 e1 e2 e3 e4 e5
  clear f6
  rw [f7] at f8
  unfold w32 at *
  try (have ix0 : n5 = 6 * n0 := (by omega); subst ix0)
  try (have ix1 : n7 = (6 * n0) + 5 := (by omega); subst ix1)

  (try clear y0 y1 p0 p5 p7)
  omega
def g_228_231_0 : vG := ([(1, [9, 7, 8], [], 0), (0, [8], [], 5), (3, [7, 6, 3], [], 0), (0, [6], [], 6), (5000, [0, 1, 2, 3], [0, 1], 231), (0, [0], [], 285), (90, [1], [], 0), (91, [1], [], 1007), (0, [2], [], 285), (90, [3], [], 0), (91, [3], [], 1007)], (70, [9], [], 6048))
theorem c_228_231_0 {q0 : Nat} : vOkm T0 (eP e_228 L_228 A_228 mu_228 (some q0)) 2 g_228_231_0 := vOk_inI fun ρ η f0 f1 f2 f3 f4 f5 f6 f7 f8 f9 f10 => q_228_19 (q0 := q0) (n0 := ρ 3) (n1 := ρ 2) (n2 := ρ 1) (n3 := ρ 0) (n4 := ρ 6) (n5 := ρ 7) (n6 := ρ 8) (n7 := ρ 9) (H0 := η 0) (H1 := η 1) f10 f9 f8 f7 f6 f5 f4 f3 f2 f1 f0
set_option maxHeartbeats 20000000 in
theorem q_228_20 {q0 : Nat} {n0 n1 n2 n3 n4 n5 n6 n7 n8 n9 n10 n11 n12 : Int} {H0 H1 H2 H3 H4 : gH} (f0 : n0 ≤ 1007) (f1 : 0 ≤ n0) (f2 : n1 = 285) (f3 : n2 ≤ 1007) (f4 : 0 ≤ n2) (f5 : n3 = 285) (f6 : (hLe T0 H0 H1 ∧ hFr s_228.2.2.2.2 H0 H1 ∧ hWt T0 H1) ∧ (Ab_228_231 n3 n2 n1 n0 H0 H1 ∧ preb_228 n3 n2 H0) ∧ some q0 = some (mub_228_231 n3 n2 n1 n0 H0 H1)) (f7 : n4 = 30) (f8 : (hLe T0 H1 H2 ∧ hFr s_220.2.2.2.2 H1 H2 ∧ ((0 : Int) = 0 → H2.length = H1.length) ∧ hWt T0 H2) ∧ postb_220 n1 n4 H1 H2) (f9 : n5 = 305) (f10 : n5 = hV H2 (n1).toNat 31) (f11 : n6 = 6) (f12 : n7 = w32 (n6 * n0)) (f13 : n8 = 5) (f14 : n9 = w32 (n7 + n8)) (f15 : n10 = 0) (f16 : n11 = 2) (f17 : n12 ≤ 9999) (f18 : 0 ≤ n12) (f19 : (hLe T0 H2 H3 ∧ hFr s_223.2.2.2.2 H2 H3 ∧ ((0 : Int) = 0 → H3.length = H2.length) ∧ hWt T0 H3) ∧ postb_223 n12 n1 n10 n11 H2 H3) (f20 : hUpd H4 H3 n5 n9 n12) : postb_228 n3 n2 H0 H4 := by
  have g4 := f6.2.1.1
  unfold Ab_228_231 at g4
  have g3 := f6.2.1.2
  unfold preb_228 at g3
  unfold postb_220 at f8
  unfold postb_223 at f19
  unfold postb_228
  have e0 : hV H1 285 18 = hV H0 285 18 := f6.1.2.1.1 285 18 kF_228_285_18
  have e1 : hV H1 285 18 = hV H0 285 18 := e0
  have e2 : hV H1 285 32 = hV H0 285 32 := f6.1.2.1.1 285 32 kF_228_285_32
  have e3 : hV H1 285 32 = hV H0 285 32 := e2
  have e4 : hV H1 285 33 = hV H0 285 33 := f6.1.2.1.1 285 33 kF_228_285_33
  have e5 : hV H1 285 33 = hV H0 285 33 := e4
  have e6 : hV H1 285 64 = hV H0 285 64 := f6.1.2.1.1 285 64 kF_228_285_64
  have e7 : hV H1 285 64 = hV H0 285 64 := e6
  have e8 : hV H1 294 = hV H0 294 := fRow f6.1.2.1 294 kR_228_294
  have e9 : hV H1 296 = hV H0 296 := fRow f6.1.2.1 296 kR_228_296
  have e10 : hV H1 297 = hV H0 297 := fRow f6.1.2.1 297 kR_228_297
  have e11 : hV H1 298 = hV H0 298 := fRow f6.1.2.1 298 kR_228_298
  have e12 : hV H1 328 = hV H0 328 := fRow f6.1.2.1 328 kR_228_328
  have e13 : hV H1 332 = hV H0 332 := fRow f6.1.2.1 332 kR_228_332
  have e14 : hV H1 335 = hV H0 335 := fRow f6.1.2.1 335 kR_228_335
  have e15 : hV H2 285 15 = hV H1 285 15 := f8.1.2.1.1 285 15 kF_220_285_15
  have e16 : hV H2 285 15 = hV H1 285 15 := e15
  have e22 : hV H4 285 11 = hV H3 285 11 := uPlace f20 _ _ (iS (show n5 = ((305 : Nat) : Int) from f9) rfl)
  have e23 : hV H4 285 11 = hV H3 285 11 := e22
  have e24 : hV H4 285 13 = hV H3 285 13 := uPlace f20 _ _ (iS (show n5 = ((305 : Nat) : Int) from f9) rfl)
  have e25 : hV H4 285 13 = hV H3 285 13 := e24
  have e26 : hV H4 285 15 = hV H3 285 15 := uPlace f20 _ _ (iS (show n5 = ((305 : Nat) : Int) from f9) rfl)
  have e27 : hV H4 285 15 = hV H3 285 15 := e26
  have e28 : hV H4 285 18 = hV H3 285 18 := uPlace f20 _ _ (iS (show n5 = ((305 : Nat) : Int) from f9) rfl)
  have e29 : hV H3 285 18 = hV H2 285 18 := f19.1.2.1.1 285 18 kF_223_285_18
  have e30 : hV H2 285 18 = hV H1 285 18 := f8.1.2.1.1 285 18 kF_220_285_18
  have e31 : hV H4 285 18 = hV H0 285 18 := (e28).trans ((e29).trans ((e30).trans e0))
  have e32 : hV H4 285 32 = hV H3 285 32 := uPlace f20 _ _ (iS (show n5 = ((305 : Nat) : Int) from f9) rfl)
  have e33 : hV H3 285 32 = hV H2 285 32 := f19.1.2.1.1 285 32 kF_223_285_32
  have e34 : hV H2 285 32 = hV H1 285 32 := f8.1.2.1.1 285 32 kF_220_285_32
  have e35 : hV H4 285 32 = hV H0 285 32 := (e32).trans ((e33).trans ((e34).trans e2))
  have e36 : hV H4 285 33 = hV H3 285 33 := uPlace f20 _ _ (iS (show n5 = ((305 : Nat) : Int) from f9) rfl)
  have e37 : hV H3 285 33 = hV H2 285 33 := f19.1.2.1.1 285 33 kF_223_285_33
  have e38 : hV H2 285 33 = hV H1 285 33 := f8.1.2.1.1 285 33 kF_220_285_33
  have e39 : hV H4 285 33 = hV H0 285 33 := (e36).trans ((e37).trans ((e38).trans e4))
  have e40 : hV H4 285 64 = hV H3 285 64 := uPlace f20 _ _ (iS (show n5 = ((305 : Nat) : Int) from f9) rfl)
  have e41 : hV H3 285 64 = hV H2 285 64 := f19.1.2.1.1 285 64 kF_223_285_64
  have e42 : hV H2 285 64 = hV H1 285 64 := f8.1.2.1.1 285 64 kF_220_285_64
  have e43 : hV H4 285 64 = hV H0 285 64 := (e40).trans ((e41).trans ((e42).trans e6))
  have e44 : hV H4 294 = hV H3 294 := uRowNe f20 _ (iS (show n5 = ((305 : Nat) : Int) from f9) rfl)
  have e45 : hV H3 294 = hV H2 294 := fRow f19.1.2.1 294 kR_223_294
  have e46 : hV H2 294 = hV H1 294 := fRow f8.1.2.1 294 kR_220_294
  have e47 : hV H2 294 = hV H0 294 := e46.trans e8
  have e48 : hV H3 294 = hV H0 294 := e45.trans e47
  have e49 : hV H4 294 = hV H0 294 := e44.trans e48
  have e50 : hV H4 296 = hV H3 296 := uRowNe f20 _ (iS (show n5 = ((305 : Nat) : Int) from f9) rfl)
  have e51 : hV H3 296 = hV H2 296 := fRow f19.1.2.1 296 kR_223_296
  have e52 : hV H2 296 = hV H1 296 := fRow f8.1.2.1 296 kR_220_296
  have e53 : hV H2 296 = hV H0 296 := e52.trans e9
  have e54 : hV H3 296 = hV H0 296 := e51.trans e53
  have e55 : hV H4 296 = hV H0 296 := e50.trans e54
  have e56 : hV H4 297 = hV H3 297 := uRowNe f20 _ (iS (show n5 = ((305 : Nat) : Int) from f9) rfl)
  have e57 : hV H3 297 = hV H2 297 := fRow f19.1.2.1 297 kR_223_297
  have e58 : hV H2 297 = hV H1 297 := fRow f8.1.2.1 297 kR_220_297
  have e59 : hV H2 297 = hV H0 297 := e58.trans e10
  have e60 : hV H3 297 = hV H0 297 := e57.trans e59
  have e61 : hV H4 297 = hV H0 297 := e56.trans e60
  have e62 : hV H4 298 = hV H3 298 := uRowNe f20 _ (iS (show n5 = ((305 : Nat) : Int) from f9) rfl)
  have e63 : hV H3 298 = hV H2 298 := fRow f19.1.2.1 298 kR_223_298
  have e64 : hV H2 298 = hV H1 298 := fRow f8.1.2.1 298 kR_220_298
  have e65 : hV H2 298 = hV H0 298 := e64.trans e11
  have e66 : hV H3 298 = hV H0 298 := e63.trans e65
  have e67 : hV H4 298 = hV H0 298 := e62.trans e66
  have e68 : hV H4 300 = hV H3 300 := uRowNe f20 _ (iS (show n5 = ((305 : Nat) : Int) from f9) rfl)
  have e69 : hV H3 300 = hV H2 300 := fRow f19.1.2.1 300 kR_223_300
  have e70 : hV H2 300 = hV H1 300 := fRow f8.1.2.1 300 kR_220_300
  have e71 : hV H3 300 = hV H1 300 := e69.trans e70
  have e72 : hV H4 300 = hV H1 300 := e68.trans e71
  have e73 : hV H4 301 = hV H3 301 := uRowNe f20 _ (iS (show n5 = ((305 : Nat) : Int) from f9) rfl)
  have e74 : hV H3 301 = hV H2 301 := fRow f19.1.2.1 301 kR_223_301
  have e75 : hV H2 301 = hV H1 301 := fRow f8.1.2.1 301 kR_220_301
  have e76 : hV H3 301 = hV H1 301 := e74.trans e75
  have e77 : hV H4 301 = hV H1 301 := e73.trans e76
  have e78 : hV H4 302 = hV H3 302 := uRowNe f20 _ (iS (show n5 = ((305 : Nat) : Int) from f9) rfl)
  have e79 : hV H3 302 = hV H2 302 := fRow f19.1.2.1 302 kR_223_302
  have e80 : hV H2 302 = hV H1 302 := fRow f8.1.2.1 302 kR_220_302
  have e81 : hV H3 302 = hV H1 302 := e79.trans e80
  have e82 : hV H4 302 = hV H1 302 := e78.trans e81
  have e83 : hV H4 303 = hV H3 303 := uRowNe f20 _ (iS (show n5 = ((305 : Nat) : Int) from f9) rfl)
  have e84 : hV H3 303 = hV H2 303 := fRow f19.1.2.1 303 kR_223_303
  have e85 : hV H2 303 = hV H1 303 := fRow f8.1.2.1 303 kR_220_303
  have e86 : hV H3 303 = hV H1 303 := e84.trans e85
  have e87 : hV H4 303 = hV H1 303 := e83.trans e86
  have e88 : hV H4 305 = uF (hV H3 305) n9 n12 := uRow f20 _ f9.symm
  have e89 : hV H3 305 = hV H2 305 := fRow f19.1.2.1 305 kR_223_305
  have e90 : hV H2 305 = hV H1 305 := fRow f8.1.2.1 305 kR_220_305
  have e91 : hV H3 305 = hV H1 305 := e89.trans e90
  have e92 : hV H4 305 = (uF (hV H1 305) n9 n12) := e88.trans (congrArg (fun z => uF z n9 n12) e91)
  have e93 : hV H4 328 = hV H3 328 := uRowNe f20 _ (iS (show n5 = ((305 : Nat) : Int) from f9) rfl)
  have e94 : hV H3 328 = hV H2 328 := fRow f19.1.2.1 328 kR_223_328
  have e95 : hV H2 328 = hV H1 328 := fRow f8.1.2.1 328 kR_220_328
  have e96 : hV H2 328 = hV H0 328 := e95.trans e12
  have e97 : hV H3 328 = hV H0 328 := e94.trans e96
  have e98 : hV H4 328 = hV H0 328 := e93.trans e97
  have e99 : hV H4 332 = hV H3 332 := uRowNe f20 _ (iS (show n5 = ((305 : Nat) : Int) from f9) rfl)
  have e100 : hV H3 332 = hV H2 332 := fRow f19.1.2.1 332 kR_223_332
  have e101 : hV H2 332 = hV H1 332 := fRow f8.1.2.1 332 kR_220_332
  have e102 : hV H2 332 = hV H0 332 := e101.trans e13
  have e103 : hV H3 332 = hV H0 332 := e100.trans e102
  have e104 : hV H4 332 = hV H0 332 := e99.trans e103
  have e105 : hV H4 335 = hV H3 335 := uRowNe f20 _ (iS (show n5 = ((305 : Nat) : Int) from f9) rfl)
  have e106 : hV H3 335 = hV H2 335 := fRow f19.1.2.1 335 kR_223_335
  have e107 : hV H2 335 = hV H1 335 := fRow f8.1.2.1 335 kR_220_335
  have e108 : hV H2 335 = hV H0 335 := e107.trans e14
  have e109 : hV H3 335 = hV H0 335 := e106.trans e108
  have e110 : hV H4 335 = hV H0 335 := e105.trans e109
  have e111 : (0 : Int) ≤ hV H1 285 11 ∧ hV H1 285 11 ≤ 500 := f6.1.2.2 285 11 _ _ kW_285_11
  have e112 : (0 : Int) ≤ hV H1 285 13 ∧ hV H1 285 13 ≤ 2 := f6.1.2.2 285 13 _ _ kW_285_13
  have e113 : (0 : Int) ≤ hV H1 285 15 ∧ hV H1 285 15 ≤ 6 := f6.1.2.2 285 15 _ _ kW_285_15
  have e114 : (0 : Int) ≤ hV H1 285 18 ∧ hV H1 285 18 ≤ 8 := f6.1.2.2 285 18 _ _ kW_285_18
  have e115 : (0 : Int) ≤ hV H1 285 32 ∧ hV H1 285 32 ≤ 7 := f6.1.2.2 285 32 _ _ kW_285_32
  have e116 : (0 : Int) ≤ hV H1 285 33 ∧ hV H1 285 33 ≤ 62 := f6.1.2.2 285 33 _ _ kW_285_33
  have e117 : (0 : Int) ≤ hV H1 285 64 ∧ hV H1 285 64 ≤ 20 := f6.1.2.2 285 64 _ _ kW_285_64
  have e118 : (0 : Int) ≤ hV H2 285 11 ∧ hV H2 285 11 ≤ 500 := f8.1.2.2.2 285 11 _ _ kW_285_11
  have e119 : (0 : Int) ≤ hV H2 285 13 ∧ hV H2 285 13 ≤ 2 := f8.1.2.2.2 285 13 _ _ kW_285_13
  have e120 : (0 : Int) ≤ hV H2 285 15 ∧ hV H2 285 15 ≤ 6 := f8.1.2.2.2 285 15 _ _ kW_285_15
  have e121 : (0 : Int) ≤ hV H3 285 11 ∧ hV H3 285 11 ≤ 500 := f19.1.2.2.2 285 11 _ _ kW_285_11
  have e122 : (0 : Int) ≤ hV H3 285 13 ∧ hV H3 285 13 ≤ 2 := f19.1.2.2.2 285 13 _ _ kW_285_13
  have e123 : (0 : Int) ≤ hV H3 285 15 ∧ hV H3 285 15 ≤ 6 := f19.1.2.2.2 285 15 _ _ kW_285_15
  try simp only [PA, PW]
  try simp only [e1] at e114
  try simp only [e3] at e115
  try simp only [e5] at e116
  try simp only [e7] at e117
  try simp only [e16] at e120
  try simp only [e23, e25, e27, e31, e35, e39, e43, e49, e55, e61, e67, e72, e77, e82, e87, e92, e98, e104, e110]
  have k0 := g4.1
  have y0 := g4.2.1
  have y1 := g4.2.2.1
  have y2 := g4.2.2.2.1
  have y3 := g4.2.2.2.2.1
  have y4 := g4.2.2.2.2.2.1
  have y5 := g4.2.2.2.2.2.2.1
  have y6 := g4.2.2.2.2.2.2.2.1
  have y7 := g4.2.2.2.2.2.2.2.2.1
  have y8 := g4.2.2.2.2.2.2.2.2.2.1
  have y9 := g4.2.2.2.2.2.2.2.2.2.2.1
  have y10 := g4.2.2.2.2.2.2.2.2.2.2.2.1
  have y11 := g4.2.2.2.2.2.2.2.2.2.2.2.2.1
  have y12 := g4.2.2.2.2.2.2.2.2.2.2.2.2.2.1
  have y13 := g4.2.2.2.2.2.2.2.2.2.2.2.2.2.2
  have p0 := g3.1
  have p1 := g3.2.1
  have p2 := g3.2.2.1
  have p3 := g3.2.2.2.1
  have p4 := g3.2.2.2.2.1
  have p5 := g3.2.2.2.2.2.1
  have p6 := g3.2.2.2.2.2.2.1
  have p7 := g3.2.2.2.2.2.2.2
  have r0_0 := f8.2.1
  have r0_1 := f8.2.2.1
  have r0_2 := f8.2.2.2.1
  have r0_3 := f8.2.2.2.2.1
  have r1_0 := f19.2.1
  have r1_1 := f19.2.2.1
  have r1_2 := f19.2.2.2.1
  have r1_3 := f19.2.2.2.2.1
  have r1_4 := f19.2.2.2.2.2.1
  have r1_5 := f19.2.2.2.2.2.2.1
  have r1_6 := f19.2.2.2.2.2.2.2.1
  try simp only [PA] at y0
  try simp only [PW] at y1
  try simp only [PA] at p0
  try simp only [PW] at p5
  try simp only [e1, e7, e8, e9, e11, e12, e13, e14] at y0
  try simp only [e3, e5, e8, e9, e10, e11] at y1
  try simp only [e16] at r1_4
  clear g3
  clear g4
  have wb0 := (p7 (hV H0 285 32).toNat).1
  have wp0 := (p7 (hV H0 285 33).toNat).2
  try simp only [e1, e3, e5, e7, e8, e9, e10, e11, e12, e13, e14] at wb0
  try simp only [e1, e3, e5, e7, e8, e9, e10, e11, e12, e13, e14] at wp0
  clear f10 e0 e1 e2 e3 e4 e5 e6 e7 e8 e9 e10 e11 e12 e13 e14 e15 e16 e22 e23 e24 e25 e26 e27 e28 e29 e30 e31 e32 e33 e34 e35 e36 e37 e38 e39 e40 e41 e42 e43 e44 e45 e46 e47 e48 e49 e50 e51 e52 e53 e54 e55 e56 e57 e58 e59 e60 e61 e62 e63 e64 e65 e66 e67 e68 e69 e70 e71 e72 e73 e74 e75 e76 e77 e78 e79 e80 e81 e82 e83 e84 e85 e86 e87 e89 e90 e91 e92 e93 e94 e95 e96 e97 e98 e99 e100 e101 e102 e103 e104 e105 e106 e107 e108 e109 e110
  clear f6 f8 f19
  rw [f11] at f12
  unfold w32 at *
  try (have ix0 : n7 = 6 * n0 := (by omega); subst ix0)
  try (have ix1 : n9 = (6 * n0) + 5 := (by omega); subst ix1)

  refine ⟨?_, ?_, ?_, ?_, ?_, ?_, ?_, ?_, ?_, ?_, ?_, ?_, ?_, ?_, ?_, ?_⟩
  · refine PA_cn ?_ (by omega)
    exact y0
  · intro z1 z2
    refine PW_cn ?_ (by omega) (by omega) (by omega) (by omega)
    exact y1 (by omega) (by omega)
  · (try clear y0 y1 p0 p5 p7)
    first | exact True.intro | omega
  · (try clear y0 y1 p0 p5 p7)
    first | exact True.intro | omega
  · (try clear y0 y1 p0 p5 p7)
    first | exact True.intro | omega
  · (try clear y0 y1 p0 p5 p7)
    first | exact True.intro | omega
  · (try clear y0 y1 p0 p5 p7)
    first | exact True.intro | omega
  · (try clear y0 y1 p0 p5 p7)
    first | exact True.intro | omega
  · (try clear y0 y1 p0 p5 p7)
    first | exact True.intro | omega
  · (try clear y0 y1 p0 p5 p7)
    first | exact True.intro | omega
  · (try clear y0 y1 p0 p5 p7)
    first | exact True.intro | omega
  · (try clear y0 y1 p0 p5 p7)
    first | exact True.intro | omega
  · (try clear y0 y1 p0 p5 p7)
    first | (simp only [uF_at]; omega) | omega
  · (try clear y0 y1 p0 p5 p7)
    first | (simp only [uF_at]; omega) | omega
  · (try clear y0 y1 p0 p5 p7)
    first | (simp only [uF_at]; omega) | omega
  · (try clear y0 y1 p0 p5 p7)
    first | (simp only [uF_at]; omega) | omega

def g_228_231_1 : vG := ([(80, [5, 9, 12], [4, 3], 0), (1223, [12, 2, 10, 11], [2, 3], 0), (90, [12], [], 0), (91, [12], [], 9999), (0, [11], [], 2), (0, [10], [], 0), (1, [9, 7, 8], [], 0), (0, [8], [], 5), (3, [7, 6, 3], [], 0), (0, [6], [], 6), (20, [5, 2], [2], 31), (0, [5], [], 305), (1220, [2, 4], [1, 2], 0), (0, [4], [], 30), (5000, [0, 1, 2, 3], [0, 1], 231), (0, [0], [], 285), (90, [1], [], 0), (91, [1], [], 1007), (0, [2], [], 285), (90, [3], [], 0), (91, [3], [], 1007)], (3000, [], [4], 254))
theorem c_228_231_1 {q0 : Nat} : vOkm T0 (eP e_228 L_228 A_228 mu_228 (some q0)) 2 g_228_231_1 := vOk_inI fun ρ η f0 f1 f2 f3 f4 f5 f6 f7 f8 f9 f10 f11 f12 f13 f14 f15 f16 f17 f18 f19 f20 => q_228_20 (q0 := q0) (n0 := ρ 3) (n1 := ρ 2) (n2 := ρ 1) (n3 := ρ 0) (n4 := ρ 4) (n5 := ρ 5) (n6 := ρ 6) (n7 := ρ 7) (n8 := ρ 8) (n9 := ρ 9) (n10 := ρ 10) (n11 := ρ 11) (n12 := ρ 12) (H0 := η 0) (H1 := η 1) (H2 := η 2) (H3 := η 3) (H4 := η 4) f20 f19 f18 f17 f16 f15 f14 f13 f12 f11 f10 f9 f8 f7 f6 f5 f4 f3 f2 f1 f0
def p_228_231 : List vG := [g_228_231_0,
  g_228_231_1]
theorem r_228_231 : vCovO false (eRc e_228 L_228 cs_228 2000 (231, [(0, (3, 12, 285, 0)), (1, (0, 0, 1007, 0))])) p_228_231 = true := by decide +kernel
theorem m_228 (d : Nat) : eC e_228 (d + 6) := eC_ok (e := e_228) (L := L_228) (cs := cs_228) (n := 2000) (d := d + 5) (A := A_228) (μ := mu_228) (tp := false) (p0 := p_228_s) rfl ⟨m_216 (d + 4), ⟨m_219 (d + 3), ⟨m_220 (d + 2), ⟨m_223 (d + 1), ⟨m_229 d, trivial⟩⟩⟩⟩⟩ rfl (.inl rfl) (by decide +kernel) (fun z => nomatch z) r_228_s (allC c_228_s_0 (allC c_228_s_1 (allC c_228_s_2 (allC c_228_s_3 (allC c_228_s_4 (allC c_228_s_5 (allC c_228_s_6 (allC c_228_s_7 (allC c_228_s_8 allN))))))))) (allC (.inl ⟨p_228_113, r_228_113, fun q0 => (allC c_228_113_0 (allC c_228_113_1 (allC c_228_113_2 allN)))⟩) (allC (.inl ⟨p_228_144, r_228_144, fun q0 => (allC c_228_144_0 (allC c_228_144_1 (allC c_228_144_2 allN)))⟩) (allC (.inl ⟨p_228_176, r_228_176, fun q0 => (allC c_228_176_0 (allC c_228_176_1 (allC c_228_176_2 (allC c_228_176_3 allN))))⟩) (allC (.inl ⟨p_228_231, r_228_231, fun q0 => (allC c_228_231_0 (allC c_228_231_1 allN))⟩) allN))))
