/-! CONTRACTS of methods told more fully. -/
/-! WHAT A NEW SOUND IS OF, in the reference (printed by wip/gen/refs6.py). -/
def RAD (r s : Int) (a b : gH) : Prop := (r = -1 ∧ hV b 332 = hV a 332 ∧ hV b 335 = hV a 335) ∨ (0 ≤ r ∧ r = hV a 285 64 ∧ hV b 332 = uF (hV a 332) r s ∧ hV b 335 = uF (hV a 335) r (-1))
/- MixStageModel.adds (IIIII)I, more fully -/
def nbr_252 (r a0 a1 a2 a3 a4 a5 : Int) (h0 h : gH) : Prop := RAD r a5 h0 h
def nr_252 : List Int → gH → gH → Prop := fun xs h0 h => match xs with
  | [r, a0, a1, a2, a3, a4, a5] => nbr_252 r a0 a1 a2 a3 a4 a5 h0 h
  | _ => True
noncomputable def e_252r : vE := eV e_252 nr_252
noncomputable def L_252r : List vE := []
def Br_252 : Int → List Int → gH → gH → Prop := fun c xs h0 h => True
theorem q_252r_0 {n0 n1 n2 n3 n4 n5 n6 n7 n8 n9 n10 n11 n12 n13 n14 n15 n16 n17 n18 n19 n20 n21 n22 n23 n24 n25 n26 n27 n28 n29 n30 n31 n32 n33 n34 n35 n36 n37 n38 n39 n40 n41 : Int} {H0 H1 H2 H3 H4 H5 H6 H7 H8 H9 H10 H11 H12 : gH} (f0 : n0 ≤ 19) (f1 : (-1) ≤ n0) (f2 : n1 ≤ 2147483647) (f3 : (-2147483648) ≤ n1) (f4 : n2 ≤ 2147483647) (f5 : (-2147483648) ≤ n2) (f6 : n3 ≤ 240) (f7 : (-1) ≤ n3) (f8 : n4 ≤ 6) (f9 : 0 ≤ n4) (f10 : n5 = 285) (f11 : hWt T0 H0 ∧ preb_252 n5 n4 n3 n2 n1 n0 H0) (f12 : n6 = 328) (f13 : hK H0 (n5).toNat = 12) (f14 : n6 = hV H0 (n5).toNat 66) (f15 : n7 ≤ 20) (f16 : 0 ≤ n7) (f17 : hK H0 (n5).toNat = 12) (f18 : n7 = hV H0 (n5).toNat 64) (f19 : hK H0 (n6).toNat = 452) (f20 : hUpd H1 H0 n6 n7 n4) (f21 : n8 = 329) (f22 : hK H1 (n5).toNat = 12) (f23 : n8 = hV H1 (n5).toNat 67) (f24 : n9 ≤ 20) (f25 : 0 ≤ n9) (f26 : hK H1 (n5).toNat = 12) (f27 : n9 = hV H1 (n5).toNat 64) (f28 : hK H1 (n8).toNat = 460) (f29 : hUpd H2 H1 n8 n9 n3) (f30 : n10 = 330) (f31 : hK H2 (n5).toNat = 12) (f32 : n10 = hV H2 (n5).toNat 68) (f33 : n11 ≤ 20) (f34 : 0 ≤ n11) (f35 : hK H2 (n5).toNat = 12) (f36 : n11 = hV H2 (n5).toNat 64) (f37 : hK H2 (n10).toNat = 468) (f38 : hUpd H3 H2 n10 n11 n2) (f39 : n12 = 331) (f40 : hK H3 (n5).toNat = 12) (f41 : n12 = hV H3 (n5).toNat 69) (f42 : n13 ≤ 20) (f43 : 0 ≤ n13) (f44 : hK H3 (n5).toNat = 12) (f45 : n13 = hV H3 (n5).toNat 64) (f46 : hK H3 (n12).toNat = 476) (f47 : hUpd H4 H3 n12 n13 n1) (f48 : n14 = 332) (f49 : hK H4 (n5).toNat = 12) (f50 : n14 = hV H4 (n5).toNat 70) (f51 : n15 ≤ 20) (f52 : 0 ≤ n15) (f53 : hK H4 (n5).toNat = 12) (f54 : n15 = hV H4 (n5).toNat 64) (f55 : hK H4 (n14).toNat = 484) (f56 : hUpd H5 H4 n14 n15 n0) (f57 : n16 = 334) (f58 : hK H5 (n5).toNat = 12) (f59 : n16 = hV H5 (n5).toNat 72) (f60 : n17 ≤ 20) (f61 : 0 ≤ n17) (f62 : hK H5 (n5).toNat = 12) (f63 : n17 = hV H5 (n5).toNat 64) (f64 : n18 = 0) (f65 : hK H5 (n16).toNat = 500) (f66 : hUpd H6 H5 n16 n17 n18) (f67 : n19 = 335) (f68 : hK H6 (n5).toNat = 12) (f69 : n19 = hV H6 (n5).toNat 73) (f70 : n20 ≤ 20) (f71 : 0 ≤ n20) (f72 : hK H6 (n5).toNat = 12) (f73 : n20 = hV H6 (n5).toNat 64) (f74 : n21 = (-1)) (f75 : hK H6 (n19).toNat = 508) (f76 : hUpd H7 H6 n19 n20 n21) (f77 : n22 = 336) (f78 : hK H7 (n5).toNat = 12) (f79 : n22 = hV H7 (n5).toNat 74) (f80 : n23 ≤ 20) (f81 : 0 ≤ n23) (f82 : hK H7 (n5).toNat = 12) (f83 : n23 = hV H7 (n5).toNat 64) (f84 : n24 = (-1)) (f85 : hK H7 (n22).toNat = 516) (f86 : hUpd H8 H7 n22 n23 n24) (f87 : n25 = 338) (f88 : hK H8 (n5).toNat = 12) (f89 : n25 = hV H8 (n5).toNat 76) (f90 : n26 ≤ 20) (f91 : 0 ≤ n26) (f92 : hK H8 (n5).toNat = 12) (f93 : n26 = hV H8 (n5).toNat 64) (f94 : n27 = 0) (f95 : hK H8 (n25).toNat = 532) (f96 : hUpd H9 H8 n25 n26 n27) (f97 : n28 ≤ 2147483647) (f98 : 0 ≤ n28) (f99 : hK H9 (n5).toNat = 12) (f100 : n28 = hV H9 (n5).toNat 65) (f101 : n29 = 1) (f102 : n30 = w32 (n28 + n29)) (f103 : hK H9 (n5).toNat = 12) (f104 : n31 = 65) (f105 : hUpd H10 H9 n5 n31 n30) (f106 : n32 = 333) (f107 : hK H10 (n5).toNat = 12) (f108 : n32 = hV H10 (n5).toNat 71) (f109 : n33 ≤ 20) (f110 : 0 ≤ n33) (f111 : hK H10 (n5).toNat = 12) (f112 : n33 = hV H10 (n5).toNat 64) (f113 : n34 ≤ 2147483647) (f114 : 0 ≤ n34) (f115 : hK H10 (n5).toNat = 12) (f116 : n34 = hV H10 (n5).toNat 65) (f117 : hK H10 (n32).toNat = 492) (f118 : hUpd H11 H10 n32 n33 n34) (f119 : n35 ≤ 20) (f120 : 0 ≤ n35) (f121 : hK H11 (n5).toNat = 12) (f122 : n35 = hV H11 (n5).toNat 64) (f123 : n36 = 1) (f124 : n37 = w32 (n35 + n36)) (f125 : hK H11 (n5).toNat = 12) (f126 : n38 = 64) (f127 : hUpd H12 H11 n5 n38 n37) (f128 : n39 ≤ 20) (f129 : 0 ≤ n39) (f130 : hK H12 (n5).toNat = 12) (f131 : n39 = hV H12 (n5).toNat 64) (f132 : n40 = 1) (f133 : n41 = w32 (n39 - n40)) : nbr_252 n41 n5 n4 n3 n2 n1 n0 H0 H12 := by
  unfold nbr_252
  have c10 := f10
  have c12 := f12
  have c21 := f21
  have c30 := f30
  have c39 := f39
  have c48 := f48
  have c57 := f57
  have c64 := f64
  have c67 := f67
  have c74 := f74
  have c77 := f77
  have c84 := f84
  have c87 := f87
  have c94 := f94
  have c101 := f101
  have c104 := f104
  have c106 := f106
  have c123 := f123
  have c126 := f126
  have c132 := f132
  have w102 := f102
  unfold w32 at w102
  have w124 := f124
  unfold w32 at w124
  have w133 := f133
  unfold w32 at w133
  have e332 : hV H12 332 = uF (hV H0 332) n15 n0 := (uRowNe f127 332 (by rw [f10]; decide)).trans ((uRowNe f118 332 (by rw [f106]; decide)).trans ((uRowNe f105 332 (by rw [f10]; decide)).trans ((uRowNe f96 332 (by rw [f87]; decide)).trans ((uRowNe f86 332 (by rw [f77]; decide)).trans ((uRowNe f76 332 (by rw [f67]; decide)).trans ((uRowNe f66 332 (by rw [f57]; decide)).trans ((uRowQ f56 332 f48).trans (congrArg (fun g => uF g n15 n0) ((uRowNe f47 332 (by rw [f39]; decide)).trans ((uRowNe f38 332 (by rw [f30]; decide)).trans ((uRowNe f29 332 (by rw [f21]; decide)).trans ((uRowNe f20 332 (by rw [f12]; decide)).trans rfl))))))))))))
  have e335 : hV H12 335 = uF (hV H0 335) n20 n21 := (uRowNe f127 335 (by rw [f10]; decide)).trans ((uRowNe f118 335 (by rw [f106]; decide)).trans ((uRowNe f105 335 (by rw [f10]; decide)).trans ((uRowNe f96 335 (by rw [f87]; decide)).trans ((uRowNe f86 335 (by rw [f77]; decide)).trans ((uRowQ f76 335 f67).trans (congrArg (fun g => uF g n20 n21) ((uRowNe f66 335 (by rw [f57]; decide)).trans ((uRowNe f56 335 (by rw [f48]; decide)).trans ((uRowNe f47 335 (by rw [f39]; decide)).trans ((uRowNe f38 335 (by rw [f30]; decide)).trans ((uRowNe f29 335 (by rw [f21]; decide)).trans ((uRowNe f20 335 (by rw [f12]; decide)).trans rfl))))))))))))
  have r54 := f54
  rw [f10] at r54
  replace r54 : n15 = hV H4 285 64 := r54
  have x332 : n15 = hV H0 285 64 := r54.trans ((congrFun (uRowNe f47 285 (by rw [f39]; decide)) 64).trans ((congrFun (uRowNe f38 285 (by rw [f30]; decide)) 64).trans ((congrFun (uRowNe f29 285 (by rw [f21]; decide)) 64).trans (congrFun (uRowNe f20 285 (by rw [f12]; decide)) 64))))
  have r73 := f73
  rw [f10] at r73
  replace r73 : n20 = hV H6 285 64 := r73
  have x335 : n20 = hV H0 285 64 := r73.trans ((congrFun (uRowNe f66 285 (by rw [f57]; decide)) 64).trans ((congrFun (uRowNe f56 285 (by rw [f48]; decide)) 64).trans ((congrFun (uRowNe f47 285 (by rw [f39]; decide)) 64).trans ((congrFun (uRowNe f38 285 (by rw [f30]; decide)) 64).trans ((congrFun (uRowNe f29 285 (by rw [f21]; decide)) 64).trans (congrFun (uRowNe f20 285 (by rw [f12]; decide)) 64))))))
  have r131 := f131
  rw [f10] at r131
  replace r131 : n39 = hV H12 285 64 := r131
  have y64 : hV H12 285 64 = n37 := uSame f127 285 64 (by rw [f10]; rfl) (by rw [f126]; rfl)
  have r122 := f122
  rw [f10] at r122
  replace r122 : n35 = hV H11 285 64 := r122
  have x64 : n35 = hV H0 285 64 := r122.trans ((congrFun (uRowNe f118 285 (by rw [f106]; decide)) 64).trans ((uSlot f105 285 64 (by omega)).trans ((congrFun (uRowNe f96 285 (by rw [f87]; decide)) 64).trans ((congrFun (uRowNe f86 285 (by rw [f77]; decide)) 64).trans ((congrFun (uRowNe f76 285 (by rw [f67]; decide)) 64).trans ((congrFun (uRowNe f66 285 (by rw [f57]; decide)) 64).trans ((congrFun (uRowNe f56 285 (by rw [f48]; decide)) 64).trans ((congrFun (uRowNe f47 285 (by rw [f39]; decide)) 64).trans ((congrFun (uRowNe f38 285 (by rw [f30]; decide)) 64).trans ((congrFun (uRowNe f29 285 (by rw [f21]; decide)) 64).trans (congrFun (uRowNe f20 285 (by rw [f12]; decide)) 64)))))))))))
  have pz := f11.2
  unfold preb_252 at pz
  have p19 := pz.1
  rw [f74] at e335
  rw [x335] at e335
  rw [x332] at e332
  have er : n41 = hV H0 285 64 := by omega
  refine .inr ⟨by omega, er, ?_, ?_⟩
  · rw [er]
    exact e332
  · rw [er]
    exact e335
def g_252r_s_0 : vG := ([(2, [41, 39, 40], [], 0), (0, [40], [], 1), (20, [39, 0], [12], 64), (23, [0], [12], 12), (90, [39], [], 0), (91, [39], [], 20), (80, [0, 38, 37], [12, 11], 0), (0, [38], [], 64), (23, [0], [11], 12), (1, [37, 35, 36], [], 0), (0, [36], [], 1), (20, [35, 0], [11], 64), (23, [0], [11], 12), (90, [35], [], 0), (91, [35], [], 20), (80, [32, 33, 34], [11, 10], 0), (23, [32], [10], 492), (20, [34, 0], [10], 65), (23, [0], [10], 12), (90, [34], [], 0), (91, [34], [], 2147483647), (20, [33, 0], [10], 64), (23, [0], [10], 12), (90, [33], [], 0), (91, [33], [], 20), (20, [32, 0], [10], 71), (23, [0], [10], 12), (0, [32], [], 333), (80, [0, 31, 30], [10, 9], 0), (0, [31], [], 65), (23, [0], [9], 12), (1, [30, 28, 29], [], 0), (0, [29], [], 1), (20, [28, 0], [9], 65), (23, [0], [9], 12), (90, [28], [], 0), (91, [28], [], 2147483647), (80, [25, 26, 27], [9, 8], 0), (23, [25], [8], 532), (0, [27], [], 0), (20, [26, 0], [8], 64), (23, [0], [8], 12), (90, [26], [], 0), (91, [26], [], 20), (20, [25, 0], [8], 76), (23, [0], [8], 12), (0, [25], [], 338), (80, [22, 23, 24], [8, 7], 0), (23, [22], [7], 516), (0, [24], [], -1), (20, [23, 0], [7], 64), (23, [0], [7], 12), (90, [23], [], 0), (91, [23], [], 20), (20, [22, 0], [7], 74), (23, [0], [7], 12), (0, [22], [], 336), (80, [19, 20, 21], [7, 6], 0), (23, [19], [6], 508), (0, [21], [], -1), (20, [20, 0], [6], 64), (23, [0], [6], 12), (90, [20], [], 0), (91, [20], [], 20), (20, [19, 0], [6], 73), (23, [0], [6], 12), (0, [19], [], 335), (80, [16, 17, 18], [6, 5], 0), (23, [16], [5], 500), (0, [18], [], 0), (20, [17, 0], [5], 64), (23, [0], [5], 12), (90, [17], [], 0), (91, [17], [], 20), (20, [16, 0], [5], 72), (23, [0], [5], 12), (0, [16], [], 334), (80, [14, 15, 5], [5, 4], 0), (23, [14], [4], 484), (20, [15, 0], [4], 64), (23, [0], [4], 12), (90, [15], [], 0), (91, [15], [], 20), (20, [14, 0], [4], 70), (23, [0], [4], 12), (0, [14], [], 332), (80, [12, 13, 4], [4, 3], 0), (23, [12], [3], 476), (20, [13, 0], [3], 64), (23, [0], [3], 12), (90, [13], [], 0), (91, [13], [], 20), (20, [12, 0], [3], 69), (23, [0], [3], 12), (0, [12], [], 331), (80, [10, 11, 3], [3, 2], 0), (23, [10], [2], 468), (20, [11, 0], [2], 64), (23, [0], [2], 12), (90, [11], [], 0), (91, [11], [], 20), (20, [10, 0], [2], 68), (23, [0], [2], 12), (0, [10], [], 330), (80, [8, 9, 2], [2, 1], 0), (23, [8], [1], 460), (20, [9, 0], [1], 64), (23, [0], [1], 12), (90, [9], [], 0), (91, [9], [], 20), (20, [8, 0], [1], 67), (23, [0], [1], 12), (0, [8], [], 329), (80, [6, 7, 1], [1, 0], 0), (23, [6], [0], 452), (20, [7, 0], [0], 64), (23, [0], [0], 12), (90, [7], [], 0), (91, [7], [], 20), (20, [6, 0], [0], 66), (23, [0], [0], 12), (0, [6], [], 328), (6000, [0, 1, 2, 3, 4, 5], [0], 0), (0, [0], [], 285), (90, [1], [], 0), (91, [1], [], 6), (90, [2], [], -1), (91, [2], [], 240), (90, [3], [], -2147483648), (91, [3], [], 2147483647), (90, [4], [], -2147483648), (91, [4], [], 2147483647), (90, [5], [], -1), (91, [5], [], 19)], (3000, [41], [12], 131))
theorem c_252r_s_0 : vOkm T0 (eN e_252 L_252r A_252 mu_252 nr_252 Br_252 none) 6 g_252r_s_0 := vOk_inI fun ρ η f0 f1 f2 f3 f4 f5 f6 f7 f8 f9 f10 f11 f12 f13 f14 f15 f16 f17 f18 f19 f20 f21 f22 f23 f24 f25 f26 f27 f28 f29 f30 f31 f32 f33 f34 f35 f36 f37 f38 f39 f40 f41 f42 f43 f44 f45 f46 f47 f48 f49 f50 f51 f52 f53 f54 f55 f56 f57 f58 f59 f60 f61 f62 f63 f64 f65 f66 f67 f68 f69 f70 f71 f72 f73 f74 f75 f76 f77 f78 f79 f80 f81 f82 f83 f84 f85 f86 f87 f88 f89 f90 f91 f92 f93 f94 f95 f96 f97 f98 f99 f100 f101 f102 f103 f104 f105 f106 f107 f108 f109 f110 f111 f112 f113 f114 f115 f116 f117 f118 f119 f120 f121 f122 f123 f124 f125 f126 f127 f128 f129 f130 f131 f132 f133 => q_252r_0 (n0 := ρ 5) (n1 := ρ 4) (n2 := ρ 3) (n3 := ρ 2) (n4 := ρ 1) (n5 := ρ 0) (n6 := ρ 6) (n7 := ρ 7) (n8 := ρ 8) (n9 := ρ 9) (n10 := ρ 10) (n11 := ρ 11) (n12 := ρ 12) (n13 := ρ 13) (n14 := ρ 14) (n15 := ρ 15) (n16 := ρ 16) (n17 := ρ 17) (n18 := ρ 18) (n19 := ρ 19) (n20 := ρ 20) (n21 := ρ 21) (n22 := ρ 22) (n23 := ρ 23) (n24 := ρ 24) (n25 := ρ 25) (n26 := ρ 26) (n27 := ρ 27) (n28 := ρ 28) (n29 := ρ 29) (n30 := ρ 30) (n31 := ρ 31) (n32 := ρ 32) (n33 := ρ 33) (n34 := ρ 34) (n35 := ρ 35) (n36 := ρ 36) (n37 := ρ 37) (n38 := ρ 38) (n39 := ρ 39) (n40 := ρ 40) (n41 := ρ 41) (H0 := η 0) (H1 := η 1) (H2 := η 2) (H3 := η 3) (H4 := η 4) (H5 := η 5) (H6 := η 6) (H7 := η 7) (H8 := η 8) (H9 := η 9) (H10 := η 10) (H11 := η 11) (H12 := η 12) f133 f132 f131 f130 f129 f128 f127 f126 f125 f124 f123 f122 f121 f120 f119 f118 f117 f116 f115 f114 f113 f112 f111 f110 f109 f108 f107 f106 f105 f104 f103 f102 f101 f100 f99 f98 f97 f96 f95 f94 f93 f92 f91 f90 f89 f88 f87 f86 f85 f84 f83 f82 f81 f80 f79 f78 f77 f76 f75 f74 f73 f72 f71 f70 f69 f68 f67 f66 f65 f64 f63 f62 f61 f60 f59 f58 f57 f56 f55 f54 f53 f52 f51 f50 f49 f48 f47 f46 f45 f44 f43 f42 f41 f40 f39 f38 f37 f36 f35 f34 f33 f32 f31 f30 f29 f28 f27 f26 f25 f24 f23 f22 f21 f20 f19 f18 f17 f16 f15 f14 f13 f12 f11 f10 f9 f8 f7 f6 f5 f4 f3 f2 f1 f0
def p_252r_s : List vG := [g_252r_s_0]
theorem r_252r_s : vCovBO (eR0 e_252 L_252 cs_252 2000) p_252r_s = true := by decide +kernel
theorem m_252r (d : Nat) : eC e_252r (d + 1) := eC_ref (e := e_252) (L := L_252) (L' := L_252r) (cs := cs_252) (n := 2000) (d := d + 0) (A := A_252) (μ := mu_252) (tp := false) (p0 := p_252_s) (p1 := p_252r_s) (N := nr_252) (B := Br_252) rfl trivial rfl (.inl rfl) (by decide +kernel) (fun z => nomatch z) r_252_s (allC c_252_s_0 (allC c_252_s_1 (allC c_252_s_2 (allC c_252_s_3 (allC c_252_s_4 (allC c_252_s_5 (allC c_252_s_6 (allC c_252_s_7 (allC c_252_s_8 (allC c_252_s_9 (allC c_252_s_10 (allC c_252_s_11 (allC c_252_s_12 (allC c_252_s_13 (allC c_252_s_14 allN))))))))))))))) allN trivial r_252r_s (allC c_252r_s_0 allN) allN
/- MixStageModel.trim (III)I, more fully -/
def nbr_254 (r a0 a1 a2 a3 : Int) (h0 h : gH) : Prop := RAD r a1 h0 h
def nr_254 : List Int → gH → gH → Prop := fun xs h0 h => match xs with
  | [r, a0, a1, a2, a3] => nbr_254 r a0 a1 a2 a3 h0 h
  | _ => True
noncomputable def e_254r : vE := eV e_254 nr_254
noncomputable def L_254r : List vE := [e_250, e_252r]
def Br_254 : Int → List Int → gH → gH → Prop := fun c xs h0 h => True
theorem q_254r_0 {n0 n1 n2 n3 n4 n5 n6 : Int} {H0 : gH} (f0 : n0 ≤ 2147483647) (f1 : (-2147483648) ≤ n0) (f2 : n1 ≤ 2147483647) (f3 : (-2147483648) ≤ n1) (f4 : n2 ≤ 2147483647) (f5 : (-2147483648) ≤ n2) (f6 : n3 = 285) (f7 : hWt T0 H0 ∧ preb_254 n3 n2 n1 n0 H0) (f8 : n4 ≤ 20) (f9 : 0 ≤ n4) (f10 : hK H0 (n3).toNat = 12) (f11 : n4 = hV H0 (n3).toNat 64) (f12 : n5 = 20) (f13 : n4 = n5) (f14 : n6 = (-1)) : nbr_254 n6 n3 n2 n1 n0 H0 H0 := by
  unfold nbr_254
  have c6 := f6
  have c12 := f12
  have c14 := f14
  exact .inl ⟨by omega, rfl, rfl⟩
def g_254r_s_0 : vG := ([(0, [6], [], -1), (40, [4, 5], [], 0), (0, [5], [], 20), (20, [4, 0], [0], 64), (23, [0], [0], 12), (90, [4], [], 0), (91, [4], [], 20), (6000, [0, 1, 2, 3], [0], 0), (0, [0], [], 285), (90, [1], [], -2147483648), (91, [1], [], 2147483647), (90, [2], [], -2147483648), (91, [2], [], 2147483647), (90, [3], [], -2147483648), (91, [3], [], 2147483647)], (3000, [6], [0], 46))
theorem c_254r_s_0 : vOkm T0 (eN e_254 L_254r A_254 mu_254 nr_254 Br_254 none) 4 g_254r_s_0 := vOk_inI fun ρ η f0 f1 f2 f3 f4 f5 f6 f7 f8 f9 f10 f11 f12 f13 f14 => q_254r_0 (n0 := ρ 3) (n1 := ρ 2) (n2 := ρ 1) (n3 := ρ 0) (n4 := ρ 4) (n5 := ρ 5) (n6 := ρ 6) (H0 := η 0) f14 f13 f12 f11 f10 f9 f8 f7 f6 f5 f4 f3 f2 f1 f0
theorem q_254r_1 {n0 n1 n2 n3 n4 n5 n6 n7 : Int} {H0 H1 : gH} (f0 : n0 ≤ 2147483647) (f1 : (-2147483648) ≤ n0) (f2 : n1 ≤ 2147483647) (f3 : (-2147483648) ≤ n1) (f4 : n2 ≤ 2147483647) (f5 : (-2147483648) ≤ n2) (f6 : n3 = 285) (f7 : hWt T0 H0 ∧ preb_254 n3 n2 n1 n0 H0) (f8 : n4 ≤ 20) (f9 : 0 ≤ n4) (f10 : hK H0 (n3).toNat = 12) (f11 : n4 = hV H0 (n3).toNat 64) (f12 : n5 = 20) (f13 : n4 ≠ n5) (f14 : n6 ≤ 1) (f15 : 0 ≤ n6) (f16 : (hLe T0 H0 H1 ∧ hFr s_250.2.2.2.2 H0 H1 ∧ ((0 : Int) = 0 → H1.length = H0.length) ∧ hWt T0 H1) ∧ postb_250 n6 n3 n2 H0 H1) (f17 : n6 = 0) (f18 : n7 = (-1)) : nbr_254 n7 n3 n2 n1 n0 H0 H1 := by
  unfold nbr_254
  have c6 := f6
  have c12 := f12
  have c18 := f18
  exact .inl ⟨by omega, fRow f16.1.2.1 332 (by decide +kernel), fRow f16.1.2.1 335 (by decide +kernel)⟩
def g_254r_s_1 : vG := ([(0, [7], [], -1), (30, [6], [], 0), (1250, [6, 0, 1], [0, 1], 0), (90, [6], [], 0), (91, [6], [], 1), (41, [4, 5], [], 0), (0, [5], [], 20), (20, [4, 0], [0], 64), (23, [0], [0], 12), (90, [4], [], 0), (91, [4], [], 20), (6000, [0, 1, 2, 3], [0], 0), (0, [0], [], 285), (90, [1], [], -2147483648), (91, [1], [], 2147483647), (90, [2], [], -2147483648), (91, [2], [], 2147483647), (90, [3], [], -2147483648), (91, [3], [], 2147483647)], (3000, [7], [1], 46))
theorem c_254r_s_1 : vOkm T0 (eN e_254 L_254r A_254 mu_254 nr_254 Br_254 none) 4 g_254r_s_1 := vOk_inI fun ρ η f0 f1 f2 f3 f4 f5 f6 f7 f8 f9 f10 f11 f12 f13 f14 f15 f16 f17 f18 => q_254r_1 (n0 := ρ 3) (n1 := ρ 2) (n2 := ρ 1) (n3 := ρ 0) (n4 := ρ 4) (n5 := ρ 5) (n6 := ρ 6) (n7 := ρ 7) (H0 := η 0) (H1 := η 1) f18 f17 f16 f15 f14 f13 f12 f11 f10 f9 f8 f7 f6 f5 f4 f3 f2 f1 f0
theorem q_254r_2 {n0 n1 n2 n3 n4 n5 n6 n7 : Int} {H0 H1 : gH} (f0 : n0 ≤ 2147483647) (f1 : (-2147483648) ≤ n0) (f2 : n1 ≤ 2147483647) (f3 : (-2147483648) ≤ n1) (f4 : n2 ≤ 2147483647) (f5 : (-2147483648) ≤ n2) (f6 : n3 = 285) (f7 : hWt T0 H0 ∧ preb_254 n3 n2 n1 n0 H0) (f8 : n4 ≤ 20) (f9 : 0 ≤ n4) (f10 : hK H0 (n3).toNat = 12) (f11 : n4 = hV H0 (n3).toNat 64) (f12 : n5 = 20) (f13 : n4 ≠ n5) (f14 : n6 ≤ 1) (f15 : 0 ≤ n6) (f16 : (hLe T0 H0 H1 ∧ hFr s_250.2.2.2.2 H0 H1 ∧ ((0 : Int) = 0 → H1.length = H0.length) ∧ hWt T0 H1) ∧ postb_250 n6 n3 n2 H0 H1) (f17 : n6 ≠ 0) (f18 : n1 < 0) (f19 : n7 = (-1)) : nbr_254 n7 n3 n2 n1 n0 H0 H1 := by
  unfold nbr_254
  have c6 := f6
  have c12 := f12
  have c19 := f19
  exact .inl ⟨by omega, fRow f16.1.2.1 332 (by decide +kernel), fRow f16.1.2.1 335 (by decide +kernel)⟩
def g_254r_s_2 : vG := ([(0, [7], [], -1), (32, [2], [], 0), (31, [6], [], 0), (1250, [6, 0, 1], [0, 1], 0), (90, [6], [], 0), (91, [6], [], 1), (41, [4, 5], [], 0), (0, [5], [], 20), (20, [4, 0], [0], 64), (23, [0], [0], 12), (90, [4], [], 0), (91, [4], [], 20), (6000, [0, 1, 2, 3], [0], 0), (0, [0], [], 285), (90, [1], [], -2147483648), (91, [1], [], 2147483647), (90, [2], [], -2147483648), (91, [2], [], 2147483647), (90, [3], [], -2147483648), (91, [3], [], 2147483647)], (3000, [7], [1], 46))
theorem c_254r_s_2 : vOkm T0 (eN e_254 L_254r A_254 mu_254 nr_254 Br_254 none) 4 g_254r_s_2 := vOk_inI fun ρ η f0 f1 f2 f3 f4 f5 f6 f7 f8 f9 f10 f11 f12 f13 f14 f15 f16 f17 f18 f19 => q_254r_2 (n0 := ρ 3) (n1 := ρ 2) (n2 := ρ 1) (n3 := ρ 0) (n4 := ρ 4) (n5 := ρ 5) (n6 := ρ 6) (n7 := ρ 7) (H0 := η 0) (H1 := η 1) f19 f18 f17 f16 f15 f14 f13 f12 f11 f10 f9 f8 f7 f6 f5 f4 f3 f2 f1 f0
theorem q_254r_3 {n0 n1 n2 n3 n4 n5 n6 n7 : Int} {H0 H1 : gH} (f0 : n0 ≤ 2147483647) (f1 : (-2147483648) ≤ n0) (f2 : n1 ≤ 2147483647) (f3 : (-2147483648) ≤ n1) (f4 : n2 ≤ 2147483647) (f5 : (-2147483648) ≤ n2) (f6 : n3 = 285) (f7 : hWt T0 H0 ∧ preb_254 n3 n2 n1 n0 H0) (f8 : n4 ≤ 20) (f9 : 0 ≤ n4) (f10 : hK H0 (n3).toNat = 12) (f11 : n4 = hV H0 (n3).toNat 64) (f12 : n5 = 20) (f13 : n4 ≠ n5) (f14 : n6 ≤ 1) (f15 : 0 ≤ n6) (f16 : (hLe T0 H0 H1 ∧ hFr s_250.2.2.2.2 H0 H1 ∧ ((0 : Int) = 0 → H1.length = H0.length) ∧ hWt T0 H1) ∧ postb_250 n6 n3 n2 H0 H1) (f17 : n6 ≠ 0) (f18 : 0 ≤ n1) (f19 : n0 ≤ n1) (f20 : n7 = (-1)) : nbr_254 n7 n3 n2 n1 n0 H0 H1 := by
  unfold nbr_254
  have c6 := f6
  have c12 := f12
  have c20 := f20
  exact .inl ⟨by omega, fRow f16.1.2.1 332 (by decide +kernel), fRow f16.1.2.1 335 (by decide +kernel)⟩
def g_254r_s_3 : vG := ([(0, [7], [], -1), (43, [2, 3], [], 0), (33, [2], [], 0), (31, [6], [], 0), (1250, [6, 0, 1], [0, 1], 0), (90, [6], [], 0), (91, [6], [], 1), (41, [4, 5], [], 0), (0, [5], [], 20), (20, [4, 0], [0], 64), (23, [0], [0], 12), (90, [4], [], 0), (91, [4], [], 20), (6000, [0, 1, 2, 3], [0], 0), (0, [0], [], 285), (90, [1], [], -2147483648), (91, [1], [], 2147483647), (90, [2], [], -2147483648), (91, [2], [], 2147483647), (90, [3], [], -2147483648), (91, [3], [], 2147483647)], (3000, [7], [1], 46))
theorem c_254r_s_3 : vOkm T0 (eN e_254 L_254r A_254 mu_254 nr_254 Br_254 none) 4 g_254r_s_3 := vOk_inI fun ρ η f0 f1 f2 f3 f4 f5 f6 f7 f8 f9 f10 f11 f12 f13 f14 f15 f16 f17 f18 f19 f20 => q_254r_3 (n0 := ρ 3) (n1 := ρ 2) (n2 := ρ 1) (n3 := ρ 0) (n4 := ρ 4) (n5 := ρ 5) (n6 := ρ 6) (n7 := ρ 7) (H0 := η 0) (H1 := η 1) f20 f19 f18 f17 f16 f15 f14 f13 f12 f11 f10 f9 f8 f7 f6 f5 f4 f3 f2 f1 f0
theorem q_254r_4 {n0 n1 n2 n3 n4 n5 n6 n7 n8 n9 n10 : Int} {H0 H1 H2 : gH} (f0 : n0 ≤ 2147483647) (f1 : (-2147483648) ≤ n0) (f2 : n1 ≤ 2147483647) (f3 : (-2147483648) ≤ n1) (f4 : n2 ≤ 2147483647) (f5 : (-2147483648) ≤ n2) (f6 : n3 = 285) (f7 : hWt T0 H0 ∧ preb_254 n3 n2 n1 n0 H0) (f8 : n4 ≤ 20) (f9 : 0 ≤ n4) (f10 : hK H0 (n3).toNat = 12) (f11 : n4 = hV H0 (n3).toNat 64) (f12 : n5 = 20) (f13 : n4 ≠ n5) (f14 : n6 ≤ 1) (f15 : 0 ≤ n6) (f16 : (hLe T0 H0 H1 ∧ hFr s_250.2.2.2.2 H0 H1 ∧ ((0 : Int) = 0 → H1.length = H0.length) ∧ hWt T0 H1) ∧ postb_250 n6 n3 n2 H0 H1) (f17 : n6 ≠ 0) (f18 : 0 ≤ n1) (f19 : n1 < n0) (f20 : n7 = 240) (f21 : n0 ≤ n7) (f22 : n8 = 4) (f23 : n9 = 0) (f24 : n10 ≤ 2147483647) (f25 : (-2147483648) ≤ n10) (f26 : (hLe T0 H1 H2 ∧ hFr s_252.2.2.2.2 H1 H2 ∧ ((0 : Int) = 0 → H2.length = H1.length) ∧ hWt T0 H2) ∧ (postb_252 n10 n3 n8 n9 n1 n0 n2 H1 H2 ∧ nbr_252 n10 n3 n8 n9 n1 n0 n2 H1 H2)) : nbr_254 n10 n3 n2 n1 n0 H0 H2 := by
  unfold nbr_254
  have c6 := f6
  have c12 := f12
  have c20 := f20
  have c22 := f22
  have c23 := f23
  have q := f26.2.2
  unfold nbr_252 RAD at q
  rw [show hV H1 332 = hV H0 332 from fRow f16.1.2.1 332 (by decide +kernel)] at q
  rw [show hV H1 335 = hV H0 335 from fRow f16.1.2.1 335 (by decide +kernel)] at q
  rw [show hV H1 285 64 = hV H0 285 64 from f16.1.2.1.1 285 64 (by decide +kernel)] at q
  exact q
def g_254r_s_4 : vG := ([(1252, [10, 0, 8, 9, 2, 3, 1], [1, 2], 0), (90, [10], [], -2147483648), (91, [10], [], 2147483647), (0, [9], [], 0), (0, [8], [], 4), (45, [3, 7], [], 0), (0, [7], [], 240), (42, [2, 3], [], 0), (33, [2], [], 0), (31, [6], [], 0), (1250, [6, 0, 1], [0, 1], 0), (90, [6], [], 0), (91, [6], [], 1), (41, [4, 5], [], 0), (0, [5], [], 20), (20, [4, 0], [0], 64), (23, [0], [0], 12), (90, [4], [], 0), (91, [4], [], 20), (6000, [0, 1, 2, 3], [0], 0), (0, [0], [], 285), (90, [1], [], -2147483648), (91, [1], [], 2147483647), (90, [2], [], -2147483648), (91, [2], [], 2147483647), (90, [3], [], -2147483648), (91, [3], [], 2147483647)], (3000, [10], [2], 46))
theorem c_254r_s_4 : vOkm T0 (eN e_254 L_254r A_254 mu_254 nr_254 Br_254 none) 4 g_254r_s_4 := vOk_inI fun ρ η f0 f1 f2 f3 f4 f5 f6 f7 f8 f9 f10 f11 f12 f13 f14 f15 f16 f17 f18 f19 f20 f21 f22 f23 f24 f25 f26 => q_254r_4 (n0 := ρ 3) (n1 := ρ 2) (n2 := ρ 1) (n3 := ρ 0) (n4 := ρ 4) (n5 := ρ 5) (n6 := ρ 6) (n7 := ρ 7) (n8 := ρ 8) (n9 := ρ 9) (n10 := ρ 10) (H0 := η 0) (H1 := η 1) (H2 := η 2) f26 f25 f24 f23 f22 f21 f20 f19 f18 f17 f16 f15 f14 f13 f12 f11 f10 f9 f8 f7 f6 f5 f4 f3 f2 f1 f0
theorem q_254r_5 {n0 n1 n2 n3 n4 n5 n6 n7 n8 : Int} {H0 H1 : gH} (f0 : n0 ≤ 2147483647) (f1 : (-2147483648) ≤ n0) (f2 : n1 ≤ 2147483647) (f3 : (-2147483648) ≤ n1) (f4 : n2 ≤ 2147483647) (f5 : (-2147483648) ≤ n2) (f6 : n3 = 285) (f7 : hWt T0 H0 ∧ preb_254 n3 n2 n1 n0 H0) (f8 : n4 ≤ 20) (f9 : 0 ≤ n4) (f10 : hK H0 (n3).toNat = 12) (f11 : n4 = hV H0 (n3).toNat 64) (f12 : n5 = 20) (f13 : n4 ≠ n5) (f14 : n6 ≤ 1) (f15 : 0 ≤ n6) (f16 : (hLe T0 H0 H1 ∧ hFr s_250.2.2.2.2 H0 H1 ∧ ((0 : Int) = 0 → H1.length = H0.length) ∧ hWt T0 H1) ∧ postb_250 n6 n3 n2 H0 H1) (f17 : n6 ≠ 0) (f18 : 0 ≤ n1) (f19 : n1 < n0) (f20 : n7 = 240) (f21 : n7 < n0) (f22 : n8 = (-1)) : nbr_254 n8 n3 n2 n1 n0 H0 H1 := by
  unfold nbr_254
  have c6 := f6
  have c12 := f12
  have c20 := f20
  have c22 := f22
  exact .inl ⟨by omega, fRow f16.1.2.1 332 (by decide +kernel), fRow f16.1.2.1 335 (by decide +kernel)⟩
def g_254r_s_5 : vG := ([(0, [8], [], -1), (44, [3, 7], [], 0), (0, [7], [], 240), (42, [2, 3], [], 0), (33, [2], [], 0), (31, [6], [], 0), (1250, [6, 0, 1], [0, 1], 0), (90, [6], [], 0), (91, [6], [], 1), (41, [4, 5], [], 0), (0, [5], [], 20), (20, [4, 0], [0], 64), (23, [0], [0], 12), (90, [4], [], 0), (91, [4], [], 20), (6000, [0, 1, 2, 3], [0], 0), (0, [0], [], 285), (90, [1], [], -2147483648), (91, [1], [], 2147483647), (90, [2], [], -2147483648), (91, [2], [], 2147483647), (90, [3], [], -2147483648), (91, [3], [], 2147483647)], (3000, [8], [1], 46))
theorem c_254r_s_5 : vOkm T0 (eN e_254 L_254r A_254 mu_254 nr_254 Br_254 none) 4 g_254r_s_5 := vOk_inI fun ρ η f0 f1 f2 f3 f4 f5 f6 f7 f8 f9 f10 f11 f12 f13 f14 f15 f16 f17 f18 f19 f20 f21 f22 => q_254r_5 (n0 := ρ 3) (n1 := ρ 2) (n2 := ρ 1) (n3 := ρ 0) (n4 := ρ 4) (n5 := ρ 5) (n6 := ρ 6) (n7 := ρ 7) (n8 := ρ 8) (H0 := η 0) (H1 := η 1) f22 f21 f20 f19 f18 f17 f16 f15 f14 f13 f12 f11 f10 f9 f8 f7 f6 f5 f4 f3 f2 f1 f0
def p_254r_s : List vG := [g_254r_s_0,
  g_254r_s_1,
  g_254r_s_2,
  g_254r_s_3,
  g_254r_s_4,
  g_254r_s_5]
theorem r_254r_s : vCovBO (eR0 e_254 L_254 cs_254 2000) p_254r_s = true := by decide +kernel
theorem m_254r (d : Nat) : eC e_254r (d + 2) := eC_ref (e := e_254) (L := L_254) (L' := L_254r) (cs := cs_254) (n := 2000) (d := d + 1) (A := A_254) (μ := mu_254) (tp := false) (p0 := p_254_s) (p1 := p_254r_s) (N := nr_254) (B := Br_254) rfl ⟨m_250 d, ⟨m_252r d, trivial⟩⟩ rfl (.inl rfl) (by decide +kernel) (fun z => nomatch z) r_254_s (allC c_254_s_0 (allC c_254_s_1 (allC c_254_s_2 (allC c_254_s_3 (allC c_254_s_4 (allC c_254_s_5 (allC c_254_s_6 (allC c_254_s_7 (allC c_254_s_8 allN))))))))) allN (sub0 (sub1 trivial)) r_254r_s (allC c_254r_s_0 (allC c_254r_s_1 (allC c_254r_s_2 (allC c_254r_s_3 (allC c_254r_s_4 (allC c_254r_s_5 allN)))))) allN
/- MixStageModel.mute (I)I, more fully -/
def nbr_255 (r a0 a1 : Int) (h0 h : gH) : Prop := RAD r a1 h0 h
def nr_255 : List Int → gH → gH → Prop := fun xs h0 h => match xs with
  | [r, a0, a1] => nbr_255 r a0 a1 h0 h
  | _ => True
noncomputable def e_255r : vE := eV e_255 nr_255
noncomputable def L_255r : List vE := [e_250, e_252r]
def Br_255 : Int → List Int → gH → gH → Prop := fun c xs h0 h => True
theorem q_255r_0 {n0 n1 n2 n3 n4 : Int} {H0 : gH} (f0 : n0 ≤ 2147483647) (f1 : (-2147483648) ≤ n0) (f2 : n1 = 285) (f3 : hWt T0 H0 ∧ preb_255 n1 n0 H0) (f4 : n2 ≤ 20) (f5 : 0 ≤ n2) (f6 : hK H0 (n1).toNat = 12) (f7 : n2 = hV H0 (n1).toNat 64) (f8 : n3 = 20) (f9 : n2 = n3) (f10 : n4 = (-1)) : nbr_255 n4 n1 n0 H0 H0 := by
  unfold nbr_255
  have c2 := f2
  have c8 := f8
  have c10 := f10
  exact .inl ⟨by omega, rfl, rfl⟩
def g_255r_s_0 : vG := ([(0, [4], [], -1), (40, [2, 3], [], 0), (0, [3], [], 20), (20, [2, 0], [0], 64), (23, [0], [0], 12), (90, [2], [], 0), (91, [2], [], 20), (6000, [0, 1], [0], 0), (0, [0], [], 285), (90, [1], [], -2147483648), (91, [1], [], 2147483647)], (3000, [4], [0], 40))
theorem c_255r_s_0 : vOkm T0 (eN e_255 L_255r A_255 mu_255 nr_255 Br_255 none) 2 g_255r_s_0 := vOk_inI fun ρ η f0 f1 f2 f3 f4 f5 f6 f7 f8 f9 f10 => q_255r_0 (n0 := ρ 1) (n1 := ρ 0) (n2 := ρ 2) (n3 := ρ 3) (n4 := ρ 4) (H0 := η 0) f10 f9 f8 f7 f6 f5 f4 f3 f2 f1 f0
theorem q_255r_1 {n0 n1 n2 n3 n4 n5 : Int} {H0 H1 : gH} (f0 : n0 ≤ 2147483647) (f1 : (-2147483648) ≤ n0) (f2 : n1 = 285) (f3 : hWt T0 H0 ∧ preb_255 n1 n0 H0) (f4 : n2 ≤ 20) (f5 : 0 ≤ n2) (f6 : hK H0 (n1).toNat = 12) (f7 : n2 = hV H0 (n1).toNat 64) (f8 : n3 = 20) (f9 : n2 ≠ n3) (f10 : n4 ≤ 1) (f11 : 0 ≤ n4) (f12 : (hLe T0 H0 H1 ∧ hFr s_250.2.2.2.2 H0 H1 ∧ ((0 : Int) = 0 → H1.length = H0.length) ∧ hWt T0 H1) ∧ postb_250 n4 n1 n0 H0 H1) (f13 : n4 = 0) (f14 : n5 = (-1)) : nbr_255 n5 n1 n0 H0 H1 := by
  unfold nbr_255
  have c2 := f2
  have c8 := f8
  have c14 := f14
  exact .inl ⟨by omega, fRow f12.1.2.1 332 (by decide +kernel), fRow f12.1.2.1 335 (by decide +kernel)⟩
def g_255r_s_1 : vG := ([(0, [5], [], -1), (30, [4], [], 0), (1250, [4, 0, 1], [0, 1], 0), (90, [4], [], 0), (91, [4], [], 1), (41, [2, 3], [], 0), (0, [3], [], 20), (20, [2, 0], [0], 64), (23, [0], [0], 12), (90, [2], [], 0), (91, [2], [], 20), (6000, [0, 1], [0], 0), (0, [0], [], 285), (90, [1], [], -2147483648), (91, [1], [], 2147483647)], (3000, [5], [1], 40))
theorem c_255r_s_1 : vOkm T0 (eN e_255 L_255r A_255 mu_255 nr_255 Br_255 none) 2 g_255r_s_1 := vOk_inI fun ρ η f0 f1 f2 f3 f4 f5 f6 f7 f8 f9 f10 f11 f12 f13 f14 => q_255r_1 (n0 := ρ 1) (n1 := ρ 0) (n2 := ρ 2) (n3 := ρ 3) (n4 := ρ 4) (n5 := ρ 5) (H0 := η 0) (H1 := η 1) f14 f13 f12 f11 f10 f9 f8 f7 f6 f5 f4 f3 f2 f1 f0
theorem q_255r_2 {n0 n1 n2 n3 n4 n5 n6 n7 n8 n9 n10 n11 n12 : Int} {H0 H1 H2 : gH} (f0 : n0 ≤ 2147483647) (f1 : (-2147483648) ≤ n0) (f2 : n1 = 285) (f3 : hWt T0 H0 ∧ preb_255 n1 n0 H0) (f4 : n2 ≤ 20) (f5 : 0 ≤ n2) (f6 : hK H0 (n1).toNat = 12) (f7 : n2 = hV H0 (n1).toNat 64) (f8 : n3 = 20) (f9 : n2 ≠ n3) (f10 : n4 ≤ 1) (f11 : 0 ≤ n4) (f12 : (hLe T0 H0 H1 ∧ hFr s_250.2.2.2.2 H0 H1 ∧ ((0 : Int) = 0 → H1.length = H0.length) ∧ hWt T0 H1) ∧ postb_250 n4 n1 n0 H0 H1) (f13 : n4 ≠ 0) (f14 : n5 = 328) (f15 : hK H1 (n1).toNat = 12) (f16 : n5 = hV H1 (n1).toNat 66) (f17 : n6 ≤ 6) (f18 : 0 ≤ n6) (f19 : n6 = hV H1 (n5).toNat (n0).toNat) (f20 : n7 = 2) (f21 : n6 = n7) (f22 : n8 = 5) (f23 : n9 = 0) (f24 : n10 = 0) (f25 : n11 = 0) (f26 : n12 ≤ 2147483647) (f27 : (-2147483648) ≤ n12) (f28 : (hLe T0 H1 H2 ∧ hFr s_252.2.2.2.2 H1 H2 ∧ ((0 : Int) = 0 → H2.length = H1.length) ∧ hWt T0 H2) ∧ (postb_252 n12 n1 n8 n9 n10 n11 n0 H1 H2 ∧ nbr_252 n12 n1 n8 n9 n10 n11 n0 H1 H2)) : nbr_255 n12 n1 n0 H0 H2 := by
  unfold nbr_255
  have c2 := f2
  have c8 := f8
  have c14 := f14
  have c20 := f20
  have c22 := f22
  have c23 := f23
  have c24 := f24
  have c25 := f25
  have q := f28.2.2
  unfold nbr_252 RAD at q
  rw [show hV H1 332 = hV H0 332 from fRow f12.1.2.1 332 (by decide +kernel)] at q
  rw [show hV H1 335 = hV H0 335 from fRow f12.1.2.1 335 (by decide +kernel)] at q
  rw [show hV H1 285 64 = hV H0 285 64 from f12.1.2.1.1 285 64 (by decide +kernel)] at q
  exact q
def g_255r_s_2 : vG := ([(1252, [12, 0, 8, 9, 10, 11, 1], [1, 2], 0), (90, [12], [], -2147483648), (91, [12], [], 2147483647), (0, [11], [], 0), (0, [10], [], 0), (0, [9], [], 0), (0, [8], [], 5), (40, [6, 7], [], 0), (0, [7], [], 2), (22, [6, 5, 1], [1], 0), (90, [6], [], 0), (91, [6], [], 6), (20, [5, 0], [1], 66), (23, [0], [1], 12), (0, [5], [], 328), (31, [4], [], 0), (1250, [4, 0, 1], [0, 1], 0), (90, [4], [], 0), (91, [4], [], 1), (41, [2, 3], [], 0), (0, [3], [], 20), (20, [2, 0], [0], 64), (23, [0], [0], 12), (90, [2], [], 0), (91, [2], [], 20), (6000, [0, 1], [0], 0), (0, [0], [], 285), (90, [1], [], -2147483648), (91, [1], [], 2147483647)], (3000, [12], [2], 40))
theorem c_255r_s_2 : vOkm T0 (eN e_255 L_255r A_255 mu_255 nr_255 Br_255 none) 2 g_255r_s_2 := vOk_inI fun ρ η f0 f1 f2 f3 f4 f5 f6 f7 f8 f9 f10 f11 f12 f13 f14 f15 f16 f17 f18 f19 f20 f21 f22 f23 f24 f25 f26 f27 f28 => q_255r_2 (n0 := ρ 1) (n1 := ρ 0) (n2 := ρ 2) (n3 := ρ 3) (n4 := ρ 4) (n5 := ρ 5) (n6 := ρ 6) (n7 := ρ 7) (n8 := ρ 8) (n9 := ρ 9) (n10 := ρ 10) (n11 := ρ 11) (n12 := ρ 12) (H0 := η 0) (H1 := η 1) (H2 := η 2) f28 f27 f26 f25 f24 f23 f22 f21 f20 f19 f18 f17 f16 f15 f14 f13 f12 f11 f10 f9 f8 f7 f6 f5 f4 f3 f2 f1 f0
theorem q_255r_3 {n0 n1 n2 n3 n4 n5 n6 n7 n8 : Int} {H0 H1 : gH} (f0 : n0 ≤ 2147483647) (f1 : (-2147483648) ≤ n0) (f2 : n1 = 285) (f3 : hWt T0 H0 ∧ preb_255 n1 n0 H0) (f4 : n2 ≤ 20) (f5 : 0 ≤ n2) (f6 : hK H0 (n1).toNat = 12) (f7 : n2 = hV H0 (n1).toNat 64) (f8 : n3 = 20) (f9 : n2 ≠ n3) (f10 : n4 ≤ 1) (f11 : 0 ≤ n4) (f12 : (hLe T0 H0 H1 ∧ hFr s_250.2.2.2.2 H0 H1 ∧ ((0 : Int) = 0 → H1.length = H0.length) ∧ hWt T0 H1) ∧ postb_250 n4 n1 n0 H0 H1) (f13 : n4 ≠ 0) (f14 : n5 = 328) (f15 : hK H1 (n1).toNat = 12) (f16 : n5 = hV H1 (n1).toNat 66) (f17 : n6 ≤ 6) (f18 : 0 ≤ n6) (f19 : n6 = hV H1 (n5).toNat (n0).toNat) (f20 : n7 = 2) (f21 : n6 ≠ n7) (f22 : n8 = (-1)) : nbr_255 n8 n1 n0 H0 H1 := by
  unfold nbr_255
  have c2 := f2
  have c8 := f8
  have c14 := f14
  have c20 := f20
  have c22 := f22
  exact .inl ⟨by omega, fRow f12.1.2.1 332 (by decide +kernel), fRow f12.1.2.1 335 (by decide +kernel)⟩
def g_255r_s_3 : vG := ([(0, [8], [], -1), (41, [6, 7], [], 0), (0, [7], [], 2), (22, [6, 5, 1], [1], 0), (90, [6], [], 0), (91, [6], [], 6), (20, [5, 0], [1], 66), (23, [0], [1], 12), (0, [5], [], 328), (31, [4], [], 0), (1250, [4, 0, 1], [0, 1], 0), (90, [4], [], 0), (91, [4], [], 1), (41, [2, 3], [], 0), (0, [3], [], 20), (20, [2, 0], [0], 64), (23, [0], [0], 12), (90, [2], [], 0), (91, [2], [], 20), (6000, [0, 1], [0], 0), (0, [0], [], 285), (90, [1], [], -2147483648), (91, [1], [], 2147483647)], (3000, [8], [1], 40))
theorem c_255r_s_3 : vOkm T0 (eN e_255 L_255r A_255 mu_255 nr_255 Br_255 none) 2 g_255r_s_3 := vOk_inI fun ρ η f0 f1 f2 f3 f4 f5 f6 f7 f8 f9 f10 f11 f12 f13 f14 f15 f16 f17 f18 f19 f20 f21 f22 => q_255r_3 (n0 := ρ 1) (n1 := ρ 0) (n2 := ρ 2) (n3 := ρ 3) (n4 := ρ 4) (n5 := ρ 5) (n6 := ρ 6) (n7 := ρ 7) (n8 := ρ 8) (H0 := η 0) (H1 := η 1) f22 f21 f20 f19 f18 f17 f16 f15 f14 f13 f12 f11 f10 f9 f8 f7 f6 f5 f4 f3 f2 f1 f0
def p_255r_s : List vG := [g_255r_s_0,
  g_255r_s_1,
  g_255r_s_2,
  g_255r_s_3]
theorem r_255r_s : vCovBO (eR0 e_255 L_255 cs_255 2000) p_255r_s = true := by decide +kernel
theorem m_255r (d : Nat) : eC e_255r (d + 2) := eC_ref (e := e_255) (L := L_255) (L' := L_255r) (cs := cs_255) (n := 2000) (d := d + 1) (A := A_255) (μ := mu_255) (tp := false) (p0 := p_255_s) (p1 := p_255r_s) (N := nr_255) (B := Br_255) rfl ⟨m_250 d, ⟨m_252r d, trivial⟩⟩ rfl (.inl rfl) (by decide +kernel) (fun z => nomatch z) r_255_s (allC c_255_s_0 (allC c_255_s_1 (allC c_255_s_2 (allC c_255_s_3 (allC c_255_s_4 (allC c_255_s_5 (allC c_255_s_6 (allC c_255_s_7 allN)))))))) allN (sub0 (sub1 trivial)) r_255r_s (allC c_255r_s_0 (allC c_255r_s_1 (allC c_255r_s_2 (allC c_255r_s_3 allN)))) allN
/- MixStageModel.mixed ()I, more fully -/
def nbr_256 (r a0 : Int) (h0 h : gH) : Prop := RAD r (-1) h0 h
def nr_256 : List Int → gH → gH → Prop := fun xs h0 h => match xs with
  | [r, a0] => nbr_256 r a0 h0 h
  | _ => True
noncomputable def e_256r : vE := eV e_256 nr_256
noncomputable def L_256r : List vE := [e_252r]
def Br_256 : Int → List Int → gH → gH → Prop := fun c xs h0 h => True
theorem q_256r_0 {n0 n1 n2 n3 n4 n5 n6 n7 n8 : Int} {H0 H1 : gH} (f0 : n0 = 285) (f1 : hWt T0 H0 ∧ preb_256 n0 H0) (f2 : n1 ≤ 20) (f3 : 0 ≤ n1) (f4 : hK H0 (n0).toNat = 12) (f5 : n1 = hV H0 (n0).toNat 64) (f6 : n2 = 20) (f7 : n1 ≠ n2) (f8 : n3 = 6) (f9 : n4 = 0) (f10 : n5 = 0) (f11 : n6 = 0) (f12 : n7 = (-1)) (f13 : n8 ≤ 2147483647) (f14 : (-2147483648) ≤ n8) (f15 : (hLe T0 H0 H1 ∧ hFr s_252.2.2.2.2 H0 H1 ∧ ((0 : Int) = 0 → H1.length = H0.length) ∧ hWt T0 H1) ∧ (postb_252 n8 n0 n3 n4 n5 n6 n7 H0 H1 ∧ nbr_252 n8 n0 n3 n4 n5 n6 n7 H0 H1)) : nbr_256 n8 n0 H0 H1 := by
  unfold nbr_256
  have c0 := f0
  have c6 := f6
  have c8 := f8
  have c9 := f9
  have c10 := f10
  have c11 := f11
  have c12 := f12
  have q := f15.2.2
  unfold nbr_252 RAD at q
  rw [show hV H0 332 = hV H0 332 from rfl] at q
  rw [show hV H0 335 = hV H0 335 from rfl] at q
  rw [show hV H0 285 64 = hV H0 285 64 from rfl] at q
  rw [f12] at q
  exact q
def g_256r_s_0 : vG := ([(1252, [8, 0, 3, 4, 5, 6, 7], [0, 1], 0), (90, [8], [], -2147483648), (91, [8], [], 2147483647), (0, [7], [], -1), (0, [6], [], 0), (0, [5], [], 0), (0, [4], [], 0), (0, [3], [], 6), (41, [1, 2], [], 0), (0, [2], [], 20), (20, [1, 0], [0], 64), (23, [0], [0], 12), (90, [1], [], 0), (91, [1], [], 20), (6000, [0], [0], 0), (0, [0], [], 285)], (3000, [8], [1], 23))
theorem c_256r_s_0 : vOkm T0 (eN e_256 L_256r A_256 mu_256 nr_256 Br_256 none) 1 g_256r_s_0 := vOk_inI fun ρ η f0 f1 f2 f3 f4 f5 f6 f7 f8 f9 f10 f11 f12 f13 f14 f15 => q_256r_0 (n0 := ρ 0) (n1 := ρ 1) (n2 := ρ 2) (n3 := ρ 3) (n4 := ρ 4) (n5 := ρ 5) (n6 := ρ 6) (n7 := ρ 7) (n8 := ρ 8) (H0 := η 0) (H1 := η 1) f15 f14 f13 f12 f11 f10 f9 f8 f7 f6 f5 f4 f3 f2 f1 f0
theorem q_256r_1 {n0 n1 n2 n3 : Int} {H0 : gH} (f0 : n0 = 285) (f1 : hWt T0 H0 ∧ preb_256 n0 H0) (f2 : n1 ≤ 20) (f3 : 0 ≤ n1) (f4 : hK H0 (n0).toNat = 12) (f5 : n1 = hV H0 (n0).toNat 64) (f6 : n2 = 20) (f7 : n1 = n2) (f8 : n3 = (-1)) : nbr_256 n3 n0 H0 H0 := by
  unfold nbr_256
  have c0 := f0
  have c6 := f6
  have c8 := f8
  exact .inl ⟨by omega, rfl, rfl⟩
def g_256r_s_1 : vG := ([(0, [3], [], -1), (40, [1, 2], [], 0), (0, [2], [], 20), (20, [1, 0], [0], 64), (23, [0], [0], 12), (90, [1], [], 0), (91, [1], [], 20), (6000, [0], [0], 0), (0, [0], [], 285)], (3000, [3], [0], 23))
theorem c_256r_s_1 : vOkm T0 (eN e_256 L_256r A_256 mu_256 nr_256 Br_256 none) 1 g_256r_s_1 := vOk_inI fun ρ η f0 f1 f2 f3 f4 f5 f6 f7 f8 => q_256r_1 (n0 := ρ 0) (n1 := ρ 1) (n2 := ρ 2) (n3 := ρ 3) (H0 := η 0) f8 f7 f6 f5 f4 f3 f2 f1 f0
def p_256r_s : List vG := [g_256r_s_0,
  g_256r_s_1]
theorem r_256r_s : vCovBO (eR0 e_256 L_256 cs_256 2000) p_256r_s = true := by decide +kernel
theorem m_256r (d : Nat) : eC e_256r (d + 2) := eC_ref (e := e_256) (L := L_256) (L' := L_256r) (cs := cs_256) (n := 2000) (d := d + 1) (A := A_256) (μ := mu_256) (tp := false) (p0 := p_256_s) (p1 := p_256r_s) (N := nr_256) (B := Br_256) rfl ⟨m_252r d, trivial⟩ rfl (.inl rfl) (by decide +kernel) (fun z => nomatch z) r_256_s (allC c_256_s_0 (allC c_256_s_1 (allC c_256_s_2 allN))) allN (sub1 trivial) r_256r_s (allC c_256r_s_0 (allC c_256r_s_1 allN)) allN
/- MixStageModel.sound (IIII)I, more fully -/
def nbr_253 (r a0 a1 a2 a3 a4 : Int) (h0 h : gH) : Prop := RAD r (-1) h0 h
def nr_253 : List Int → gH → gH → Prop := fun xs h0 h => match xs with
  | [r, a0, a1, a2, a3, a4] => nbr_253 r a0 a1 a2 a3 a4 h0 h
  | _ => True
noncomputable def e_253r : vE := eV e_253 nr_253
noncomputable def L_253r : List vE := [e_251, e_252r]
def Bbr_253_36 (a0 a1 a2 a3 a4 x0 x1 x2 x3 x4 : Int) (h0 h : gH) : Prop := hV h 332 = hV h0 332 ∧ hV h 335 = hV h0 335 ∧ hV h 285 64 = hV h0 285 64
def Bbr_253_85 (a0 a1 a2 a3 a4 x0 x1 x2 x3 x4 : Int) (h0 h : gH) : Prop := hV h 332 = hV h0 332 ∧ hV h 335 = hV h0 335 ∧ hV h 285 64 = hV h0 285 64
def Br_253 : Int → List Int → gH → gH → Prop := fun c xs h0 h => match c.toNat with
  | 36 => (match xs with
    | [a0, a1, a2, a3, a4, x0, x1, x2, x3, x4] => Bbr_253_36 a0 a1 a2 a3 a4 x0 x1 x2 x3 x4 h0 h
    | _ => False)
  | 85 => (match xs with
    | [a0, a1, a2, a3, a4, x0, x1, x2, x3, x4] => Bbr_253_85 a0 a1 a2 a3 a4 x0 x1 x2 x3 x4 h0 h
    | _ => False)
  | _ => True
theorem q_253r_0 {n0 n1 n2 n3 n4 n5 n6 n7 : Int} {H0 : gH} (f0 : n0 ≤ 2147483647) (f1 : (-2147483648) ≤ n0) (f2 : n1 ≤ 2147483647) (f3 : (-2147483648) ≤ n1) (f4 : n2 ≤ 2147483647) (f5 : (-2147483648) ≤ n2) (f6 : n3 ≤ 2147483647) (f7 : (-2147483648) ≤ n3) (f8 : n4 = 285) (f9 : hWt T0 H0 ∧ preb_253 n4 n3 n2 n1 n0 H0) (f10 : n5 ≤ 20) (f11 : 0 ≤ n5) (f12 : hK H0 (n4).toNat = 12) (f13 : n5 = hV H0 (n4).toNat 64) (f14 : n6 = 20) (f15 : n5 = n6) (f16 : n7 = (-1)) : nbr_253 n7 n4 n3 n2 n1 n0 H0 H0 := by
  unfold nbr_253
  have c8 := f8
  have c14 := f14
  have c16 := f16
  exact .inl ⟨by omega, rfl, rfl⟩
def g_253r_s_0 : vG := ([(0, [7], [], -1), (40, [5, 6], [], 0), (0, [6], [], 20), (20, [5, 0], [0], 64), (23, [0], [0], 12), (90, [5], [], 0), (91, [5], [], 20), (6000, [0, 1, 2, 3, 4], [0], 0), (0, [0], [], 285), (90, [1], [], -2147483648), (91, [1], [], 2147483647), (90, [2], [], -2147483648), (91, [2], [], 2147483647), (90, [3], [], -2147483648), (91, [3], [], 2147483647), (90, [4], [], -2147483648), (91, [4], [], 2147483647)], (3000, [7], [0], 35))
theorem c_253r_s_0 : vOkm T0 (eN e_253 L_253r A_253 mu_253 nr_253 Br_253 none) 5 g_253r_s_0 := vOk_inI fun ρ η f0 f1 f2 f3 f4 f5 f6 f7 f8 f9 f10 f11 f12 f13 f14 f15 f16 => q_253r_0 (n0 := ρ 4) (n1 := ρ 3) (n2 := ρ 2) (n3 := ρ 1) (n4 := ρ 0) (n5 := ρ 5) (n6 := ρ 6) (n7 := ρ 7) (H0 := η 0) f16 f15 f14 f13 f12 f11 f10 f9 f8 f7 f6 f5 f4 f3 f2 f1 f0
theorem q_253r_1 {n0 n1 n2 n3 n4 n5 n6 n7 n8 n9 n10 : Int} {H0 H1 : gH} (f0 : n0 ≤ 2147483647) (f1 : (-2147483648) ≤ n0) (f2 : n1 ≤ 2147483647) (f3 : (-2147483648) ≤ n1) (f4 : n2 ≤ 2147483647) (f5 : (-2147483648) ≤ n2) (f6 : n3 ≤ 2147483647) (f7 : (-2147483648) ≤ n3) (f8 : n4 = 285) (f9 : hWt T0 H0 ∧ preb_253 n4 n3 n2 n1 n0 H0) (f10 : n5 ≤ 20) (f11 : 0 ≤ n5) (f12 : hK H0 (n4).toNat = 12) (f13 : n5 = hV H0 (n4).toNat 64) (f14 : n6 = 20) (f15 : n5 ≠ n6) (f16 : n7 = 0) (f17 : n8 = 3) (f18 : n9 ≤ 1) (f19 : 0 ≤ n9) (f20 : (hLe T0 H0 H1 ∧ hFr s_251.2.2.2.2 H0 H1 ∧ ((0 : Int) = 0 → H1.length = H0.length) ∧ hWt T0 H1) ∧ postb_251 n9 n3 n7 n8 H0 H1) (f21 : n9 = 0) (f22 : n10 = (-1)) : nbr_253 n10 n4 n3 n2 n1 n0 H0 H1 := by
  unfold nbr_253
  have c8 := f8
  have c14 := f14
  have c16 := f16
  have c17 := f17
  have c22 := f22
  exact .inl ⟨by omega, fRow f20.1.2.1 332 (by decide +kernel), fRow f20.1.2.1 335 (by decide +kernel)⟩
def g_253r_s_1 : vG := ([(0, [10], [], -1), (30, [9], [], 0), (1251, [9, 1, 7, 8], [0, 1], 0), (90, [9], [], 0), (91, [9], [], 1), (0, [8], [], 3), (0, [7], [], 0), (41, [5, 6], [], 0), (0, [6], [], 20), (20, [5, 0], [0], 64), (23, [0], [0], 12), (90, [5], [], 0), (91, [5], [], 20), (6000, [0, 1, 2, 3, 4], [0], 0), (0, [0], [], 285), (90, [1], [], -2147483648), (91, [1], [], 2147483647), (90, [2], [], -2147483648), (91, [2], [], 2147483647), (90, [3], [], -2147483648), (91, [3], [], 2147483647), (90, [4], [], -2147483648), (91, [4], [], 2147483647)], (3000, [10], [1], 35))
theorem c_253r_s_1 : vOkm T0 (eN e_253 L_253r A_253 mu_253 nr_253 Br_253 none) 5 g_253r_s_1 := vOk_inI fun ρ η f0 f1 f2 f3 f4 f5 f6 f7 f8 f9 f10 f11 f12 f13 f14 f15 f16 f17 f18 f19 f20 f21 f22 => q_253r_1 (n0 := ρ 4) (n1 := ρ 3) (n2 := ρ 2) (n3 := ρ 1) (n4 := ρ 0) (n5 := ρ 5) (n6 := ρ 6) (n7 := ρ 7) (n8 := ρ 8) (n9 := ρ 9) (n10 := ρ 10) (H0 := η 0) (H1 := η 1) f22 f21 f20 f19 f18 f17 f16 f15 f14 f13 f12 f11 f10 f9 f8 f7 f6 f5 f4 f3 f2 f1 f0
theorem q_253r_2 {n0 n1 n2 n3 n4 n5 n6 n7 n8 n9 n10 : Int} {H0 H1 : gH} (f0 : n0 ≤ 2147483647) (f1 : (-2147483648) ≤ n0) (f2 : n1 ≤ 2147483647) (f3 : (-2147483648) ≤ n1) (f4 : n2 ≤ 2147483647) (f5 : (-2147483648) ≤ n2) (f6 : n3 ≤ 2147483647) (f7 : (-2147483648) ≤ n3) (f8 : n4 = 285) (f9 : hWt T0 H0 ∧ preb_253 n4 n3 n2 n1 n0 H0) (f10 : n5 ≤ 20) (f11 : 0 ≤ n5) (f12 : hK H0 (n4).toNat = 12) (f13 : n5 = hV H0 (n4).toNat 64) (f14 : n6 = 20) (f15 : n5 ≠ n6) (f16 : n7 = 0) (f17 : n8 = 3) (f18 : n9 ≤ 1) (f19 : 0 ≤ n9) (f20 : (hLe T0 H0 H1 ∧ hFr s_251.2.2.2.2 H0 H1 ∧ ((0 : Int) = 0 → H1.length = H0.length) ∧ hWt T0 H1) ∧ postb_251 n9 n3 n7 n8 H0 H1) (f21 : n9 ≠ 0) (f22 : n10 = (-1)) (f23 : n2 = n10) : Bbr_253_36 n4 n3 n2 n1 n0 n4 n3 n2 n1 n0 H0 H1 := by
  unfold Bbr_253_36
  exact ⟨fRow f20.1.2.1 332 (by decide +kernel), fRow f20.1.2.1 335 (by decide +kernel), f20.1.2.1.1 285 64 (by decide +kernel)⟩
def g_253r_s_2 : vG := ([(40, [2, 10], [], 0), (0, [10], [], -1), (31, [9], [], 0), (1251, [9, 1, 7, 8], [0, 1], 0), (90, [9], [], 0), (91, [9], [], 1), (0, [8], [], 3), (0, [7], [], 0), (41, [5, 6], [], 0), (0, [6], [], 20), (20, [5, 0], [0], 64), (23, [0], [0], 12), (90, [5], [], 0), (91, [5], [], 20), (6000, [0, 1, 2, 3, 4], [0], 0), (0, [0], [], 285), (90, [1], [], -2147483648), (91, [1], [], 2147483647), (90, [2], [], -2147483648), (91, [2], [], 2147483647), (90, [3], [], -2147483648), (91, [3], [], 2147483647), (90, [4], [], -2147483648), (91, [4], [], 2147483647)], (4000, [0, 1, 2, 3, 4], [1], 36))
theorem c_253r_s_2 : vOkm T0 (eN e_253 L_253r A_253 mu_253 nr_253 Br_253 none) 5 g_253r_s_2 := vOk_inI fun ρ η f0 f1 f2 f3 f4 f5 f6 f7 f8 f9 f10 f11 f12 f13 f14 f15 f16 f17 f18 f19 f20 f21 f22 f23 => q_253r_2 (n0 := ρ 4) (n1 := ρ 3) (n2 := ρ 2) (n3 := ρ 1) (n4 := ρ 0) (n5 := ρ 5) (n6 := ρ 6) (n7 := ρ 7) (n8 := ρ 8) (n9 := ρ 9) (n10 := ρ 10) (H0 := η 0) (H1 := η 1) f23 f22 f21 f20 f19 f18 f17 f16 f15 f14 f13 f12 f11 f10 f9 f8 f7 f6 f5 f4 f3 f2 f1 f0
theorem q_253r_3 {n0 n1 n2 n3 n4 n5 n6 n7 n8 n9 n10 n11 n12 n13 : Int} {H0 H1 H2 : gH} (f0 : n0 ≤ 2147483647) (f1 : (-2147483648) ≤ n0) (f2 : n1 ≤ 2147483647) (f3 : (-2147483648) ≤ n1) (f4 : n2 ≤ 2147483647) (f5 : (-2147483648) ≤ n2) (f6 : n3 ≤ 2147483647) (f7 : (-2147483648) ≤ n3) (f8 : n4 = 285) (f9 : hWt T0 H0 ∧ preb_253 n4 n3 n2 n1 n0 H0) (f10 : n5 ≤ 20) (f11 : 0 ≤ n5) (f12 : hK H0 (n4).toNat = 12) (f13 : n5 = hV H0 (n4).toNat 64) (f14 : n6 = 20) (f15 : n5 ≠ n6) (f16 : n7 = 0) (f17 : n8 = 3) (f18 : n9 ≤ 1) (f19 : 0 ≤ n9) (f20 : (hLe T0 H0 H1 ∧ hFr s_251.2.2.2.2 H0 H1 ∧ ((0 : Int) = 0 → H1.length = H0.length) ∧ hWt T0 H1) ∧ postb_251 n9 n3 n7 n8 H0 H1) (f21 : n9 ≠ 0) (f22 : n10 = (-1)) (f23 : n2 ≠ n10) (f24 : n11 = 1) (f25 : n12 = 240) (f26 : n13 ≤ 1) (f27 : 0 ≤ n13) (f28 : (hLe T0 H1 H2 ∧ hFr s_251.2.2.2.2 H1 H2 ∧ ((0 : Int) = 0 → H2.length = H1.length) ∧ hWt T0 H2) ∧ postb_251 n13 n2 n11 n12 H1 H2) (f29 : n13 ≠ 0) : Bbr_253_36 n4 n3 n2 n1 n0 n4 n3 n2 n1 n0 H0 H2 := by
  unfold Bbr_253_36
  exact ⟨(fRow f28.1.2.1 332 (by decide +kernel)).trans (fRow f20.1.2.1 332 (by decide +kernel)), (fRow f28.1.2.1 335 (by decide +kernel)).trans (fRow f20.1.2.1 335 (by decide +kernel)), (f28.1.2.1.1 285 64 (by decide +kernel)).trans (f20.1.2.1.1 285 64 (by decide +kernel))⟩
def g_253r_s_3 : vG := ([(31, [13], [], 0), (1251, [13, 2, 11, 12], [1, 2], 0), (90, [13], [], 0), (91, [13], [], 1), (0, [12], [], 240), (0, [11], [], 1), (41, [2, 10], [], 0), (0, [10], [], -1), (31, [9], [], 0), (1251, [9, 1, 7, 8], [0, 1], 0), (90, [9], [], 0), (91, [9], [], 1), (0, [8], [], 3), (0, [7], [], 0), (41, [5, 6], [], 0), (0, [6], [], 20), (20, [5, 0], [0], 64), (23, [0], [0], 12), (90, [5], [], 0), (91, [5], [], 20), (6000, [0, 1, 2, 3, 4], [0], 0), (0, [0], [], 285), (90, [1], [], -2147483648), (91, [1], [], 2147483647), (90, [2], [], -2147483648), (91, [2], [], 2147483647), (90, [3], [], -2147483648), (91, [3], [], 2147483647), (90, [4], [], -2147483648), (91, [4], [], 2147483647)], (4000, [0, 1, 2, 3, 4], [2], 36))
theorem c_253r_s_3 : vOkm T0 (eN e_253 L_253r A_253 mu_253 nr_253 Br_253 none) 5 g_253r_s_3 := vOk_inI fun ρ η f0 f1 f2 f3 f4 f5 f6 f7 f8 f9 f10 f11 f12 f13 f14 f15 f16 f17 f18 f19 f20 f21 f22 f23 f24 f25 f26 f27 f28 f29 => q_253r_3 (n0 := ρ 4) (n1 := ρ 3) (n2 := ρ 2) (n3 := ρ 1) (n4 := ρ 0) (n5 := ρ 5) (n6 := ρ 6) (n7 := ρ 7) (n8 := ρ 8) (n9 := ρ 9) (n10 := ρ 10) (n11 := ρ 11) (n12 := ρ 12) (n13 := ρ 13) (H0 := η 0) (H1 := η 1) (H2 := η 2) f29 f28 f27 f26 f25 f24 f23 f22 f21 f20 f19 f18 f17 f16 f15 f14 f13 f12 f11 f10 f9 f8 f7 f6 f5 f4 f3 f2 f1 f0
theorem q_253r_4 {n0 n1 n2 n3 n4 n5 n6 n7 n8 n9 n10 n11 n12 n13 n14 : Int} {H0 H1 H2 : gH} (f0 : n0 ≤ 2147483647) (f1 : (-2147483648) ≤ n0) (f2 : n1 ≤ 2147483647) (f3 : (-2147483648) ≤ n1) (f4 : n2 ≤ 2147483647) (f5 : (-2147483648) ≤ n2) (f6 : n3 ≤ 2147483647) (f7 : (-2147483648) ≤ n3) (f8 : n4 = 285) (f9 : hWt T0 H0 ∧ preb_253 n4 n3 n2 n1 n0 H0) (f10 : n5 ≤ 20) (f11 : 0 ≤ n5) (f12 : hK H0 (n4).toNat = 12) (f13 : n5 = hV H0 (n4).toNat 64) (f14 : n6 = 20) (f15 : n5 ≠ n6) (f16 : n7 = 0) (f17 : n8 = 3) (f18 : n9 ≤ 1) (f19 : 0 ≤ n9) (f20 : (hLe T0 H0 H1 ∧ hFr s_251.2.2.2.2 H0 H1 ∧ ((0 : Int) = 0 → H1.length = H0.length) ∧ hWt T0 H1) ∧ postb_251 n9 n3 n7 n8 H0 H1) (f21 : n9 ≠ 0) (f22 : n10 = (-1)) (f23 : n2 ≠ n10) (f24 : n11 = 1) (f25 : n12 = 240) (f26 : n13 ≤ 1) (f27 : 0 ≤ n13) (f28 : (hLe T0 H1 H2 ∧ hFr s_251.2.2.2.2 H1 H2 ∧ ((0 : Int) = 0 → H2.length = H1.length) ∧ hWt T0 H2) ∧ postb_251 n13 n2 n11 n12 H1 H2) (f29 : n13 = 0) (f30 : n14 = (-1)) : nbr_253 n14 n4 n3 n2 n1 n0 H0 H2 := by
  unfold nbr_253
  have c8 := f8
  have c14 := f14
  have c16 := f16
  have c17 := f17
  have c22 := f22
  have c24 := f24
  have c25 := f25
  have c30 := f30
  exact .inl ⟨by omega, (fRow f28.1.2.1 332 (by decide +kernel)).trans (fRow f20.1.2.1 332 (by decide +kernel)), (fRow f28.1.2.1 335 (by decide +kernel)).trans (fRow f20.1.2.1 335 (by decide +kernel))⟩
def g_253r_s_4 : vG := ([(0, [14], [], -1), (30, [13], [], 0), (1251, [13, 2, 11, 12], [1, 2], 0), (90, [13], [], 0), (91, [13], [], 1), (0, [12], [], 240), (0, [11], [], 1), (41, [2, 10], [], 0), (0, [10], [], -1), (31, [9], [], 0), (1251, [9, 1, 7, 8], [0, 1], 0), (90, [9], [], 0), (91, [9], [], 1), (0, [8], [], 3), (0, [7], [], 0), (41, [5, 6], [], 0), (0, [6], [], 20), (20, [5, 0], [0], 64), (23, [0], [0], 12), (90, [5], [], 0), (91, [5], [], 20), (6000, [0, 1, 2, 3, 4], [0], 0), (0, [0], [], 285), (90, [1], [], -2147483648), (91, [1], [], 2147483647), (90, [2], [], -2147483648), (91, [2], [], 2147483647), (90, [3], [], -2147483648), (91, [3], [], 2147483647), (90, [4], [], -2147483648), (91, [4], [], 2147483647)], (3000, [14], [2], 35))
theorem c_253r_s_4 : vOkm T0 (eN e_253 L_253r A_253 mu_253 nr_253 Br_253 none) 5 g_253r_s_4 := vOk_inI fun ρ η f0 f1 f2 f3 f4 f5 f6 f7 f8 f9 f10 f11 f12 f13 f14 f15 f16 f17 f18 f19 f20 f21 f22 f23 f24 f25 f26 f27 f28 f29 f30 => q_253r_4 (n0 := ρ 4) (n1 := ρ 3) (n2 := ρ 2) (n3 := ρ 1) (n4 := ρ 0) (n5 := ρ 5) (n6 := ρ 6) (n7 := ρ 7) (n8 := ρ 8) (n9 := ρ 9) (n10 := ρ 10) (n11 := ρ 11) (n12 := ρ 12) (n13 := ρ 13) (n14 := ρ 14) (H0 := η 0) (H1 := η 1) (H2 := η 2) f30 f29 f28 f27 f26 f25 f24 f23 f22 f21 f20 f19 f18 f17 f16 f15 f14 f13 f12 f11 f10 f9 f8 f7 f6 f5 f4 f3 f2 f1 f0
def p_253r_s : List vG := [g_253r_s_0,
  g_253r_s_1,
  g_253r_s_2,
  g_253r_s_3,
  g_253r_s_4]
theorem r_253r_s : vCovBO (eR0 e_253 L_253 cs_253 2000) p_253r_s = true := by decide +kernel
theorem q_253r_5 {q0 : Nat} {n0 n1 n2 n3 n4 n5 n6 n7 n8 n9 n10 n11 : Int} {H0 H1 : gH} (f0 : n0 ≤ 2147483647) (f1 : (-2147483648) ≤ n0) (f2 : n1 ≤ 2147483647) (f3 : (-2147483648) ≤ n1) (f4 : n2 ≤ 2147483647) (f5 : (-2147483648) ≤ n2) (f6 : n3 ≤ 2147483647) (f7 : (-2147483648) ≤ n3) (f8 : n4 = 285) (f9 : n5 ≤ 2147483647) (f10 : (-2147483648) ≤ n5) (f11 : n6 ≤ 2147483647) (f12 : (-2147483648) ≤ n6) (f13 : n7 ≤ 2147483647) (f14 : (-2147483648) ≤ n7) (f15 : n8 ≤ 2147483647) (f16 : (-2147483648) ≤ n8) (f17 : n9 = 285) (f18 : (hLe T0 H0 H1 ∧ hFr s_253.2.2.2.2 H0 H1 ∧ hWt T0 H1) ∧ ((Ab_253_36 n9 n8 n7 n6 n5 n4 n3 n2 n1 n0 H0 H1 ∧ Bbr_253_36 n9 n8 n7 n6 n5 n4 n3 n2 n1 n0 H0 H1) ∧ preb_253 n9 n8 n7 n6 n5 H0) ∧ some q0 = some (mub_253_36 n9 n8 n7 n6 n5 n4 n3 n2 n1 n0 H0 H1)) (f19 : n10 = 1) (f20 : n3 ≠ n10) (f21 : n11 = 3) (f22 : n3 ≠ n11) : Bbr_253_85 n9 n8 n7 n6 n5 n4 n3 n2 n1 n0 H0 H1 := by
  have gb := f18.2.1.1.2
  unfold Bbr_253_36 at gb
  obtain ⟨g1, g2, g3⟩ := gb
  have c8 := f8
  have c17 := f17
  have c19 := f19
  have c21 := f21
  unfold Bbr_253_85
  exact ⟨(rfl).trans g1, (rfl).trans g2, (rfl).trans g3⟩
def g_253r_36_0 : vG := ([(41, [6, 11], [], 0), (0, [11], [], 3), (41, [6, 10], [], 0), (0, [10], [], 1), (5000, [0, 1, 2, 3, 4, 5, 6, 7, 8, 9], [0, 1], 36), (0, [0], [], 285), (90, [1], [], -2147483648), (91, [1], [], 2147483647), (90, [2], [], -2147483648), (91, [2], [], 2147483647), (90, [3], [], -2147483648), (91, [3], [], 2147483647), (90, [4], [], -2147483648), (91, [4], [], 2147483647), (0, [5], [], 285), (90, [6], [], -2147483648), (91, [6], [], 2147483647), (90, [7], [], -2147483648), (91, [7], [], 2147483647), (90, [8], [], -2147483648), (91, [8], [], 2147483647), (90, [9], [], -2147483648), (91, [9], [], 2147483647)], (4000, [5, 6, 7, 8, 9], [1], 85))
theorem c_253r_36_0 {q0 : Nat} : vOkm T0 (eN e_253 L_253r A_253 mu_253 nr_253 Br_253 (some q0)) 5 g_253r_36_0 := vOk_inI fun ρ η f0 f1 f2 f3 f4 f5 f6 f7 f8 f9 f10 f11 f12 f13 f14 f15 f16 f17 f18 f19 f20 f21 f22 => q_253r_5 (q0 := q0) (n0 := ρ 9) (n1 := ρ 8) (n2 := ρ 7) (n3 := ρ 6) (n4 := ρ 5) (n5 := ρ 4) (n6 := ρ 3) (n7 := ρ 2) (n8 := ρ 1) (n9 := ρ 0) (n10 := ρ 10) (n11 := ρ 11) (H0 := η 0) (H1 := η 1) f22 f21 f20 f19 f18 f17 f16 f15 f14 f13 f12 f11 f10 f9 f8 f7 f6 f5 f4 f3 f2 f1 f0
theorem q_253r_6 {q0 : Nat} {n0 n1 n2 n3 n4 n5 n6 n7 n8 n9 n10 n11 n12 n13 n14 : Int} {H0 H1 H2 : gH} (f0 : n0 ≤ 2147483647) (f1 : (-2147483648) ≤ n0) (f2 : n1 ≤ 2147483647) (f3 : (-2147483648) ≤ n1) (f4 : n2 ≤ 2147483647) (f5 : (-2147483648) ≤ n2) (f6 : n3 ≤ 2147483647) (f7 : (-2147483648) ≤ n3) (f8 : n4 = 285) (f9 : n5 ≤ 2147483647) (f10 : (-2147483648) ≤ n5) (f11 : n6 ≤ 2147483647) (f12 : (-2147483648) ≤ n6) (f13 : n7 ≤ 2147483647) (f14 : (-2147483648) ≤ n7) (f15 : n8 ≤ 2147483647) (f16 : (-2147483648) ≤ n8) (f17 : n9 = 285) (f18 : (hLe T0 H0 H1 ∧ hFr s_253.2.2.2.2 H0 H1 ∧ hWt T0 H1) ∧ ((Ab_253_36 n9 n8 n7 n6 n5 n4 n3 n2 n1 n0 H0 H1 ∧ Bbr_253_36 n9 n8 n7 n6 n5 n4 n3 n2 n1 n0 H0 H1) ∧ preb_253 n9 n8 n7 n6 n5 H0) ∧ some q0 = some (mub_253_36 n9 n8 n7 n6 n5 n4 n3 n2 n1 n0 H0 H1)) (f19 : n10 = 1) (f20 : n3 ≠ n10) (f21 : n11 = 3) (f22 : n3 = n11) (f23 : n12 = 0) (f24 : n13 = 7) (f25 : n14 ≤ 1) (f26 : 0 ≤ n14) (f27 : (hLe T0 H1 H2 ∧ hFr s_251.2.2.2.2 H1 H2 ∧ ((0 : Int) = 0 → H2.length = H1.length) ∧ hWt T0 H2) ∧ postb_251 n14 n1 n12 n13 H1 H2) (f28 : n14 ≠ 0) : Bbr_253_85 n9 n8 n7 n6 n5 n4 n3 n2 n1 n0 H0 H2 := by
  have gb := f18.2.1.1.2
  unfold Bbr_253_36 at gb
  obtain ⟨g1, g2, g3⟩ := gb
  have c8 := f8
  have c17 := f17
  have c19 := f19
  have c21 := f21
  have c23 := f23
  have c24 := f24
  unfold Bbr_253_85
  exact ⟨(fRow f27.1.2.1 332 (by decide +kernel)).trans g1, (fRow f27.1.2.1 335 (by decide +kernel)).trans g2, (f27.1.2.1.1 285 64 (by decide +kernel)).trans g3⟩
def g_253r_36_1 : vG := ([(31, [14], [], 0), (1251, [14, 8, 12, 13], [1, 2], 0), (90, [14], [], 0), (91, [14], [], 1), (0, [13], [], 7), (0, [12], [], 0), (40, [6, 11], [], 0), (0, [11], [], 3), (41, [6, 10], [], 0), (0, [10], [], 1), (5000, [0, 1, 2, 3, 4, 5, 6, 7, 8, 9], [0, 1], 36), (0, [0], [], 285), (90, [1], [], -2147483648), (91, [1], [], 2147483647), (90, [2], [], -2147483648), (91, [2], [], 2147483647), (90, [3], [], -2147483648), (91, [3], [], 2147483647), (90, [4], [], -2147483648), (91, [4], [], 2147483647), (0, [5], [], 285), (90, [6], [], -2147483648), (91, [6], [], 2147483647), (90, [7], [], -2147483648), (91, [7], [], 2147483647), (90, [8], [], -2147483648), (91, [8], [], 2147483647), (90, [9], [], -2147483648), (91, [9], [], 2147483647)], (4000, [5, 6, 7, 8, 9], [2], 85))
theorem c_253r_36_1 {q0 : Nat} : vOkm T0 (eN e_253 L_253r A_253 mu_253 nr_253 Br_253 (some q0)) 5 g_253r_36_1 := vOk_inI fun ρ η f0 f1 f2 f3 f4 f5 f6 f7 f8 f9 f10 f11 f12 f13 f14 f15 f16 f17 f18 f19 f20 f21 f22 f23 f24 f25 f26 f27 f28 => q_253r_6 (q0 := q0) (n0 := ρ 9) (n1 := ρ 8) (n2 := ρ 7) (n3 := ρ 6) (n4 := ρ 5) (n5 := ρ 4) (n6 := ρ 3) (n7 := ρ 2) (n8 := ρ 1) (n9 := ρ 0) (n10 := ρ 10) (n11 := ρ 11) (n12 := ρ 12) (n13 := ρ 13) (n14 := ρ 14) (H0 := η 0) (H1 := η 1) (H2 := η 2) f28 f27 f26 f25 f24 f23 f22 f21 f20 f19 f18 f17 f16 f15 f14 f13 f12 f11 f10 f9 f8 f7 f6 f5 f4 f3 f2 f1 f0
theorem q_253r_7 {q0 : Nat} {n0 n1 n2 n3 n4 n5 n6 n7 n8 n9 n10 n11 n12 n13 n14 n15 : Int} {H0 H1 H2 : gH} (f0 : n0 ≤ 2147483647) (f1 : (-2147483648) ≤ n0) (f2 : n1 ≤ 2147483647) (f3 : (-2147483648) ≤ n1) (f4 : n2 ≤ 2147483647) (f5 : (-2147483648) ≤ n2) (f6 : n3 ≤ 2147483647) (f7 : (-2147483648) ≤ n3) (f8 : n4 = 285) (f9 : n5 ≤ 2147483647) (f10 : (-2147483648) ≤ n5) (f11 : n6 ≤ 2147483647) (f12 : (-2147483648) ≤ n6) (f13 : n7 ≤ 2147483647) (f14 : (-2147483648) ≤ n7) (f15 : n8 ≤ 2147483647) (f16 : (-2147483648) ≤ n8) (f17 : n9 = 285) (f18 : (hLe T0 H0 H1 ∧ hFr s_253.2.2.2.2 H0 H1 ∧ hWt T0 H1) ∧ ((Ab_253_36 n9 n8 n7 n6 n5 n4 n3 n2 n1 n0 H0 H1 ∧ Bbr_253_36 n9 n8 n7 n6 n5 n4 n3 n2 n1 n0 H0 H1) ∧ preb_253 n9 n8 n7 n6 n5 H0) ∧ some q0 = some (mub_253_36 n9 n8 n7 n6 n5 n4 n3 n2 n1 n0 H0 H1)) (f19 : n10 = 1) (f20 : n3 ≠ n10) (f21 : n11 = 3) (f22 : n3 = n11) (f23 : n12 = 0) (f24 : n13 = 7) (f25 : n14 ≤ 1) (f26 : 0 ≤ n14) (f27 : (hLe T0 H1 H2 ∧ hFr s_251.2.2.2.2 H1 H2 ∧ ((0 : Int) = 0 → H2.length = H1.length) ∧ hWt T0 H2) ∧ postb_251 n14 n1 n12 n13 H1 H2) (f28 : n14 = 0) (f29 : n15 = (-1)) : nbr_253 n15 n9 n8 n7 n6 n5 H0 H2 := by
  have gb := f18.2.1.1.2
  unfold Bbr_253_36 at gb
  obtain ⟨g1, g2, g3⟩ := gb
  have c8 := f8
  have c17 := f17
  have c19 := f19
  have c21 := f21
  have c23 := f23
  have c24 := f24
  have c29 := f29
  unfold nbr_253
  exact .inl ⟨by omega, (fRow f27.1.2.1 332 (by decide +kernel)).trans g1, (fRow f27.1.2.1 335 (by decide +kernel)).trans g2⟩
def g_253r_36_2 : vG := ([(0, [15], [], -1), (30, [14], [], 0), (1251, [14, 8, 12, 13], [1, 2], 0), (90, [14], [], 0), (91, [14], [], 1), (0, [13], [], 7), (0, [12], [], 0), (40, [6, 11], [], 0), (0, [11], [], 3), (41, [6, 10], [], 0), (0, [10], [], 1), (5000, [0, 1, 2, 3, 4, 5, 6, 7, 8, 9], [0, 1], 36), (0, [0], [], 285), (90, [1], [], -2147483648), (91, [1], [], 2147483647), (90, [2], [], -2147483648), (91, [2], [], 2147483647), (90, [3], [], -2147483648), (91, [3], [], 2147483647), (90, [4], [], -2147483648), (91, [4], [], 2147483647), (0, [5], [], 285), (90, [6], [], -2147483648), (91, [6], [], 2147483647), (90, [7], [], -2147483648), (91, [7], [], 2147483647), (90, [8], [], -2147483648), (91, [8], [], 2147483647), (90, [9], [], -2147483648), (91, [9], [], 2147483647)], (3000, [15], [2], 84))
theorem c_253r_36_2 {q0 : Nat} : vOkm T0 (eN e_253 L_253r A_253 mu_253 nr_253 Br_253 (some q0)) 5 g_253r_36_2 := vOk_inI fun ρ η f0 f1 f2 f3 f4 f5 f6 f7 f8 f9 f10 f11 f12 f13 f14 f15 f16 f17 f18 f19 f20 f21 f22 f23 f24 f25 f26 f27 f28 f29 => q_253r_7 (q0 := q0) (n0 := ρ 9) (n1 := ρ 8) (n2 := ρ 7) (n3 := ρ 6) (n4 := ρ 5) (n5 := ρ 4) (n6 := ρ 3) (n7 := ρ 2) (n8 := ρ 1) (n9 := ρ 0) (n10 := ρ 10) (n11 := ρ 11) (n12 := ρ 12) (n13 := ρ 13) (n14 := ρ 14) (n15 := ρ 15) (H0 := η 0) (H1 := η 1) (H2 := η 2) f29 f28 f27 f26 f25 f24 f23 f22 f21 f20 f19 f18 f17 f16 f15 f14 f13 f12 f11 f10 f9 f8 f7 f6 f5 f4 f3 f2 f1 f0
theorem q_253r_8 {q0 : Nat} {n0 n1 n2 n3 n4 n5 n6 n7 n8 n9 n10 n11 : Int} {H0 H1 : gH} (f0 : n0 ≤ 2147483647) (f1 : (-2147483648) ≤ n0) (f2 : n1 ≤ 2147483647) (f3 : (-2147483648) ≤ n1) (f4 : n2 ≤ 2147483647) (f5 : (-2147483648) ≤ n2) (f6 : n3 ≤ 2147483647) (f7 : (-2147483648) ≤ n3) (f8 : n4 = 285) (f9 : n5 ≤ 2147483647) (f10 : (-2147483648) ≤ n5) (f11 : n6 ≤ 2147483647) (f12 : (-2147483648) ≤ n6) (f13 : n7 ≤ 2147483647) (f14 : (-2147483648) ≤ n7) (f15 : n8 ≤ 2147483647) (f16 : (-2147483648) ≤ n8) (f17 : n9 = 285) (f18 : (hLe T0 H0 H1 ∧ hFr s_253.2.2.2.2 H0 H1 ∧ hWt T0 H1) ∧ ((Ab_253_36 n9 n8 n7 n6 n5 n4 n3 n2 n1 n0 H0 H1 ∧ Bbr_253_36 n9 n8 n7 n6 n5 n4 n3 n2 n1 n0 H0 H1) ∧ preb_253 n9 n8 n7 n6 n5 H0) ∧ some q0 = some (mub_253_36 n9 n8 n7 n6 n5 n4 n3 n2 n1 n0 H0 H1)) (f19 : n10 = 1) (f20 : n3 = n10) (f21 : n1 < 0) (f22 : n11 = (-1)) : nbr_253 n11 n9 n8 n7 n6 n5 H0 H1 := by
  have gb := f18.2.1.1.2
  unfold Bbr_253_36 at gb
  obtain ⟨g1, g2, g3⟩ := gb
  have c8 := f8
  have c17 := f17
  have c19 := f19
  have c22 := f22
  unfold nbr_253
  exact .inl ⟨by omega, (rfl).trans g1, (rfl).trans g2⟩
def g_253r_36_3 : vG := ([(0, [11], [], -1), (32, [8], [], 0), (40, [6, 10], [], 0), (0, [10], [], 1), (5000, [0, 1, 2, 3, 4, 5, 6, 7, 8, 9], [0, 1], 36), (0, [0], [], 285), (90, [1], [], -2147483648), (91, [1], [], 2147483647), (90, [2], [], -2147483648), (91, [2], [], 2147483647), (90, [3], [], -2147483648), (91, [3], [], 2147483647), (90, [4], [], -2147483648), (91, [4], [], 2147483647), (0, [5], [], 285), (90, [6], [], -2147483648), (91, [6], [], 2147483647), (90, [7], [], -2147483648), (91, [7], [], 2147483647), (90, [8], [], -2147483648), (91, [8], [], 2147483647), (90, [9], [], -2147483648), (91, [9], [], 2147483647)], (3000, [11], [1], 84))
theorem c_253r_36_3 {q0 : Nat} : vOkm T0 (eN e_253 L_253r A_253 mu_253 nr_253 Br_253 (some q0)) 5 g_253r_36_3 := vOk_inI fun ρ η f0 f1 f2 f3 f4 f5 f6 f7 f8 f9 f10 f11 f12 f13 f14 f15 f16 f17 f18 f19 f20 f21 f22 => q_253r_8 (q0 := q0) (n0 := ρ 9) (n1 := ρ 8) (n2 := ρ 7) (n3 := ρ 6) (n4 := ρ 5) (n5 := ρ 4) (n6 := ρ 3) (n7 := ρ 2) (n8 := ρ 1) (n9 := ρ 0) (n10 := ρ 10) (n11 := ρ 11) (H0 := η 0) (H1 := η 1) f22 f21 f20 f19 f18 f17 f16 f15 f14 f13 f12 f11 f10 f9 f8 f7 f6 f5 f4 f3 f2 f1 f0
theorem q_253r_9 {q0 : Nat} {n0 n1 n2 n3 n4 n5 n6 n7 n8 n9 n10 n11 : Int} {H0 H1 : gH} (f0 : n0 ≤ 2147483647) (f1 : (-2147483648) ≤ n0) (f2 : n1 ≤ 2147483647) (f3 : (-2147483648) ≤ n1) (f4 : n2 ≤ 2147483647) (f5 : (-2147483648) ≤ n2) (f6 : n3 ≤ 2147483647) (f7 : (-2147483648) ≤ n3) (f8 : n4 = 285) (f9 : n5 ≤ 2147483647) (f10 : (-2147483648) ≤ n5) (f11 : n6 ≤ 2147483647) (f12 : (-2147483648) ≤ n6) (f13 : n7 ≤ 2147483647) (f14 : (-2147483648) ≤ n7) (f15 : n8 ≤ 2147483647) (f16 : (-2147483648) ≤ n8) (f17 : n9 = 285) (f18 : (hLe T0 H0 H1 ∧ hFr s_253.2.2.2.2 H0 H1 ∧ hWt T0 H1) ∧ ((Ab_253_36 n9 n8 n7 n6 n5 n4 n3 n2 n1 n0 H0 H1 ∧ Bbr_253_36 n9 n8 n7 n6 n5 n4 n3 n2 n1 n0 H0 H1) ∧ preb_253 n9 n8 n7 n6 n5 H0) ∧ some q0 = some (mub_253_36 n9 n8 n7 n6 n5 n4 n3 n2 n1 n0 H0 H1)) (f19 : n10 = 1) (f20 : n3 = n10) (f21 : 0 ≤ n1) (f22 : n0 ≤ n1) (f23 : n11 = (-1)) : nbr_253 n11 n9 n8 n7 n6 n5 H0 H1 := by
  have gb := f18.2.1.1.2
  unfold Bbr_253_36 at gb
  obtain ⟨g1, g2, g3⟩ := gb
  have c8 := f8
  have c17 := f17
  have c19 := f19
  have c23 := f23
  unfold nbr_253
  exact .inl ⟨by omega, (rfl).trans g1, (rfl).trans g2⟩
def g_253r_36_4 : vG := ([(0, [11], [], -1), (43, [8, 9], [], 0), (33, [8], [], 0), (40, [6, 10], [], 0), (0, [10], [], 1), (5000, [0, 1, 2, 3, 4, 5, 6, 7, 8, 9], [0, 1], 36), (0, [0], [], 285), (90, [1], [], -2147483648), (91, [1], [], 2147483647), (90, [2], [], -2147483648), (91, [2], [], 2147483647), (90, [3], [], -2147483648), (91, [3], [], 2147483647), (90, [4], [], -2147483648), (91, [4], [], 2147483647), (0, [5], [], 285), (90, [6], [], -2147483648), (91, [6], [], 2147483647), (90, [7], [], -2147483648), (91, [7], [], 2147483647), (90, [8], [], -2147483648), (91, [8], [], 2147483647), (90, [9], [], -2147483648), (91, [9], [], 2147483647)], (3000, [11], [1], 84))
theorem c_253r_36_4 {q0 : Nat} : vOkm T0 (eN e_253 L_253r A_253 mu_253 nr_253 Br_253 (some q0)) 5 g_253r_36_4 := vOk_inI fun ρ η f0 f1 f2 f3 f4 f5 f6 f7 f8 f9 f10 f11 f12 f13 f14 f15 f16 f17 f18 f19 f20 f21 f22 f23 => q_253r_9 (q0 := q0) (n0 := ρ 9) (n1 := ρ 8) (n2 := ρ 7) (n3 := ρ 6) (n4 := ρ 5) (n5 := ρ 4) (n6 := ρ 3) (n7 := ρ 2) (n8 := ρ 1) (n9 := ρ 0) (n10 := ρ 10) (n11 := ρ 11) (H0 := η 0) (H1 := η 1) f23 f22 f21 f20 f19 f18 f17 f16 f15 f14 f13 f12 f11 f10 f9 f8 f7 f6 f5 f4 f3 f2 f1 f0
theorem q_253r_10 {q0 : Nat} {n0 n1 n2 n3 n4 n5 n6 n7 n8 n9 n10 n11 n12 : Int} {H0 H1 : gH} (f0 : n0 ≤ 2147483647) (f1 : (-2147483648) ≤ n0) (f2 : n1 ≤ 2147483647) (f3 : (-2147483648) ≤ n1) (f4 : n2 ≤ 2147483647) (f5 : (-2147483648) ≤ n2) (f6 : n3 ≤ 2147483647) (f7 : (-2147483648) ≤ n3) (f8 : n4 = 285) (f9 : n5 ≤ 2147483647) (f10 : (-2147483648) ≤ n5) (f11 : n6 ≤ 2147483647) (f12 : (-2147483648) ≤ n6) (f13 : n7 ≤ 2147483647) (f14 : (-2147483648) ≤ n7) (f15 : n8 ≤ 2147483647) (f16 : (-2147483648) ≤ n8) (f17 : n9 = 285) (f18 : (hLe T0 H0 H1 ∧ hFr s_253.2.2.2.2 H0 H1 ∧ hWt T0 H1) ∧ ((Ab_253_36 n9 n8 n7 n6 n5 n4 n3 n2 n1 n0 H0 H1 ∧ Bbr_253_36 n9 n8 n7 n6 n5 n4 n3 n2 n1 n0 H0 H1) ∧ preb_253 n9 n8 n7 n6 n5 H0) ∧ some q0 = some (mub_253_36 n9 n8 n7 n6 n5 n4 n3 n2 n1 n0 H0 H1)) (f19 : n10 = 1) (f20 : n3 = n10) (f21 : 0 ≤ n1) (f22 : n1 < n0) (f23 : n11 = (-1)) (f24 : n2 ≠ n11) (f25 : n2 < n0) (f26 : n12 = (-1)) : nbr_253 n12 n9 n8 n7 n6 n5 H0 H1 := by
  have gb := f18.2.1.1.2
  unfold Bbr_253_36 at gb
  obtain ⟨g1, g2, g3⟩ := gb
  have c8 := f8
  have c17 := f17
  have c19 := f19
  have c23 := f23
  have c26 := f26
  unfold nbr_253
  exact .inl ⟨by omega, (rfl).trans g1, (rfl).trans g2⟩
def g_253r_36_5 : vG := ([(0, [12], [], -1), (44, [9, 7], [], 0), (41, [7, 11], [], 0), (0, [11], [], -1), (42, [8, 9], [], 0), (33, [8], [], 0), (40, [6, 10], [], 0), (0, [10], [], 1), (5000, [0, 1, 2, 3, 4, 5, 6, 7, 8, 9], [0, 1], 36), (0, [0], [], 285), (90, [1], [], -2147483648), (91, [1], [], 2147483647), (90, [2], [], -2147483648), (91, [2], [], 2147483647), (90, [3], [], -2147483648), (91, [3], [], 2147483647), (90, [4], [], -2147483648), (91, [4], [], 2147483647), (0, [5], [], 285), (90, [6], [], -2147483648), (91, [6], [], 2147483647), (90, [7], [], -2147483648), (91, [7], [], 2147483647), (90, [8], [], -2147483648), (91, [8], [], 2147483647), (90, [9], [], -2147483648), (91, [9], [], 2147483647)], (3000, [12], [1], 84))
theorem c_253r_36_5 {q0 : Nat} : vOkm T0 (eN e_253 L_253r A_253 mu_253 nr_253 Br_253 (some q0)) 5 g_253r_36_5 := vOk_inI fun ρ η f0 f1 f2 f3 f4 f5 f6 f7 f8 f9 f10 f11 f12 f13 f14 f15 f16 f17 f18 f19 f20 f21 f22 f23 f24 f25 f26 => q_253r_10 (q0 := q0) (n0 := ρ 9) (n1 := ρ 8) (n2 := ρ 7) (n3 := ρ 6) (n4 := ρ 5) (n5 := ρ 4) (n6 := ρ 3) (n7 := ρ 2) (n8 := ρ 1) (n9 := ρ 0) (n10 := ρ 10) (n11 := ρ 11) (n12 := ρ 12) (H0 := η 0) (H1 := η 1) f26 f25 f24 f23 f22 f21 f20 f19 f18 f17 f16 f15 f14 f13 f12 f11 f10 f9 f8 f7 f6 f5 f4 f3 f2 f1 f0
theorem q_253r_11 {q0 : Nat} {n0 n1 n2 n3 n4 n5 n6 n7 n8 n9 n10 n11 n12 : Int} {H0 H1 : gH} (f0 : n0 ≤ 2147483647) (f1 : (-2147483648) ≤ n0) (f2 : n1 ≤ 2147483647) (f3 : (-2147483648) ≤ n1) (f4 : n2 ≤ 2147483647) (f5 : (-2147483648) ≤ n2) (f6 : n3 ≤ 2147483647) (f7 : (-2147483648) ≤ n3) (f8 : n4 = 285) (f9 : n5 ≤ 2147483647) (f10 : (-2147483648) ≤ n5) (f11 : n6 ≤ 2147483647) (f12 : (-2147483648) ≤ n6) (f13 : n7 ≤ 2147483647) (f14 : (-2147483648) ≤ n7) (f15 : n8 ≤ 2147483647) (f16 : (-2147483648) ≤ n8) (f17 : n9 = 285) (f18 : (hLe T0 H0 H1 ∧ hFr s_253.2.2.2.2 H0 H1 ∧ hWt T0 H1) ∧ ((Ab_253_36 n9 n8 n7 n6 n5 n4 n3 n2 n1 n0 H0 H1 ∧ Bbr_253_36 n9 n8 n7 n6 n5 n4 n3 n2 n1 n0 H0 H1) ∧ preb_253 n9 n8 n7 n6 n5 H0) ∧ some q0 = some (mub_253_36 n9 n8 n7 n6 n5 n4 n3 n2 n1 n0 H0 H1)) (f19 : n10 = 1) (f20 : n3 = n10) (f21 : 0 ≤ n1) (f22 : n1 < n0) (f23 : n11 = (-1)) (f24 : n2 ≠ n11) (f25 : n0 ≤ n2) (f26 : n12 = 3) (f27 : n3 ≠ n12) : Bbr_253_85 n9 n8 n7 n6 n5 n4 n3 n2 n1 n0 H0 H1 := by
  have gb := f18.2.1.1.2
  unfold Bbr_253_36 at gb
  obtain ⟨g1, g2, g3⟩ := gb
  have c8 := f8
  have c17 := f17
  have c19 := f19
  have c23 := f23
  have c26 := f26
  unfold Bbr_253_85
  exact ⟨(rfl).trans g1, (rfl).trans g2, (rfl).trans g3⟩
def g_253r_36_6 : vG := ([(41, [6, 12], [], 0), (0, [12], [], 3), (45, [9, 7], [], 0), (41, [7, 11], [], 0), (0, [11], [], -1), (42, [8, 9], [], 0), (33, [8], [], 0), (40, [6, 10], [], 0), (0, [10], [], 1), (5000, [0, 1, 2, 3, 4, 5, 6, 7, 8, 9], [0, 1], 36), (0, [0], [], 285), (90, [1], [], -2147483648), (91, [1], [], 2147483647), (90, [2], [], -2147483648), (91, [2], [], 2147483647), (90, [3], [], -2147483648), (91, [3], [], 2147483647), (90, [4], [], -2147483648), (91, [4], [], 2147483647), (0, [5], [], 285), (90, [6], [], -2147483648), (91, [6], [], 2147483647), (90, [7], [], -2147483648), (91, [7], [], 2147483647), (90, [8], [], -2147483648), (91, [8], [], 2147483647), (90, [9], [], -2147483648), (91, [9], [], 2147483647)], (4000, [5, 6, 7, 8, 9], [1], 85))
theorem c_253r_36_6 {q0 : Nat} : vOkm T0 (eN e_253 L_253r A_253 mu_253 nr_253 Br_253 (some q0)) 5 g_253r_36_6 := vOk_inI fun ρ η f0 f1 f2 f3 f4 f5 f6 f7 f8 f9 f10 f11 f12 f13 f14 f15 f16 f17 f18 f19 f20 f21 f22 f23 f24 f25 f26 f27 => q_253r_11 (q0 := q0) (n0 := ρ 9) (n1 := ρ 8) (n2 := ρ 7) (n3 := ρ 6) (n4 := ρ 5) (n5 := ρ 4) (n6 := ρ 3) (n7 := ρ 2) (n8 := ρ 1) (n9 := ρ 0) (n10 := ρ 10) (n11 := ρ 11) (n12 := ρ 12) (H0 := η 0) (H1 := η 1) f27 f26 f25 f24 f23 f22 f21 f20 f19 f18 f17 f16 f15 f14 f13 f12 f11 f10 f9 f8 f7 f6 f5 f4 f3 f2 f1 f0
theorem q_253r_12 {q0 : Nat} {n0 n1 n2 n3 n4 n5 n6 n7 n8 n9 n10 n11 n12 n13 n14 n15 : Int} {H0 H1 H2 : gH} (f0 : n0 ≤ 2147483647) (f1 : (-2147483648) ≤ n0) (f2 : n1 ≤ 2147483647) (f3 : (-2147483648) ≤ n1) (f4 : n2 ≤ 2147483647) (f5 : (-2147483648) ≤ n2) (f6 : n3 ≤ 2147483647) (f7 : (-2147483648) ≤ n3) (f8 : n4 = 285) (f9 : n5 ≤ 2147483647) (f10 : (-2147483648) ≤ n5) (f11 : n6 ≤ 2147483647) (f12 : (-2147483648) ≤ n6) (f13 : n7 ≤ 2147483647) (f14 : (-2147483648) ≤ n7) (f15 : n8 ≤ 2147483647) (f16 : (-2147483648) ≤ n8) (f17 : n9 = 285) (f18 : (hLe T0 H0 H1 ∧ hFr s_253.2.2.2.2 H0 H1 ∧ hWt T0 H1) ∧ ((Ab_253_36 n9 n8 n7 n6 n5 n4 n3 n2 n1 n0 H0 H1 ∧ Bbr_253_36 n9 n8 n7 n6 n5 n4 n3 n2 n1 n0 H0 H1) ∧ preb_253 n9 n8 n7 n6 n5 H0) ∧ some q0 = some (mub_253_36 n9 n8 n7 n6 n5 n4 n3 n2 n1 n0 H0 H1)) (f19 : n10 = 1) (f20 : n3 = n10) (f21 : 0 ≤ n1) (f22 : n1 < n0) (f23 : n11 = (-1)) (f24 : n2 ≠ n11) (f25 : n0 ≤ n2) (f26 : n12 = 3) (f27 : n3 = n12) (f28 : n13 = 0) (f29 : n14 = 7) (f30 : n15 ≤ 1) (f31 : 0 ≤ n15) (f32 : (hLe T0 H1 H2 ∧ hFr s_251.2.2.2.2 H1 H2 ∧ ((0 : Int) = 0 → H2.length = H1.length) ∧ hWt T0 H2) ∧ postb_251 n15 n1 n13 n14 H1 H2) (f33 : n15 ≠ 0) : Bbr_253_85 n9 n8 n7 n6 n5 n4 n3 n2 n1 n0 H0 H2 := by
  have gb := f18.2.1.1.2
  unfold Bbr_253_36 at gb
  obtain ⟨g1, g2, g3⟩ := gb
  have c8 := f8
  have c17 := f17
  have c19 := f19
  have c23 := f23
  have c26 := f26
  have c28 := f28
  have c29 := f29
  unfold Bbr_253_85
  exact ⟨(fRow f32.1.2.1 332 (by decide +kernel)).trans g1, (fRow f32.1.2.1 335 (by decide +kernel)).trans g2, (f32.1.2.1.1 285 64 (by decide +kernel)).trans g3⟩
def g_253r_36_7 : vG := ([(31, [15], [], 0), (1251, [15, 8, 13, 14], [1, 2], 0), (90, [15], [], 0), (91, [15], [], 1), (0, [14], [], 7), (0, [13], [], 0), (40, [6, 12], [], 0), (0, [12], [], 3), (45, [9, 7], [], 0), (41, [7, 11], [], 0), (0, [11], [], -1), (42, [8, 9], [], 0), (33, [8], [], 0), (40, [6, 10], [], 0), (0, [10], [], 1), (5000, [0, 1, 2, 3, 4, 5, 6, 7, 8, 9], [0, 1], 36), (0, [0], [], 285), (90, [1], [], -2147483648), (91, [1], [], 2147483647), (90, [2], [], -2147483648), (91, [2], [], 2147483647), (90, [3], [], -2147483648), (91, [3], [], 2147483647), (90, [4], [], -2147483648), (91, [4], [], 2147483647), (0, [5], [], 285), (90, [6], [], -2147483648), (91, [6], [], 2147483647), (90, [7], [], -2147483648), (91, [7], [], 2147483647), (90, [8], [], -2147483648), (91, [8], [], 2147483647), (90, [9], [], -2147483648), (91, [9], [], 2147483647)], (4000, [5, 6, 7, 8, 9], [2], 85))
theorem c_253r_36_7 {q0 : Nat} : vOkm T0 (eN e_253 L_253r A_253 mu_253 nr_253 Br_253 (some q0)) 5 g_253r_36_7 := vOk_inI fun ρ η f0 f1 f2 f3 f4 f5 f6 f7 f8 f9 f10 f11 f12 f13 f14 f15 f16 f17 f18 f19 f20 f21 f22 f23 f24 f25 f26 f27 f28 f29 f30 f31 f32 f33 => q_253r_12 (q0 := q0) (n0 := ρ 9) (n1 := ρ 8) (n2 := ρ 7) (n3 := ρ 6) (n4 := ρ 5) (n5 := ρ 4) (n6 := ρ 3) (n7 := ρ 2) (n8 := ρ 1) (n9 := ρ 0) (n10 := ρ 10) (n11 := ρ 11) (n12 := ρ 12) (n13 := ρ 13) (n14 := ρ 14) (n15 := ρ 15) (H0 := η 0) (H1 := η 1) (H2 := η 2) f33 f32 f31 f30 f29 f28 f27 f26 f25 f24 f23 f22 f21 f20 f19 f18 f17 f16 f15 f14 f13 f12 f11 f10 f9 f8 f7 f6 f5 f4 f3 f2 f1 f0
theorem q_253r_13 {q0 : Nat} {n0 n1 n2 n3 n4 n5 n6 n7 n8 n9 n10 n11 n12 n13 n14 n15 n16 : Int} {H0 H1 H2 : gH} (f0 : n0 ≤ 2147483647) (f1 : (-2147483648) ≤ n0) (f2 : n1 ≤ 2147483647) (f3 : (-2147483648) ≤ n1) (f4 : n2 ≤ 2147483647) (f5 : (-2147483648) ≤ n2) (f6 : n3 ≤ 2147483647) (f7 : (-2147483648) ≤ n3) (f8 : n4 = 285) (f9 : n5 ≤ 2147483647) (f10 : (-2147483648) ≤ n5) (f11 : n6 ≤ 2147483647) (f12 : (-2147483648) ≤ n6) (f13 : n7 ≤ 2147483647) (f14 : (-2147483648) ≤ n7) (f15 : n8 ≤ 2147483647) (f16 : (-2147483648) ≤ n8) (f17 : n9 = 285) (f18 : (hLe T0 H0 H1 ∧ hFr s_253.2.2.2.2 H0 H1 ∧ hWt T0 H1) ∧ ((Ab_253_36 n9 n8 n7 n6 n5 n4 n3 n2 n1 n0 H0 H1 ∧ Bbr_253_36 n9 n8 n7 n6 n5 n4 n3 n2 n1 n0 H0 H1) ∧ preb_253 n9 n8 n7 n6 n5 H0) ∧ some q0 = some (mub_253_36 n9 n8 n7 n6 n5 n4 n3 n2 n1 n0 H0 H1)) (f19 : n10 = 1) (f20 : n3 = n10) (f21 : 0 ≤ n1) (f22 : n1 < n0) (f23 : n11 = (-1)) (f24 : n2 ≠ n11) (f25 : n0 ≤ n2) (f26 : n12 = 3) (f27 : n3 = n12) (f28 : n13 = 0) (f29 : n14 = 7) (f30 : n15 ≤ 1) (f31 : 0 ≤ n15) (f32 : (hLe T0 H1 H2 ∧ hFr s_251.2.2.2.2 H1 H2 ∧ ((0 : Int) = 0 → H2.length = H1.length) ∧ hWt T0 H2) ∧ postb_251 n15 n1 n13 n14 H1 H2) (f33 : n15 = 0) (f34 : n16 = (-1)) : nbr_253 n16 n9 n8 n7 n6 n5 H0 H2 := by
  have gb := f18.2.1.1.2
  unfold Bbr_253_36 at gb
  obtain ⟨g1, g2, g3⟩ := gb
  have c8 := f8
  have c17 := f17
  have c19 := f19
  have c23 := f23
  have c26 := f26
  have c28 := f28
  have c29 := f29
  have c34 := f34
  unfold nbr_253
  exact .inl ⟨by omega, (fRow f32.1.2.1 332 (by decide +kernel)).trans g1, (fRow f32.1.2.1 335 (by decide +kernel)).trans g2⟩
def g_253r_36_8 : vG := ([(0, [16], [], -1), (30, [15], [], 0), (1251, [15, 8, 13, 14], [1, 2], 0), (90, [15], [], 0), (91, [15], [], 1), (0, [14], [], 7), (0, [13], [], 0), (40, [6, 12], [], 0), (0, [12], [], 3), (45, [9, 7], [], 0), (41, [7, 11], [], 0), (0, [11], [], -1), (42, [8, 9], [], 0), (33, [8], [], 0), (40, [6, 10], [], 0), (0, [10], [], 1), (5000, [0, 1, 2, 3, 4, 5, 6, 7, 8, 9], [0, 1], 36), (0, [0], [], 285), (90, [1], [], -2147483648), (91, [1], [], 2147483647), (90, [2], [], -2147483648), (91, [2], [], 2147483647), (90, [3], [], -2147483648), (91, [3], [], 2147483647), (90, [4], [], -2147483648), (91, [4], [], 2147483647), (0, [5], [], 285), (90, [6], [], -2147483648), (91, [6], [], 2147483647), (90, [7], [], -2147483648), (91, [7], [], 2147483647), (90, [8], [], -2147483648), (91, [8], [], 2147483647), (90, [9], [], -2147483648), (91, [9], [], 2147483647)], (3000, [16], [2], 84))
theorem c_253r_36_8 {q0 : Nat} : vOkm T0 (eN e_253 L_253r A_253 mu_253 nr_253 Br_253 (some q0)) 5 g_253r_36_8 := vOk_inI fun ρ η f0 f1 f2 f3 f4 f5 f6 f7 f8 f9 f10 f11 f12 f13 f14 f15 f16 f17 f18 f19 f20 f21 f22 f23 f24 f25 f26 f27 f28 f29 f30 f31 f32 f33 f34 => q_253r_13 (q0 := q0) (n0 := ρ 9) (n1 := ρ 8) (n2 := ρ 7) (n3 := ρ 6) (n4 := ρ 5) (n5 := ρ 4) (n6 := ρ 3) (n7 := ρ 2) (n8 := ρ 1) (n9 := ρ 0) (n10 := ρ 10) (n11 := ρ 11) (n12 := ρ 12) (n13 := ρ 13) (n14 := ρ 14) (n15 := ρ 15) (n16 := ρ 16) (H0 := η 0) (H1 := η 1) (H2 := η 2) f34 f33 f32 f31 f30 f29 f28 f27 f26 f25 f24 f23 f22 f21 f20 f19 f18 f17 f16 f15 f14 f13 f12 f11 f10 f9 f8 f7 f6 f5 f4 f3 f2 f1 f0
theorem q_253r_14 {q0 : Nat} {n0 n1 n2 n3 n4 n5 n6 n7 n8 n9 n10 n11 n12 n13 : Int} {H0 H1 : gH} (f0 : n0 ≤ 2147483647) (f1 : (-2147483648) ≤ n0) (f2 : n1 ≤ 2147483647) (f3 : (-2147483648) ≤ n1) (f4 : n2 ≤ 2147483647) (f5 : (-2147483648) ≤ n2) (f6 : n3 ≤ 2147483647) (f7 : (-2147483648) ≤ n3) (f8 : n4 = 285) (f9 : n5 ≤ 2147483647) (f10 : (-2147483648) ≤ n5) (f11 : n6 ≤ 2147483647) (f12 : (-2147483648) ≤ n6) (f13 : n7 ≤ 2147483647) (f14 : (-2147483648) ≤ n7) (f15 : n8 ≤ 2147483647) (f16 : (-2147483648) ≤ n8) (f17 : n9 = 285) (f18 : (hLe T0 H0 H1 ∧ hFr s_253.2.2.2.2 H0 H1 ∧ hWt T0 H1) ∧ ((Ab_253_36 n9 n8 n7 n6 n5 n4 n3 n2 n1 n0 H0 H1 ∧ Bbr_253_36 n9 n8 n7 n6 n5 n4 n3 n2 n1 n0 H0 H1) ∧ preb_253 n9 n8 n7 n6 n5 H0) ∧ some q0 = some (mub_253_36 n9 n8 n7 n6 n5 n4 n3 n2 n1 n0 H0 H1)) (f19 : n10 = 1) (f20 : n3 = n10) (f21 : 0 ≤ n1) (f22 : n1 < n0) (f23 : n11 = (-1)) (f24 : n2 = n11) (f25 : n12 = 240) (f26 : n12 < n0) (f27 : n13 = (-1)) : nbr_253 n13 n9 n8 n7 n6 n5 H0 H1 := by
  have gb := f18.2.1.1.2
  unfold Bbr_253_36 at gb
  obtain ⟨g1, g2, g3⟩ := gb
  have c8 := f8
  have c17 := f17
  have c19 := f19
  have c23 := f23
  have c25 := f25
  have c27 := f27
  unfold nbr_253
  exact .inl ⟨by omega, (rfl).trans g1, (rfl).trans g2⟩
def g_253r_36_9 : vG := ([(0, [13], [], -1), (44, [9, 12], [], 0), (0, [12], [], 240), (40, [7, 11], [], 0), (0, [11], [], -1), (42, [8, 9], [], 0), (33, [8], [], 0), (40, [6, 10], [], 0), (0, [10], [], 1), (5000, [0, 1, 2, 3, 4, 5, 6, 7, 8, 9], [0, 1], 36), (0, [0], [], 285), (90, [1], [], -2147483648), (91, [1], [], 2147483647), (90, [2], [], -2147483648), (91, [2], [], 2147483647), (90, [3], [], -2147483648), (91, [3], [], 2147483647), (90, [4], [], -2147483648), (91, [4], [], 2147483647), (0, [5], [], 285), (90, [6], [], -2147483648), (91, [6], [], 2147483647), (90, [7], [], -2147483648), (91, [7], [], 2147483647), (90, [8], [], -2147483648), (91, [8], [], 2147483647), (90, [9], [], -2147483648), (91, [9], [], 2147483647)], (3000, [13], [1], 84))
theorem c_253r_36_9 {q0 : Nat} : vOkm T0 (eN e_253 L_253r A_253 mu_253 nr_253 Br_253 (some q0)) 5 g_253r_36_9 := vOk_inI fun ρ η f0 f1 f2 f3 f4 f5 f6 f7 f8 f9 f10 f11 f12 f13 f14 f15 f16 f17 f18 f19 f20 f21 f22 f23 f24 f25 f26 f27 => q_253r_14 (q0 := q0) (n0 := ρ 9) (n1 := ρ 8) (n2 := ρ 7) (n3 := ρ 6) (n4 := ρ 5) (n5 := ρ 4) (n6 := ρ 3) (n7 := ρ 2) (n8 := ρ 1) (n9 := ρ 0) (n10 := ρ 10) (n11 := ρ 11) (n12 := ρ 12) (n13 := ρ 13) (H0 := η 0) (H1 := η 1) f27 f26 f25 f24 f23 f22 f21 f20 f19 f18 f17 f16 f15 f14 f13 f12 f11 f10 f9 f8 f7 f6 f5 f4 f3 f2 f1 f0
theorem q_253r_15 {q0 : Nat} {n0 n1 n2 n3 n4 n5 n6 n7 n8 n9 n10 n11 n12 n13 : Int} {H0 H1 : gH} (f0 : n0 ≤ 2147483647) (f1 : (-2147483648) ≤ n0) (f2 : n1 ≤ 2147483647) (f3 : (-2147483648) ≤ n1) (f4 : n2 ≤ 2147483647) (f5 : (-2147483648) ≤ n2) (f6 : n3 ≤ 2147483647) (f7 : (-2147483648) ≤ n3) (f8 : n4 = 285) (f9 : n5 ≤ 2147483647) (f10 : (-2147483648) ≤ n5) (f11 : n6 ≤ 2147483647) (f12 : (-2147483648) ≤ n6) (f13 : n7 ≤ 2147483647) (f14 : (-2147483648) ≤ n7) (f15 : n8 ≤ 2147483647) (f16 : (-2147483648) ≤ n8) (f17 : n9 = 285) (f18 : (hLe T0 H0 H1 ∧ hFr s_253.2.2.2.2 H0 H1 ∧ hWt T0 H1) ∧ ((Ab_253_36 n9 n8 n7 n6 n5 n4 n3 n2 n1 n0 H0 H1 ∧ Bbr_253_36 n9 n8 n7 n6 n5 n4 n3 n2 n1 n0 H0 H1) ∧ preb_253 n9 n8 n7 n6 n5 H0) ∧ some q0 = some (mub_253_36 n9 n8 n7 n6 n5 n4 n3 n2 n1 n0 H0 H1)) (f19 : n10 = 1) (f20 : n3 = n10) (f21 : 0 ≤ n1) (f22 : n1 < n0) (f23 : n11 = (-1)) (f24 : n2 = n11) (f25 : n12 = 240) (f26 : n0 ≤ n12) (f27 : n13 = 3) (f28 : n3 ≠ n13) : Bbr_253_85 n9 n8 n7 n6 n5 n4 n3 n2 n1 n0 H0 H1 := by
  have gb := f18.2.1.1.2
  unfold Bbr_253_36 at gb
  obtain ⟨g1, g2, g3⟩ := gb
  have c8 := f8
  have c17 := f17
  have c19 := f19
  have c23 := f23
  have c25 := f25
  have c27 := f27
  unfold Bbr_253_85
  exact ⟨(rfl).trans g1, (rfl).trans g2, (rfl).trans g3⟩
def g_253r_36_10 : vG := ([(41, [6, 13], [], 0), (0, [13], [], 3), (45, [9, 12], [], 0), (0, [12], [], 240), (40, [7, 11], [], 0), (0, [11], [], -1), (42, [8, 9], [], 0), (33, [8], [], 0), (40, [6, 10], [], 0), (0, [10], [], 1), (5000, [0, 1, 2, 3, 4, 5, 6, 7, 8, 9], [0, 1], 36), (0, [0], [], 285), (90, [1], [], -2147483648), (91, [1], [], 2147483647), (90, [2], [], -2147483648), (91, [2], [], 2147483647), (90, [3], [], -2147483648), (91, [3], [], 2147483647), (90, [4], [], -2147483648), (91, [4], [], 2147483647), (0, [5], [], 285), (90, [6], [], -2147483648), (91, [6], [], 2147483647), (90, [7], [], -2147483648), (91, [7], [], 2147483647), (90, [8], [], -2147483648), (91, [8], [], 2147483647), (90, [9], [], -2147483648), (91, [9], [], 2147483647)], (4000, [5, 6, 7, 8, 9], [1], 85))
theorem c_253r_36_10 {q0 : Nat} : vOkm T0 (eN e_253 L_253r A_253 mu_253 nr_253 Br_253 (some q0)) 5 g_253r_36_10 := vOk_inI fun ρ η f0 f1 f2 f3 f4 f5 f6 f7 f8 f9 f10 f11 f12 f13 f14 f15 f16 f17 f18 f19 f20 f21 f22 f23 f24 f25 f26 f27 f28 => q_253r_15 (q0 := q0) (n0 := ρ 9) (n1 := ρ 8) (n2 := ρ 7) (n3 := ρ 6) (n4 := ρ 5) (n5 := ρ 4) (n6 := ρ 3) (n7 := ρ 2) (n8 := ρ 1) (n9 := ρ 0) (n10 := ρ 10) (n11 := ρ 11) (n12 := ρ 12) (n13 := ρ 13) (H0 := η 0) (H1 := η 1) f28 f27 f26 f25 f24 f23 f22 f21 f20 f19 f18 f17 f16 f15 f14 f13 f12 f11 f10 f9 f8 f7 f6 f5 f4 f3 f2 f1 f0
theorem q_253r_16 {q0 : Nat} {n0 n1 n2 n3 n4 n5 n6 n7 n8 n9 n10 n11 n12 n13 n14 n15 n16 : Int} {H0 H1 H2 : gH} (f0 : n0 ≤ 2147483647) (f1 : (-2147483648) ≤ n0) (f2 : n1 ≤ 2147483647) (f3 : (-2147483648) ≤ n1) (f4 : n2 ≤ 2147483647) (f5 : (-2147483648) ≤ n2) (f6 : n3 ≤ 2147483647) (f7 : (-2147483648) ≤ n3) (f8 : n4 = 285) (f9 : n5 ≤ 2147483647) (f10 : (-2147483648) ≤ n5) (f11 : n6 ≤ 2147483647) (f12 : (-2147483648) ≤ n6) (f13 : n7 ≤ 2147483647) (f14 : (-2147483648) ≤ n7) (f15 : n8 ≤ 2147483647) (f16 : (-2147483648) ≤ n8) (f17 : n9 = 285) (f18 : (hLe T0 H0 H1 ∧ hFr s_253.2.2.2.2 H0 H1 ∧ hWt T0 H1) ∧ ((Ab_253_36 n9 n8 n7 n6 n5 n4 n3 n2 n1 n0 H0 H1 ∧ Bbr_253_36 n9 n8 n7 n6 n5 n4 n3 n2 n1 n0 H0 H1) ∧ preb_253 n9 n8 n7 n6 n5 H0) ∧ some q0 = some (mub_253_36 n9 n8 n7 n6 n5 n4 n3 n2 n1 n0 H0 H1)) (f19 : n10 = 1) (f20 : n3 = n10) (f21 : 0 ≤ n1) (f22 : n1 < n0) (f23 : n11 = (-1)) (f24 : n2 = n11) (f25 : n12 = 240) (f26 : n0 ≤ n12) (f27 : n13 = 3) (f28 : n3 = n13) (f29 : n14 = 0) (f30 : n15 = 7) (f31 : n16 ≤ 1) (f32 : 0 ≤ n16) (f33 : (hLe T0 H1 H2 ∧ hFr s_251.2.2.2.2 H1 H2 ∧ ((0 : Int) = 0 → H2.length = H1.length) ∧ hWt T0 H2) ∧ postb_251 n16 n1 n14 n15 H1 H2) (f34 : n16 ≠ 0) : Bbr_253_85 n9 n8 n7 n6 n5 n4 n3 n2 n1 n0 H0 H2 := by
  have gb := f18.2.1.1.2
  unfold Bbr_253_36 at gb
  obtain ⟨g1, g2, g3⟩ := gb
  have c8 := f8
  have c17 := f17
  have c19 := f19
  have c23 := f23
  have c25 := f25
  have c27 := f27
  have c29 := f29
  have c30 := f30
  unfold Bbr_253_85
  exact ⟨(fRow f33.1.2.1 332 (by decide +kernel)).trans g1, (fRow f33.1.2.1 335 (by decide +kernel)).trans g2, (f33.1.2.1.1 285 64 (by decide +kernel)).trans g3⟩
def g_253r_36_11 : vG := ([(31, [16], [], 0), (1251, [16, 8, 14, 15], [1, 2], 0), (90, [16], [], 0), (91, [16], [], 1), (0, [15], [], 7), (0, [14], [], 0), (40, [6, 13], [], 0), (0, [13], [], 3), (45, [9, 12], [], 0), (0, [12], [], 240), (40, [7, 11], [], 0), (0, [11], [], -1), (42, [8, 9], [], 0), (33, [8], [], 0), (40, [6, 10], [], 0), (0, [10], [], 1), (5000, [0, 1, 2, 3, 4, 5, 6, 7, 8, 9], [0, 1], 36), (0, [0], [], 285), (90, [1], [], -2147483648), (91, [1], [], 2147483647), (90, [2], [], -2147483648), (91, [2], [], 2147483647), (90, [3], [], -2147483648), (91, [3], [], 2147483647), (90, [4], [], -2147483648), (91, [4], [], 2147483647), (0, [5], [], 285), (90, [6], [], -2147483648), (91, [6], [], 2147483647), (90, [7], [], -2147483648), (91, [7], [], 2147483647), (90, [8], [], -2147483648), (91, [8], [], 2147483647), (90, [9], [], -2147483648), (91, [9], [], 2147483647)], (4000, [5, 6, 7, 8, 9], [2], 85))
theorem c_253r_36_11 {q0 : Nat} : vOkm T0 (eN e_253 L_253r A_253 mu_253 nr_253 Br_253 (some q0)) 5 g_253r_36_11 := vOk_inI fun ρ η f0 f1 f2 f3 f4 f5 f6 f7 f8 f9 f10 f11 f12 f13 f14 f15 f16 f17 f18 f19 f20 f21 f22 f23 f24 f25 f26 f27 f28 f29 f30 f31 f32 f33 f34 => q_253r_16 (q0 := q0) (n0 := ρ 9) (n1 := ρ 8) (n2 := ρ 7) (n3 := ρ 6) (n4 := ρ 5) (n5 := ρ 4) (n6 := ρ 3) (n7 := ρ 2) (n8 := ρ 1) (n9 := ρ 0) (n10 := ρ 10) (n11 := ρ 11) (n12 := ρ 12) (n13 := ρ 13) (n14 := ρ 14) (n15 := ρ 15) (n16 := ρ 16) (H0 := η 0) (H1 := η 1) (H2 := η 2) f34 f33 f32 f31 f30 f29 f28 f27 f26 f25 f24 f23 f22 f21 f20 f19 f18 f17 f16 f15 f14 f13 f12 f11 f10 f9 f8 f7 f6 f5 f4 f3 f2 f1 f0
theorem q_253r_17 {q0 : Nat} {n0 n1 n2 n3 n4 n5 n6 n7 n8 n9 n10 n11 n12 n13 n14 n15 n16 n17 : Int} {H0 H1 H2 : gH} (f0 : n0 ≤ 2147483647) (f1 : (-2147483648) ≤ n0) (f2 : n1 ≤ 2147483647) (f3 : (-2147483648) ≤ n1) (f4 : n2 ≤ 2147483647) (f5 : (-2147483648) ≤ n2) (f6 : n3 ≤ 2147483647) (f7 : (-2147483648) ≤ n3) (f8 : n4 = 285) (f9 : n5 ≤ 2147483647) (f10 : (-2147483648) ≤ n5) (f11 : n6 ≤ 2147483647) (f12 : (-2147483648) ≤ n6) (f13 : n7 ≤ 2147483647) (f14 : (-2147483648) ≤ n7) (f15 : n8 ≤ 2147483647) (f16 : (-2147483648) ≤ n8) (f17 : n9 = 285) (f18 : (hLe T0 H0 H1 ∧ hFr s_253.2.2.2.2 H0 H1 ∧ hWt T0 H1) ∧ ((Ab_253_36 n9 n8 n7 n6 n5 n4 n3 n2 n1 n0 H0 H1 ∧ Bbr_253_36 n9 n8 n7 n6 n5 n4 n3 n2 n1 n0 H0 H1) ∧ preb_253 n9 n8 n7 n6 n5 H0) ∧ some q0 = some (mub_253_36 n9 n8 n7 n6 n5 n4 n3 n2 n1 n0 H0 H1)) (f19 : n10 = 1) (f20 : n3 = n10) (f21 : 0 ≤ n1) (f22 : n1 < n0) (f23 : n11 = (-1)) (f24 : n2 = n11) (f25 : n12 = 240) (f26 : n0 ≤ n12) (f27 : n13 = 3) (f28 : n3 = n13) (f29 : n14 = 0) (f30 : n15 = 7) (f31 : n16 ≤ 1) (f32 : 0 ≤ n16) (f33 : (hLe T0 H1 H2 ∧ hFr s_251.2.2.2.2 H1 H2 ∧ ((0 : Int) = 0 → H2.length = H1.length) ∧ hWt T0 H2) ∧ postb_251 n16 n1 n14 n15 H1 H2) (f34 : n16 = 0) (f35 : n17 = (-1)) : nbr_253 n17 n9 n8 n7 n6 n5 H0 H2 := by
  have gb := f18.2.1.1.2
  unfold Bbr_253_36 at gb
  obtain ⟨g1, g2, g3⟩ := gb
  have c8 := f8
  have c17 := f17
  have c19 := f19
  have c23 := f23
  have c25 := f25
  have c27 := f27
  have c29 := f29
  have c30 := f30
  have c35 := f35
  unfold nbr_253
  exact .inl ⟨by omega, (fRow f33.1.2.1 332 (by decide +kernel)).trans g1, (fRow f33.1.2.1 335 (by decide +kernel)).trans g2⟩
def g_253r_36_12 : vG := ([(0, [17], [], -1), (30, [16], [], 0), (1251, [16, 8, 14, 15], [1, 2], 0), (90, [16], [], 0), (91, [16], [], 1), (0, [15], [], 7), (0, [14], [], 0), (40, [6, 13], [], 0), (0, [13], [], 3), (45, [9, 12], [], 0), (0, [12], [], 240), (40, [7, 11], [], 0), (0, [11], [], -1), (42, [8, 9], [], 0), (33, [8], [], 0), (40, [6, 10], [], 0), (0, [10], [], 1), (5000, [0, 1, 2, 3, 4, 5, 6, 7, 8, 9], [0, 1], 36), (0, [0], [], 285), (90, [1], [], -2147483648), (91, [1], [], 2147483647), (90, [2], [], -2147483648), (91, [2], [], 2147483647), (90, [3], [], -2147483648), (91, [3], [], 2147483647), (90, [4], [], -2147483648), (91, [4], [], 2147483647), (0, [5], [], 285), (90, [6], [], -2147483648), (91, [6], [], 2147483647), (90, [7], [], -2147483648), (91, [7], [], 2147483647), (90, [8], [], -2147483648), (91, [8], [], 2147483647), (90, [9], [], -2147483648), (91, [9], [], 2147483647)], (3000, [17], [2], 84))
theorem c_253r_36_12 {q0 : Nat} : vOkm T0 (eN e_253 L_253r A_253 mu_253 nr_253 Br_253 (some q0)) 5 g_253r_36_12 := vOk_inI fun ρ η f0 f1 f2 f3 f4 f5 f6 f7 f8 f9 f10 f11 f12 f13 f14 f15 f16 f17 f18 f19 f20 f21 f22 f23 f24 f25 f26 f27 f28 f29 f30 f31 f32 f33 f34 f35 => q_253r_17 (q0 := q0) (n0 := ρ 9) (n1 := ρ 8) (n2 := ρ 7) (n3 := ρ 6) (n4 := ρ 5) (n5 := ρ 4) (n6 := ρ 3) (n7 := ρ 2) (n8 := ρ 1) (n9 := ρ 0) (n10 := ρ 10) (n11 := ρ 11) (n12 := ρ 12) (n13 := ρ 13) (n14 := ρ 14) (n15 := ρ 15) (n16 := ρ 16) (n17 := ρ 17) (H0 := η 0) (H1 := η 1) (H2 := η 2) f35 f34 f33 f32 f31 f30 f29 f28 f27 f26 f25 f24 f23 f22 f21 f20 f19 f18 f17 f16 f15 f14 f13 f12 f11 f10 f9 f8 f7 f6 f5 f4 f3 f2 f1 f0
def p_253r_36 : List vG := [g_253r_36_0,
  g_253r_36_1,
  g_253r_36_2,
  g_253r_36_3,
  g_253r_36_4,
  g_253r_36_5,
  g_253r_36_6,
  g_253r_36_7,
  g_253r_36_8,
  g_253r_36_9,
  g_253r_36_10,
  g_253r_36_11,
  g_253r_36_12]
theorem r_253r_36 : vCovBO (eRc e_253 L_253 cs_253 2000 (36, [(0, (3, 12, 285, 0)), (1, (0, -2147483648, 2147483647, 0)), (2, (0, -2147483648, 2147483647, 0)), (3, (0, -2147483648, 2147483647, 0)), (4, (0, -2147483648, 2147483647, 0))])) p_253r_36 = true := by decide +kernel
theorem q_253r_18 {q0 : Nat} {n0 n1 n2 n3 n4 n5 n6 n7 n8 n9 n10 n11 : Int} {H0 H1 H2 : gH} (f0 : n0 ≤ 2147483647) (f1 : (-2147483648) ≤ n0) (f2 : n1 ≤ 2147483647) (f3 : (-2147483648) ≤ n1) (f4 : n2 ≤ 2147483647) (f5 : (-2147483648) ≤ n2) (f6 : n3 ≤ 2147483647) (f7 : (-2147483648) ≤ n3) (f8 : n4 = 285) (f9 : n5 ≤ 2147483647) (f10 : (-2147483648) ≤ n5) (f11 : n6 ≤ 2147483647) (f12 : (-2147483648) ≤ n6) (f13 : n7 ≤ 2147483647) (f14 : (-2147483648) ≤ n7) (f15 : n8 ≤ 2147483647) (f16 : (-2147483648) ≤ n8) (f17 : n9 = 285) (f18 : (hLe T0 H0 H1 ∧ hFr s_253.2.2.2.2 H0 H1 ∧ hWt T0 H1) ∧ ((Ab_253_85 n9 n8 n7 n6 n5 n4 n3 n2 n1 n0 H0 H1 ∧ Bbr_253_85 n9 n8 n7 n6 n5 n4 n3 n2 n1 n0 H0 H1) ∧ preb_253 n9 n8 n7 n6 n5 H0) ∧ some q0 = some (mub_253_85 n9 n8 n7 n6 n5 n4 n3 n2 n1 n0 H0 H1)) (f19 : n10 = (-1)) (f20 : n11 ≤ 2147483647) (f21 : (-2147483648) ≤ n11) (f22 : (hLe T0 H1 H2 ∧ hFr s_252.2.2.2.2 H1 H2 ∧ ((0 : Int) = 0 → H2.length = H1.length) ∧ hWt T0 H2) ∧ (postb_252 n11 n4 n3 n2 n1 n0 n10 H1 H2 ∧ nbr_252 n11 n4 n3 n2 n1 n0 n10 H1 H2)) : nbr_253 n11 n9 n8 n7 n6 n5 H0 H2 := by
  have gb := f18.2.1.1.2
  unfold Bbr_253_85 at gb
  obtain ⟨g1, g2, g3⟩ := gb
  have c8 := f8
  have c17 := f17
  have c19 := f19
  unfold nbr_253
  have q := f22.2.2
  unfold nbr_252 RAD at q
  rw [show hV H1 332 = hV H0 332 from (rfl).trans g1] at q
  rw [show hV H1 335 = hV H0 335 from (rfl).trans g2] at q
  rw [show hV H1 285 64 = hV H0 285 64 from (rfl).trans g3] at q
  rw [f19] at q
  exact q
def g_253r_85_0 : vG := ([(1252, [11, 5, 6, 7, 8, 9, 10], [1, 2], 0), (90, [11], [], -2147483648), (91, [11], [], 2147483647), (0, [10], [], -1), (5000, [0, 1, 2, 3, 4, 5, 6, 7, 8, 9], [0, 1], 85), (0, [0], [], 285), (90, [1], [], -2147483648), (91, [1], [], 2147483647), (90, [2], [], -2147483648), (91, [2], [], 2147483647), (90, [3], [], -2147483648), (91, [3], [], 2147483647), (90, [4], [], -2147483648), (91, [4], [], 2147483647), (0, [5], [], 285), (90, [6], [], -2147483648), (91, [6], [], 2147483647), (90, [7], [], -2147483648), (91, [7], [], 2147483647), (90, [8], [], -2147483648), (91, [8], [], 2147483647), (90, [9], [], -2147483648), (91, [9], [], 2147483647)], (3000, [11], [2], 95))
theorem c_253r_85_0 {q0 : Nat} : vOkm T0 (eN e_253 L_253r A_253 mu_253 nr_253 Br_253 (some q0)) 5 g_253r_85_0 := vOk_inI fun ρ η f0 f1 f2 f3 f4 f5 f6 f7 f8 f9 f10 f11 f12 f13 f14 f15 f16 f17 f18 f19 f20 f21 f22 => q_253r_18 (q0 := q0) (n0 := ρ 9) (n1 := ρ 8) (n2 := ρ 7) (n3 := ρ 6) (n4 := ρ 5) (n5 := ρ 4) (n6 := ρ 3) (n7 := ρ 2) (n8 := ρ 1) (n9 := ρ 0) (n10 := ρ 10) (n11 := ρ 11) (H0 := η 0) (H1 := η 1) (H2 := η 2) f22 f21 f20 f19 f18 f17 f16 f15 f14 f13 f12 f11 f10 f9 f8 f7 f6 f5 f4 f3 f2 f1 f0
def p_253r_85 : List vG := [g_253r_85_0]
theorem r_253r_85 : vCovBO (eRc e_253 L_253 cs_253 2000 (85, [(0, (3, 12, 285, 0)), (1, (0, -2147483648, 2147483647, 0)), (2, (0, -2147483648, 2147483647, 0)), (3, (0, -2147483648, 2147483647, 0)), (4, (0, -2147483648, 2147483647, 0))])) p_253r_85 = true := by decide +kernel
theorem m_253r (d : Nat) : eC e_253r (d + 2) := eC_ref (e := e_253) (L := L_253) (L' := L_253r) (cs := cs_253) (n := 2000) (d := d + 1) (A := A_253) (μ := mu_253) (tp := false) (p0 := p_253_s) (p1 := p_253r_s) (N := nr_253) (B := Br_253) rfl ⟨m_251 d, ⟨m_252r d, trivial⟩⟩ rfl (.inl rfl) (by decide +kernel) (fun z => nomatch z) r_253_s (allC c_253_s_0 (allC c_253_s_1 (allC c_253_s_2 (allC c_253_s_3 (allC c_253_s_4 allN))))) (allC (.inl ⟨p_253_36, r_253_36, fun q0 => (allC c_253_36_0 (allC c_253_36_1 (allC c_253_36_2 (allC c_253_36_3 (allC c_253_36_4 (allC c_253_36_5 (allC c_253_36_6 (allC c_253_36_7 (allC c_253_36_8 (allC c_253_36_9 (allC c_253_36_10 (allC c_253_36_11 (allC c_253_36_12 allN)))))))))))))⟩) (allC (.inl ⟨p_253_85, r_253_85, fun q0 => (allC c_253_85_0 (allC c_253_85_1 (allC c_253_85_2 (allC c_253_85_3 (allC c_253_85_4 (allC c_253_85_5 allN))))))⟩) allN)) (sub0 (sub1 trivial)) r_253r_s (allC c_253r_s_0 (allC c_253r_s_1 (allC c_253r_s_2 (allC c_253r_s_3 (allC c_253r_s_4 allN))))) (allC ⟨p_253r_36, r_253r_36, fun q0 => (allC c_253r_36_0 (allC c_253r_36_1 (allC c_253r_36_2 (allC c_253r_36_3 (allC c_253r_36_4 (allC c_253r_36_5 (allC c_253r_36_6 (allC c_253r_36_7 (allC c_253r_36_8 (allC c_253r_36_9 (allC c_253r_36_10 (allC c_253r_36_11 (allC c_253r_36_12 allN)))))))))))))⟩ (allC ⟨p_253r_85, r_253r_85, fun q0 => (allC c_253r_85_0 allN)⟩ allN))
