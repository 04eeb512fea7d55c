/-! A READING OF THE REFERENCE by the told state (hand; behind mixr.lean.txt and the print of refh.py). -/
theorem read_R {r x : Int} {a b : gH} (z : nb_221 r x a b) (k : KEYS a) (f : hFr s_221.2.2.2.2 a b) (mt : MT (mR a)) (ir : IRm a) : IRm b ∧ (mR b, r) = mRead (mR a) := by
  obtain ⟨mf, ms, me, m5, m6, m7, mz⟩ := MTr mt
  have e286 := fRow f 286 (by decide +kernel)
  have e60 := f.1 285 60 (by decide +kernel)
  have e325 := fRow f 325 (by decide +kernel)
  have e326 := fRow f 326 (by decide +kernel)
  have e327 := fRow f 327 (by decide +kernel)
  unfold nb_221 at z
  rcases z k with ⟨z1, z2, z3, z4, z5, z6⟩ | ⟨z1, z2, z3, z4, z5⟩
  · refine ⟨IRm_same z5 e60 z6 ir, ?_⟩
    rw [mR_mk (a := a) z3 (BT_same e286) z4 z5 e60 e325 e326 e327 (tdR_same z5 e60 z6), show mRead (mR a) = _ from if_pos (show 8 ≤ hV a 285 18 by omega), z2]
    rfl
  · have n8 : ¬ 8 ≤ (mR a).2.2.2.1 := by
      show ¬ 8 ≤ hV a 285 18
      omega
    rcases z5 with ⟨w1, w2, w3, w4⟩ | ⟨w1, w2, w3⟩
    · have ir2 : IRm b := fun s hs => by
        rw [w4, e60, uF_at]
        by_cases c : (s : Int) = hV a 285 18
        · rw [if_pos c]
          omega
        · rw [if_neg c]
          exact ir s (by omega)
      have td : tdR b = 1 := tdR_1 (s := (hV a 285 18).toNat) (by omega) (by rw [w4, e60, uF_at, if_pos (by omega)])
      refine ⟨ir2, ?_⟩
      rw [mR_mk (a := a) z4 (BT_same e286) z3 w3 e60 e325 e326 e327 td, z2]
      unfold mRead
      rw [if_neg n8, if_pos ⟨z2.symm.trans w1, w2⟩]
      rfl
    · refine ⟨IRm_same w2 e60 w3 ir, ?_⟩
      rw [mR_mk (a := a) z4 (BT_same e286) z3 w2 e60 e325 e326 e327 (tdR_same w2 e60 w3), z2]
      unfold mRead
      rw [if_neg n8, if_neg (fun c => w1 ⟨z2.trans c.1, c.2⟩)]
      rfl
