/-! THE GRAMMAR as pure functions over a view of the TOKENS (hand). A state is (s, w): 0 ≤ s: the TOKEN that comes next; s < 0: a fault of SYNTAX or ROOM; w: what is told only if there is no such fault. A view: kinds, values, names, places. -/
abbrev Vw := (Int → Int) × (Int → Int) × (Int → Int) × (Int → Int)
abbrev PS := Int × Int
def wOK (v : Vw) : Prop := ∀ s : Int, s < 0 → v.1 s = -1
def pOK (p : PS) : Prop := p.1 < 0 → p.2 = 0
def pgz (s w : Int) : PS := (s, if s < 0 then 0 else w)
def pfl (v : Vw) (f s : Int) : Int := if s < 0 then s else -(2 * v.2.2.2 s + f)
def pt1 (v : Vw) (c s : Int) : Int := if s < 0 then s else if v.1 s = c then (if s < 500 then s + 1 else pfl v 2 s) else pfl v 1 s
def pfail (v : Vw) (f : Int) (p : PS) : PS := pgz (pfl v f p.1) p.2
def ptk (v : Vw) (c : Int) (p : PS) : PS := pgz (pt1 v c p.1) p.2
def pnm (v : Vw) (lo hi : Int) (p : PS) : PS := pgz (pt1 v 3 p.1) (if p.2 = 0 ∧ (v.2.1 p.1 < lo ∨ hi < v.2.1 p.1) then 8 * v.2.2.2 p.1 + 5 else p.2)
def pTime (v : Vw) (p : PS) : PS := if v.1 p.1 = 37 then (if v.1 (pnm v 0 7 (ptk v 37 p)).1 = 6 then pnm v 0 60 (ptk v 6 (pnm v 0 7 (ptk v 37 p))) else if v.1 (pnm v 0 7 (ptk v 37 p)).1 = 7 then pnm v 0 60 (ptk v 7 (pnm v 0 7 (ptk v 37 p))) else pnm v 0 7 (ptk v 37 p)) else pnm v 0 60 p
def pOpt (v : Vw) (c lo hi : Int) (p : PS) : PS := if v.1 p.1 = c then pnm v lo hi (ptk v c p) else p
def pSpd (v : Vw) (p : PS) : PS := if v.1 p.1 = 30 then pnm v 1 9 (ptk v 9 (pnm v 1 9 (ptk v 30 p))) else p
def pLay (v : Vw) (p : PS) : PS := pnm v 0 2 (ptk v 31 (pSpd v (pOpt v 29 0 400 (pOpt v 28 0 60 (pOpt v 27 0 60 (pTime v (ptk v 26 (pnm v 0 19 p))))))))
def pFade (v : Vw) (p : PS) : PS := pnm v 0 400 (ptk v 5 (pnm v 0 400 (ptk v 29 (pTime v (ptk v 32 (pTime v (ptk v 27 (pnm v 0 2 p))))))))
def pDip (v : Vw) (p : PS) : PS := pnm v 0 60 (ptk v 35 (pnm v 0 400 (ptk v 34 (pnm v 0 2 (ptk v 33 (pnm v 0 2 p))))))
def pWt (v : Vw) (k : Int) (p : PS) : PS := if v.1 p.1 = 3 ∧ 4 ≤ k then pfail v 2 p else pnm v 0 400 p
def pTl (v : Vw) : Nat → Int → PS → PS
  | 0, _, p => p
  | f + 1, k, p => if v.1 p.1 = 5 then pTl v f (k + 1) (pWt v k (ptk v 5 p)) else p
def pTaps (v : Vw) (p : PS) : PS := pTl v 4 1 (pWt v 0 (ptk v 36 (pnm v 0 2 p)))
/-- the size of a block by its name, -1 if there is none -/
def pfd : List (Int × Int) → Int → Int
  | [], _ => -1
  | (a, z) :: r, x => if a = x then z else pfd r x
def pUse (v : Vw) (bl : List (Int × Int)) (p : PS) : PS := pTime v (ptk v 26 (pgz (pt1 v 2 p.1) (if p.2 = 0 ∧ pfd bl (v.2.2.1 p.1) = -1 then 8 * v.2.2.2 p.1 + 4 else p.2)))
def pBody (v : Vw) (bl : List (Int × Int)) (k : Int) (p : PS) : PS := if k = 20 then pLay v p else if k = 21 then pFade v p else if k = 22 then pDip v p else if k = 23 then pTaps v p else if k = 24 then pnm v 0 9999 p else pUse v bl p
def pCue (v : Vw) (bl : List (Int × Int)) (p : PS) : PS := ptk v 4 (pBody v bl (v.1 p.1) (ptk v (v.1 p.1) p))
def pcz (v : Vw) (bl : List (Int × Int)) (p : PS) : Int := if v.1 p.1 = 25 then (if pfd bl (v.2.2.1 (p.1 + 1)) = -1 then 0 else pfd bl (v.2.2.1 (p.1 + 1))) else 1
def pcap (x : Int) : Int := if x ≤ 1000 then x else 1000
def pIsC (v : Vw) (p : PS) : Prop := 20 ≤ v.1 p.1 ∧ v.1 p.1 ≤ 25
noncomputable def pCues (v : Vw) (bl : List (Int × Int)) : Nat → PS → PS
  | 0, p => if 20 ≤ v.1 p.1 ∧ v.1 p.1 ≤ 25 then pfail v 2 p else p
  | f + 1, p => if 20 ≤ v.1 p.1 ∧ v.1 p.1 ≤ 25 then pCues v bl f (pCue v bl p) else p
noncomputable def pTot (v : Vw) (bl : List (Int × Int)) : Nat → PS → Int → Int
  | 0, _, t => t
  | f + 1, p, t => if 20 ≤ v.1 p.1 ∧ v.1 p.1 ≤ 25 then pTot v bl f (pCue v bl p) (pcap (t + pcz v bl p)) else t
def pNm2 (v : Vw) (bl : List (Int × Int)) (p : PS) : PS := pgz (pt1 v 2 p.1) (if p.2 = 0 ∧ ¬ pfd bl (v.2.2.1 p.1) = -1 then 8 * v.2.2.2 p.1 + 3 else p.2)
noncomputable def pBlock (v : Vw) (bl : List (Int × Int)) (p : PS) : PS := ptk v 17 (pCues v bl 16 (pNm2 v bl (ptk v 16 p)))
noncomputable def pBsz (v : Vw) (bl : List (Int × Int)) (p : PS) : Int × Int := (v.2.2.1 (ptk v 16 p).1, pTot v bl 16 (pNm2 v bl (ptk v 16 p)) 0)
noncomputable def pBlocks (v : Vw) : Nat → PS → List (Int × Int) → PS
  | 0, p, _ => if v.1 p.1 = 16 then pfail v 2 p else p
  | f + 1, p, bl => if v.1 p.1 = 16 then pBlocks v f (pBlock v bl p) (bl ++ [pBsz v bl p]) else p
noncomputable def pTable (v : Vw) : Nat → PS → List (Int × Int) → List (Int × Int)
  | 0, _, bl => bl
  | f + 1, p, bl => if v.1 p.1 = 16 then pTable v f (pBlock v bl p) (bl ++ [pBsz v bl p]) else bl
noncomputable def pLast (v : Vw) (bl : List (Int × Int)) (p : PS) : PS := pgz (ptk v 17 (pCues v bl 16 (ptk v 18 p))).1 (if (ptk v 17 (pCues v bl 16 (ptk v 18 p))).2 = 0 ∧ 40 < pTot v bl 16 (ptk v 18 p) 0 then 8 * v.2.2.2 p.1 + 6 else (ptk v 17 (pCues v bl 16 (ptk v 18 p))).2)
noncomputable def pSheet (v : Vw) (p : PS) : PS := pLast v (pTable v 6 p []) (pBlocks v 6 p [])
-- the rules
def pVar (k : Int) : Prop := 45 ≤ k ∧ k ≤ 49
/-- an E: b = 1: an operand is wanted; o: how many brackets are open -/
noncomputable def pE (v : Vw) : Nat → Int → Int → PS → PS
  | 0, _, _, p => p
  | f + 1, b, o, p => if b = 1 then (if v.1 p.1 = 10 then (if o = 6 then pfail v 2 p else pE v f 1 (o + 1) (ptk v 10 p)) else if v.1 p.1 = 3 ∨ (45 ≤ v.1 p.1 ∧ v.1 p.1 ≤ 49) then pE v f 0 o (ptk v (v.1 p.1) p) else pfail v 1 p)
    else if v.1 p.1 = 11 ∧ 0 < o then pE v f 0 (o - 1) (ptk v 11 p) else if 6 ≤ v.1 p.1 ∧ v.1 p.1 ≤ 9 then pE v f 1 o (ptk v (v.1 p.1) p) else if 0 < o then pfail v 1 p else p
noncomputable def pExp (v : Vw) (p : PS) : PS := pE v (502 - p.1).toNat 1 0 p
noncomputable def pNots (v : Vw) : Nat → PS → PS
  | 0, p => p
  | f + 1, p => if v.1 p.1 = 44 then pNots v f (ptk v 44 p) else p
def pRel (v : Vw) (p : PS) : PS := if 12 ≤ v.1 p.1 ∧ v.1 p.1 ≤ 15 then ptk v (v.1 p.1) p else pfail v 1 p
noncomputable def pLit (v : Vw) (p : PS) : PS := pExp v (pRel v (pExp v (pNots v (502 - p.1).toNat p)))
noncomputable def pCond (v : Vw) : Nat → PS → PS
  | 0, p => p
  | f + 1, p => if v.1 (pLit v p).1 = 42 ∨ v.1 (pLit v p).1 = 43 then pCond v f (ptk v (v.1 (pLit v p).1) (pLit v p)) else pLit v p
noncomputable def pRight (v : Vw) (p : PS) : PS := if v.1 (pExp v (ptk v 38 p)).1 = 39 then pCond v 502 (ptk v 39 (pExp v (ptk v 38 p))) else pExp v (ptk v 38 p)
def pLoud (v : Vw) (p : PS) : PS := pnm v 1 60 (ptk v 41 (pnm v 0 9999 (ptk v 40 p)))
noncomputable def pRs (v : Vw) : Nat → PS → PS
  | 0, p => if v.1 p.1 = 38 ∨ v.1 p.1 = 40 then pfail v 2 p else p
  | f + 1, p => if v.1 p.1 = 38 ∨ v.1 p.1 = 40 then pRs v f (ptk v 4 (if v.1 p.1 = 38 then pRight v p else pLoud v p)) else p
noncomputable def pRules (v : Vw) (p : PS) : PS := ptk v 17 (pRs v 12 (ptk v 19 p))
def pEnd (v : Vw) (p : PS) : PS := if v.1 p.1 = 0 then p else pfail v 1 p
/-- a text -/
noncomputable def pRead (v : Vw) : PS := pEnd v (if v.1 0 = 19 then pRules v (0, 0) else pSheet v (0, 0))
/-- what read answers, and place behind it -/
def pRes (p : PS) : Int := if p.1 < 0 then (if p.1 % 2 = 0 then 2 else 1) else p.2 % 8
def pPlc (p : PS) : Int := if p.1 < 0 then (-p.1 - 1) / 2 else if p.2 = 0 then -1 else p.2 / 8
-- what a fault changes no more
theorem pgz_ok (s w : Int) : pOK (pgz s w) := fun h => if_pos h
theorem pgz_id {p : PS} (h : pOK p) : pgz p.1 p.2 = p := by
  unfold pgz
  by_cases hp : p.1 < 0
  · rw [if_pos hp, ← h hp]
  · rw [if_neg hp]
theorem pgz_neg {p : PS} (hp : p.1 < 0) (h : pOK p) (w : Int) : pgz p.1 w = p := by
  unfold pgz
  rw [if_pos hp, ← h hp]
theorem pfl_neg {v : Vw} {f s : Int} (h : s < 0) : pfl v f s = s := if_pos h
theorem pt1_neg {v : Vw} {c s : Int} (h : s < 0) : pt1 v c s = s := if_pos h
theorem pfail_neg {v : Vw} {f : Int} {p : PS} (hp : p.1 < 0) (h : pOK p) : pfail v f p = p := by
  unfold pfail
  rw [pfl_neg hp, pgz_id h]
theorem ptk_neg {v : Vw} {c : Int} {p : PS} (hp : p.1 < 0) (h : pOK p) : ptk v c p = p := by
  unfold ptk
  rw [pt1_neg hp, pgz_id h]
theorem pnm_neg {v : Vw} {lo hi : Int} {p : PS} (hp : p.1 < 0) (h : pOK p) : pnm v lo hi p = p := by
  unfold pnm
  rw [pt1_neg hp, pgz_neg hp h]
theorem pfail_ok {v : Vw} {f : Int} {p : PS} : pOK (pfail v f p) := pgz_ok _ _
theorem ptk_ok {v : Vw} {c : Int} {p : PS} : pOK (ptk v c p) := pgz_ok _ _
theorem pnm_ok {v : Vw} {lo hi : Int} {p : PS} : pOK (pnm v lo hi p) := pgz_ok _ _
theorem vneg {v : Vw} (hv : wOK v) {s c : Int} (h : s < 0) (hc : 0 ≤ c) : ¬ v.1 s = c := by
  rw [hv s h]
  omega
theorem pTime_neg {v : Vw} {p : PS} (hv : wOK v) (hp : p.1 < 0) (h : pOK p) : pTime v p = p := by
  unfold pTime
  rw [if_neg (vneg hv hp (by decide)), pnm_neg hp h]
theorem pOpt_neg {v : Vw} {c lo hi : Int} {p : PS} (hv : wOK v) (hc : 0 ≤ c) (hp : p.1 < 0) : pOpt v c lo hi p = p := by
  unfold pOpt
  rw [if_neg (vneg hv hp hc)]
theorem pSpd_neg {v : Vw} {p : PS} (hv : wOK v) (hp : p.1 < 0) : pSpd v p = p := by
  unfold pSpd
  rw [if_neg (vneg hv hp (by decide))]
theorem pLay_neg {v : Vw} {p : PS} (hv : wOK v) (hp : p.1 < 0) (h : pOK p) : pLay v p = p := by
  unfold pLay
  rw [pnm_neg hp h, ptk_neg hp h, pTime_neg hv hp h, pOpt_neg hv (by decide) hp, pOpt_neg hv (by decide) hp, pOpt_neg hv (by decide) hp, pSpd_neg hv hp, ptk_neg hp h, pnm_neg hp h]
theorem pFade_neg {v : Vw} {p : PS} (hv : wOK v) (hp : p.1 < 0) (h : pOK p) : pFade v p = p := by
  unfold pFade
  rw [pnm_neg hp h, ptk_neg hp h, pTime_neg hv hp h, ptk_neg hp h, pTime_neg hv hp h, ptk_neg hp h, pnm_neg hp h, ptk_neg hp h, pnm_neg hp h]
theorem pDip_neg {v : Vw} {p : PS} (hp : p.1 < 0) (h : pOK p) : pDip v p = p := by
  unfold pDip
  rw [pnm_neg hp h, ptk_neg hp h, pnm_neg hp h, ptk_neg hp h, pnm_neg hp h, ptk_neg hp h, pnm_neg hp h]
theorem pWt_neg {v : Vw} {k : Int} {p : PS} (hv : wOK v) (hp : p.1 < 0) (h : pOK p) : pWt v k p = p := by
  unfold pWt
  rw [if_neg (fun z => vneg hv hp (by decide) z.1), pnm_neg hp h]
theorem pTl_neg {v : Vw} {f : Nat} {k : Int} {p : PS} (hv : wOK v) (hp : p.1 < 0) : pTl v f k p = p := by
  cases f with
  | zero => rfl
  | succ f =>
    show (if v.1 p.1 = 5 then _ else p) = p
    rw [if_neg (vneg hv hp (by decide))]
theorem pTaps_neg {v : Vw} {p : PS} (hv : wOK v) (hp : p.1 < 0) (h : pOK p) : pTaps v p = p := by
  unfold pTaps
  rw [pnm_neg hp h, ptk_neg hp h, pWt_neg hv hp h, pTl_neg hv hp]
theorem pUse_neg {v : Vw} {bl : List (Int × Int)} {p : PS} (hv : wOK v) (hp : p.1 < 0) (h : pOK p) : pUse v bl p = p := by
  unfold pUse
  rw [pt1_neg hp, pgz_neg hp h, ptk_neg hp h, pTime_neg hv hp h]
theorem pBody_neg {v : Vw} {bl : List (Int × Int)} {k : Int} {p : PS} (hv : wOK v) (hp : p.1 < 0) (h : pOK p) : pBody v bl k p = p := by
  unfold pBody
  rw [pLay_neg hv hp h, pFade_neg hv hp h, pDip_neg hp h, pTaps_neg hv hp h, pnm_neg hp h, pUse_neg hv hp h]
  repeat' split
  all_goals rfl
theorem pCues_stop {v : Vw} {bl : List (Int × Int)} {f : Nat} {p : PS} (h : ¬ (20 ≤ v.1 p.1 ∧ v.1 p.1 ≤ 25)) : pCues v bl f p = p := by
  cases f with
  | zero => exact if_neg h
  | succ f => exact if_neg h
theorem pTot_stop {v : Vw} {bl : List (Int × Int)} {f : Nat} {p : PS} {t : Int} (h : ¬ (20 ≤ v.1 p.1 ∧ v.1 p.1 ≤ 25)) : pTot v bl f p t = t := by
  cases f with
  | zero => rfl
  | succ f => exact if_neg h
theorem pCues_neg {v : Vw} {bl : List (Int × Int)} {f : Nat} {p : PS} (hv : wOK v) (hp : p.1 < 0) : pCues v bl f p = p := pCues_stop (by rw [hv _ hp]; omega)
theorem pTot_neg {v : Vw} {bl : List (Int × Int)} {f : Nat} {p : PS} {t : Int} (hv : wOK v) (hp : p.1 < 0) : pTot v bl f p t = t := pTot_stop (by rw [hv _ hp]; omega)
theorem pNm2_neg {v : Vw} {bl : List (Int × Int)} {p : PS} (hp : p.1 < 0) (h : pOK p) : pNm2 v bl p = p := by
  unfold pNm2
  rw [pt1_neg hp, pgz_neg hp h]
theorem pBlocks_stop {v : Vw} {f : Nat} {p : PS} {bl : List (Int × Int)} (h : ¬ v.1 p.1 = 16) : pBlocks v f p bl = p := by
  cases f with
  | zero => exact if_neg h
  | succ f => exact if_neg h
theorem pTable_stop {v : Vw} {f : Nat} {p : PS} {bl : List (Int × Int)} (h : ¬ v.1 p.1 = 16) : pTable v f p bl = bl := by
  cases f with
  | zero => rfl
  | succ f => exact if_neg h
theorem pE_neg {v : Vw} {f : Nat} {b o : Int} {p : PS} (hv : wOK v) (hp : p.1 < 0) (h : pOK p) : pE v f b o p = p := by
  cases f with
  | zero => rfl
  | succ f =>
    have e := hv _ hp
    unfold pE
    rw [pfail_neg hp h, pfail_neg hp h, e]
    by_cases hb : b = 1
    · rw [if_pos hb, if_neg (by decide), if_neg (by decide)]
    · rw [if_neg hb, if_neg (by omega), if_neg (by decide)]
      split <;> rfl
theorem pExp_neg {v : Vw} {p : PS} (hv : wOK v) (hp : p.1 < 0) (h : pOK p) : pExp v p = p := pE_neg hv hp h
theorem pNots_neg {v : Vw} {f : Nat} {p : PS} (hv : wOK v) (hp : p.1 < 0) : pNots v f p = p := by
  cases f with
  | zero => rfl
  | succ f => exact if_neg (vneg hv hp (by decide))
theorem pRel_neg {v : Vw} {p : PS} (hv : wOK v) (hp : p.1 < 0) (h : pOK p) : pRel v p = p := by
  unfold pRel
  rw [hv _ hp, if_neg (by decide), pfail_neg hp h]
theorem pLit_neg {v : Vw} {p : PS} (hv : wOK v) (hp : p.1 < 0) (h : pOK p) : pLit v p = p := by
  unfold pLit
  rw [pNots_neg hv hp, pExp_neg hv hp h, pRel_neg hv hp h, pExp_neg hv hp h]
theorem pCond_neg {v : Vw} {f : Nat} {p : PS} (hv : wOK v) (hp : p.1 < 0) (h : pOK p) : pCond v f p = p := by
  cases f with
  | zero => rfl
  | succ f =>
    show (if v.1 (pLit v p).1 = 42 ∨ v.1 (pLit v p).1 = 43 then _ else pLit v p) = p
    rw [pLit_neg hv hp h, hv _ hp, if_neg (by decide)]
theorem pRight_neg {v : Vw} {p : PS} (hv : wOK v) (hp : p.1 < 0) (h : pOK p) : pRight v p = p := by
  unfold pRight
  rw [ptk_neg hp h, pExp_neg hv hp h, if_neg (vneg hv hp (by decide))]
theorem pLoud_neg {v : Vw} {p : PS} (hp : p.1 < 0) (h : pOK p) : pLoud v p = p := by
  unfold pLoud
  rw [ptk_neg hp h, pnm_neg hp h, ptk_neg hp h, pnm_neg hp h]
theorem pRs_stop {v : Vw} {f : Nat} {p : PS} (h : ¬ (v.1 p.1 = 38 ∨ v.1 p.1 = 40)) : pRs v f p = p := by
  cases f with
  | zero => exact if_neg h
  | succ f => exact if_neg h
theorem pRs_neg {v : Vw} {f : Nat} {p : PS} (hv : wOK v) (hp : p.1 < 0) : pRs v f p = p := pRs_stop (by rw [hv _ hp]; omega)
