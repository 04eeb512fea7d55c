/-! THE TOKENS of a text, told by its bytes (hand; behind base2.lean.txt; compiled clean). -/
def isLe (c : Int) : Prop := 97 ≤ c ∧ c ≤ 122
def isDi (c : Int) : Prop := 48 ≤ c ∧ c ≤ 57
def isBl (c : Int) : Prop := c = 9 ∨ c = 10 ∨ c = 13 ∨ c = 32
/-- how many letters there are from i on (fuel, i) -/
def pLe (B : Nat → Int) (n : Nat) : Nat → Nat → Nat
  | 0, _ => 0
  | f + 1, i => if i < n ∧ 97 ≤ B i ∧ B i ≤ 122 then pLe B n f (i + 1) + 1 else 0
def pDi (B : Nat → Int) (n : Nat) : Nat → Nat → Nat
  | 0, _ => 0
  | f + 1, i => if i < n ∧ 48 ≤ B i ∧ B i ≤ 57 then pDi B n f (i + 1) + 1 else 0
/-- m letters from i on as a number of a base -/
def pCd (b : Int) (B : Nat → Int) : Nat → Nat → Int → Int
  | 0, _, x => x
  | m + 1, i, x => pCd b B m (i + 1) (x * b + (B i - 96))
def pVa (B : Nat → Int) : Nat → Nat → Int → Int
  | 0, _, x => x
  | m + 1, i, x => pVa B m (i + 1) (x * 10 + (B i - 48))
theorem pCd_add {b : Int} {B : Nat → Int} : ∀ {m i : Nat} {x : Int}, pCd b B (m + 1) i x = pCd b B m i x * b + (B (i + m) - 96) := by
  intro m
  induction m with
  | zero => intro i x; rfl
  | succ m ih =>
    intro i x
    show pCd b B (m + 1) (i + 1) (x * b + (B i - 96)) = pCd b B m (i + 1) (x * b + (B i - 96)) * b + _
    rw [ih, show i + 1 + m = i + (m + 1) by omega]
theorem pVa_add {B : Nat → Int} : ∀ {m i : Nat} {x : Int}, pVa B (m + 1) i x = pVa B m i x * 10 + (B (i + m) - 48) := by
  intro m
  induction m with
  | zero => intro i x; rfl
  | succ m ih =>
    intro i x
    show pVa B (m + 1) (i + 1) (x * 10 + (B i - 48)) = pVa B m (i + 1) (x * 10 + (B i - 48)) * 10 + _
    rw [ih, show i + 1 + m = i + (m + 1) by omega]
/-- a key word's kind by its name, base 27 (2: none such) -/
def kwN : List Int := [1310105, 4027, 10258643, 9988183, 8800, 118940, 3175, 394840, 68056, 15827, 47, 131638, 4797, 138767, 10416091, 388705, 555, 11438892, 79, 168727, 411, 257105, 9748424, 249, 247702, 257, 423, 1111, 10631, 7434633727, 8434683, 237307, 95688694, 4351162]
def kwL (x : Int) : Int → List Int → Int
  | _, [] => 2
  | k, y :: l => if y = x then k else kwL x (k + 1) l
def kwK (x : Int) : Int := kwL x 16 kwN
/-- a sign: its kind; two signs: the kind of both, 1 if there is none -/
def sg1 (c : Int) : Int := if c = 59 then 4 else if c = 44 then 5 else if c = 43 then 6 else if c = 45 then 7 else if c = 42 then 8 else if c = 47 then 9 else if c = 40 then 10 else if c = 41 then 11 else if c = 60 then 14 else 1
def sg2 (c : Int) : Int := if c = 61 then 12 else if c = 33 then 13 else if c = 60 then 15 else 1
abbrev Tok := Int × Int × Int × Int
def tkL (B : Nat → Int) (n i : Nat) : Tok := if 8 < pLe B n (n - i) i then (1, (i : Int), 0, 0) else if kwK (pCd 27 B (pLe B n (n - i) i) i 0) = 2 then (2, (i : Int), 0, pCd 27 B (pLe B n (n - i) i) i 0) else (kwK (pCd 27 B (pLe B n (n - i) i) i 0), (i : Int), 0, 0)
def tkD (B : Nat → Int) (n i : Nat) : Tok := if 4 < pDi B n (n - i) i then (1, (i : Int), 0, 0) else (3, (i : Int), pVa B (pDi B n (n - i) i) i 0, 0)
def two (B : Nat → Int) (n i : Nat) : Prop := i + 1 < n ∧ B (i + 1) = 61 ∧ ¬ sg2 (B i) = 1
/-- all TOKENS from i on (fuel, i) -/
noncomputable def pTk (B : Nat → Int) (n : Nat) : Nat → Nat → List Tok
  | 0, _ => []
  | f + 1, i => if i < n then
      (if B i = 9 ∨ B i = 10 ∨ B i = 13 ∨ B i = 32 then pTk B n f (i + 1)
      else if 97 ≤ B i ∧ B i ≤ 122 then tkL B n i :: pTk B n f (i + pLe B n (n - i) i)
      else if 48 ≤ B i ∧ B i ≤ 57 then tkD B n i :: pTk B n f (i + pDi B n (n - i) i)
      else if i + 1 < n ∧ B (i + 1) = 61 ∧ ¬ sg2 (B i) = 1 then (sg2 (B i), (i : Int), 0, 0) :: pTk B n f (i + 2)
      else (sg1 (B i), (i : Int), 0, 0) :: pTk B n f (i + 1))
    else []
/-- what stands at place s of a list of TOKENS (kind, place, value, name), n: the text's length -/
def tkAt (L : List Tok) (n : Int) (s : Int) : Tok := if s < 0 then (-1, 0, 0, 0) else if 500 < s then (0, 0, 0, 0) else match L[s.toNat]? with
  | some t => t
  | none => if s = (L.length : Int) then (0, n, 0, 0) else (0, 0, 0, 0)
noncomputable def pTx (B : Nat → Int) (n : Int) : Vw := (fun s => (tkAt (pTk B n.toNat n.toNat 0) n s).1, fun s => (tkAt (pTk B n.toNat n.toNat 0) n s).2.2.1, fun s => (tkAt (pTk B n.toNat n.toNat 0) n s).2.2.2, fun s => (tkAt (pTk B n.toNat n.toNat 0) n s).2.1)
