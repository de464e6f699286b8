/-! THE TEXTS: formulas, by descent. What comes: a fault and its place, or codes (the reference's) and where the next token begins; none: too little fuel. -/
abbrev tyR : Type := Option ((Nat × Nat) ⊕ (List Nat × tyT))
def bR (r : tyR) (f : List Nat → tyT → tyR) : tyR := match r with
  | none => none
  | some (.inl e) => some (.inl e)
  | some (.inr q) => f q.1 q.2
def fl (k p : Nat) : tyR := some (.inl (k, p))
def ok (c : List Nat) (σ : tyT) : tyR := some (.inr (c, σ))
/-- which of the words of formulas are allowed -/
def alW (w j : Nat) : Bool := if w = 0 then decide (j < 3) else if w = 1 then decide (j = 0) else if w = 2 then decide (3 ≤ j) && decide (j ≤ 6) else decide (3 ≤ j)
/-- the class's number of a word of formulas -/
def cw (j : Nat) : Nat := askW (12 + j)
section Des
variable (tp : Nat → Nat) (n w : Nat) (F : Nat → Nat → tyT → tyR)
def pTL (o : Nat) : Nat → List Nat → tyT → tyR
  | 0, c, σ => ok c σ
  | k + 1, c, σ => if isW tp n σ 19 = true then bR (F 1 o (nW tp n σ)) fun c2 σ2 => pTL o k (c ++ c2 ++ [11]) σ2 else ok c σ
def pTest (o : Nat) (σ : tyT) : tyR := bR (F 1 o σ) fun c σ1 => pTL tp n F o 1600 c σ1
def pBL (o : Nat) : Nat → List Nat → tyT → tyR
  | 0, c, σ => ok c σ
  | k + 1, c, σ => if isW tp n σ 20 = true then bR (F 2 o (nW tp n σ)) fun c2 σ2 => pBL o k (c ++ c2 ++ [10]) σ2 else ok c σ
def pBoth (o : Nat) (σ : tyT) : tyR := bR (F 2 o σ) fun c σ1 => pBL tp n F o 1600 c σ1
def pCmp (o : Nat) (c1 : List Nat) (σ : tyT) (q : Nat) : tyR := bR (F 3 o (nS tp n σ)) fun c2 σ2 => ok (c1 ++ c2 ++ [q]) σ2
def pFact (o : Nat) (σ : tyT) : tyR :=
  if isW tp n σ 22 = true then ok [13] (nW tp n σ)
  else if isW tp n σ 21 = true then (if o < 6 then bR (F 2 (o + 1) (nW tp n σ)) fun c σ1 => ok (c ++ [12]) σ1 else fl 4 σ.1)
  else if isS tp n σ 91 = true then (if o < 6 then bR (F 0 (o + 1) (nS tp n σ)) fun c σ1 => if isS tp n σ1 93 = true then ok c (nS tp n σ1) else fl 1 σ1.1 else fl 4 σ.1)
  else bR (F 3 o σ) fun c1 σ1 => if isS tp n σ1 60 = true then pCmp tp n F o c1 σ1 7 else if isS tp n σ1 62 = true then pCmp tp n F o c1 σ1 8 else if isS tp n σ1 61 = true then pCmp tp n F o c1 σ1 9 else fl 1 σ1.1
def pSL (o : Nat) : Nat → List Nat → tyT → tyR
  | 0, c, σ => ok c σ
  | k + 1, c, σ => if isS tp n σ 43 = true then bR (F 4 o (nS tp n σ)) fun c2 σ2 => pSL o k (c ++ c2 ++ [1]) σ2 else if isS tp n σ 45 = true then bR (F 4 o (nS tp n σ)) fun c2 σ2 => pSL o k (c ++ c2 ++ [2]) σ2 else ok c σ
def pSum (o : Nat) (σ : tyT) : tyR := bR (F 4 o σ) fun c σ1 => pSL tp n F o 1600 c σ1
def pML (o : Nat) : Nat → List Nat → tyT → tyR
  | 0, c, σ => ok c σ
  | k + 1, c, σ => if isS tp n σ 42 = true then bR (F 5 o (nS tp n σ)) fun c2 σ2 => pML o k (c ++ c2 ++ [3]) σ2 else if isS tp n σ 47 = true then bR (F 5 o (nS tp n σ)) fun c2 σ2 => pML o k (c ++ c2 ++ [4]) σ2 else ok c σ
def pProd (o : Nat) (σ : tyT) : tyR := bR (F 5 o σ) fun c σ1 => pML tp n F o 1600 c σ1
def pPart (o : Nat) (σ : tyT) : tyR :=
  if isN tp n σ = true then (if rn isD tp n σ.1 - σ.1 ≤ 4 then ok [1000 + nv tp n σ] (nD tp n σ) else fl 1 (σ.1 + 4))
  else if isS tp n σ 40 = true then (if o < 6 then bR (F 3 (o + 1) (nS tp n σ)) fun c σ1 => if isS tp n σ1 41 = true then ok c (nS tp n σ1) else fl 1 σ1.1 else fl 4 σ.1)
  else if isW tp n σ 23 = true then F 6 o σ
  else if isW tp n σ 24 = true then F 6 o σ
  else F 7 o σ
def pPair (o : Nat) (σ : tyT) : tyR :=
  if isS tp n (nW tp n σ) 40 = true then (if o < 6 then bR (F 3 (o + 1) (nS tp n (nW tp n σ))) fun c1 σ2 => if isS tp n σ2 44 = true then bR (F 3 (o + 1) (nS tp n σ2)) fun c2 σ3 => if isS tp n σ3 41 = true then ok (c1 ++ c2 ++ [if isW tp n σ 23 = true then 5 else 6]) (nS tp n σ3) else fl 1 σ3.1 else fl 1 σ2.1 else fl 4 (nW tp n σ).1) else fl 1 (nW tp n σ).1
/-- which word of formulas is here -/
def wJ (σ : tyT) : Option Nat := fnd (fun j => isW tp n σ (cw j)) 13 0
def pWord (o : Nat) (σ : tyT) : tyR := match wJ tp n σ with
  | none => fl 1 σ.1
  | some j => if alW w j = true then (if 11 ≤ j then (if o < 6 then bR (F 5 (o + 1) (nW tp n σ)) fun c σ1 => ok (c ++ [60 + (j - 11)]) σ1 else fl 4 σ.1) else ok [40 + j] (nW tp n σ)) else fl 1 σ.1
end Des
def pD (tp : Nat → Nat) (n w : Nat) : Nat → Nat → Nat → tyT → tyR
  | 0 => fun _ _ _ => none
  | f + 1 => fun t o σ => match t with
    | 0 => pTest tp n (pD tp n w f) o σ
    | 1 => pBoth tp n (pD tp n w f) o σ
    | 2 => pFact tp n (pD tp n w f) o σ
    | 3 => pSum tp n (pD tp n w f) o σ
    | 4 => pProd tp n (pD tp n w f) o σ
    | 5 => pPart tp n (pD tp n w f) o σ
    | 6 => pPair tp n (pD tp n w f) o σ
    | _ => pWord tp n w (pD tp n w f) o σ
/-! it never lacks fuel, it always gets on, its codes are of their kinds -/
/-- how high above -/
def hgt (t : Nat) : Nat := if t = 0 then 6 else if t = 1 then 5 else if t = 2 then 4 else if t = 3 then 3 else if t = 4 then 2 else if t = 5 then 1 else 0
/-- how many values wait at most -/
def dpt (t o : Nat) : Nat := if t = 0 then 3 * (7 - o) + 6 else if t = 1 then 3 * (7 - o) + 5 else if t = 2 then 3 * (7 - o) + 4 else if t = 3 then 3 * (7 - o) + 3 else if t = 4 then 3 * (7 - o) + 2 else 3 * (7 - o) + 1
/-- what codes do to kinds of values -/
def tyR1 (w : Nat) (c : List Nat) (d : Nat) (t : Bool) : Prop := c ≠ [] ∧ ∀ s : List Bool, s.length + d ≤ 60 → ∀ l, tyC (alC w) (c ++ l) s = tyC (alC w) l (t :: s)
/-- a result as it can be -/
def gdR (tp : Nat → Nat) (n w : Nat) (σ : tyT) (d : Nat) (t : Bool) (r : tyR) : Prop := match r with
  | none => False
  | some (.inl e) => e.2 ≤ n
  | some (.inr q) => okS tp n q.2 ∧ σ.1 < q.2.1 ∧ q.1.length + σ.1 ≤ q.2.1 ∧ tyR1 w q.1 d t
