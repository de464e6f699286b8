/-! A MACHINE'S TEXT, purely -/
abbrev tyF (α : Type) : Type := (Nat × Nat) ⊕ α
def bF {α β : Type} (r : tyF α) (f : α → tyF β) : tyF β := match r with
  | .inl e => .inl e
  | .inr q => f q
theorem bF_l {α β : Type} (e : Nat × Nat) (f : α → tyF β) : bF (.inl e) f = .inl e := rfl
theorem bF_r {α β : Type} (q : α) (f : α → tyF β) : bF (.inr q) f = f q := rfl
section Mp
variable (tp : Nat → Nat) (n : Nat)
def pWd (i : Nat) (σ : tyT) : tyF tyT := if isW tp n σ i = true then .inr (nW tp n σ) else .inl (1, σ.1)
def pSg (c : Nat) (σ : tyT) : tyF tyT := if isS tp n σ c = true then .inr (nS tp n σ) else .inl (1, σ.1)
def pNu (lo hi : Nat) (σ : tyT) : tyF (Nat × tyT) := if isN tp n σ = true then (if rn isD tp n σ.1 - σ.1 ≤ 4 then (if lo ≤ nv tp n σ ∧ nv tp n σ ≤ hi then .inr (nv tp n σ, nD tp n σ) else .inl (2, σ.1)) else .inl (1, σ.1 + 4)) else .inl (1, σ.1)
/-- letters from 1 on -/
def ltr (σ : tyT) : List Nat := (sub tp σ.1 (rn isL tp n σ.1 - σ.1)).map (fun c => c - 96)
/-- a word begins here that is none of the language's own -/
def isNm (σ : tyT) : Bool := (decide (σ.1 < n) && isL (tp σ.1) && !σ.2) && (fnd (fun i => isW tp n σ i) 25 0).isNone
def pNm (σ : tyT) : tyF (List Nat × tyT) := if isNm tp n σ = true then (if rn isL tp n σ.1 - σ.1 ≤ 6 then .inr (ltr tp n σ, nW tp n σ) else .inl (1, σ.1 + 6)) else .inl (1, σ.1)
def pMem (σ : tyT) : tyF (tyB × tyT) := bF (pWd tp n 0 σ) fun σ1 => bF (pNu tp n 64 1024 σ1) fun q => bF (pWd tp n 1 q.2) fun σ2 => bF (pNu tp n 4 8 σ2) fun q2 => .inr ((q2.1, q.1, 0, fun _ => [], fun _ => 0, fun _ => []), q2.2)
def updA {α : Type} (f : Nat → α) (i : Nat) (v : α) : Nat → α := fun j => if j = i then v else f j
def tws (B : tyB) (l : List Nat) : Bool := (fnd (fun s => decide (B.2.2.2.1 s = l)) B.2.2.1 0).isSome
def adS (B : tyB) (l : List Nat) (k : Nat) : tyB := (B.1, B.2.1, B.2.2.1 + 1, updA B.2.2.2.1 B.2.2.1 l, updA B.2.2.2.2.1 B.2.2.1 k, B.2.2.2.2.2)
def pShf (B : tyB) (σ : tyT) : tyF (tyB × tyT) := if B.2.2.1 < 4 then bF (pNm tp n (nW tp n σ)) fun q => if tws B q.1 = true then .inl (3, (nW tp n σ).1) else bF (pWd tp n 3 q.2) fun σ2 => bF (pNu tp n 1 7 σ2) fun k => .inr (adS B q.1 k.1, k.2) else .inl (5, σ.1)
def adC (B : tyB) (w : Nat) (c : List Nat) : tyB := (B.1, B.2.1, B.2.2.1, B.2.2.2.1, B.2.2.2.2.1, updA B.2.2.2.2.2 w c)
def pFm (w : Nat) (B : tyB) (σ : tyT) : tyF (tyB × tyT) := if (B.2.2.2.2.2 w).isEmpty = true then (match pD tp n w 100 (tgW w) 0 (nW tp n σ) with
  | none => .inl (0, 0)
  | some (.inl e) => .inl e
  | some (.inr q) => .inr (adC B w q.1, q.2)) else .inl (5, σ.1)
def pStm (B : tyB) (σ : tyT) : tyF (tyB × tyT) := if isW tp n σ 2 = true then pShf tp n B σ else if isW tp n σ 4 = true then pFm tp n 0 B σ else if isW tp n σ 5 = true then pFm tp n 1 B σ else if isW tp n σ 6 = true then pFm tp n 2 B σ else .inl (1, σ.1)
def pEnd (r : tyF (tyB × tyT)) : tyF (tyB × tyT) := bF r fun q => bF (pSg tp n 59 q.2) fun σ => .inr (q.1, σ)
def pLp : Nat → Nat → tyB → tyT → tyF (Nat × tyB)
  | 0, k, B, σ => if σ.1 < n then .inl (5, σ.1) else .inr (k, B)
  | m + 1, k, B, σ => if σ.1 < n then bF (pEnd tp n (pStm tp n B σ)) fun q => pLp m (k + 1) q.1 q.2 else .inr (k, B)
def pMac : tyF (Nat × tyB) := bF (pEnd tp n (pMem tp n (sk tp n 0, false))) fun q => pLp tp n 39 1 q.1 q.2
end Mp
/-! what such a machine keeps to: its own, and where the text stands -/
def okQ (B : tyB) : Prop := 4 ≤ B.1 ∧ B.1 ≤ 8 ∧ 64 ≤ B.2.1 ∧ B.2.1 ≤ 1024 ∧ B.2.2.1 ≤ 4 ∧ (∀ s, s < B.2.2.1 → 1 ≤ (B.2.2.2.1 s).length ∧ (B.2.2.2.1 s).length ≤ 6 ∧ ∀ c ∈ B.2.2.2.1 s, 1 ≤ c ∧ c ≤ 26) ∧ (∀ s, s < B.2.2.1 → 1 ≤ B.2.2.2.2.1 s ∧ B.2.2.2.2.1 s ≤ 7) ∧ (∀ w, w < 3 → B.2.2.2.2.2 w = [] ∨ tyC (alC w) (B.2.2.2.2.2 w) [] = some [decide (w = 2)])
section Mq
variable {tp : Nat → Nat} {n : Nat} {σ : tyT} {B : tyB}
theorem isNm_t (h : isNm tp n σ = true) : σ.1 < n ∧ isL (tp σ.1) = true ∧ σ.2 = false ∧ ∀ i, i < 25 → isW tp n σ i = false := by
  unfold isNm at h
  simp only [Bool.and_eq_true, decide_eq_true_eq, Bool.not_eq_true', Option.isNone_iff_eq_none] at h
  obtain ⟨⟨⟨h1, h2⟩, h3⟩, h4⟩ := h
  exact ⟨h1, h2, h3, fun i hi => fnd_nn (p := fun i => isW tp n σ i) 25 0 h4 i (by omega) (by omega)⟩
theorem isNm_f (h : ¬ isNm tp n σ = true) : ¬ (σ.1 < n ∧ isL (tp σ.1) = true ∧ σ.2 = false) ∨ ∃ i, i < 25 ∧ isW tp n σ i = true := by
  by_cases c : σ.1 < n ∧ isL (tp σ.1) = true ∧ σ.2 = false
  · right
    cases e : fnd (fun i => isW tp n σ i) 25 0 with
    | none =>
      exfalso
      apply h
      unfold isNm
      rw [e]
      simp [c.1, c.2.1, c.2.2]
    | some i =>
      obtain ⟨-, h2, h3⟩ := fnd_s _ _ _ e
      exact ⟨i, by omega, h3⟩
  · exact Or.inl c
theorem nWL_ok (q1 : σ.1 < n) (q2 : isL (tp σ.1) = true) : okS tp n (nW tp n σ) ∧ σ.1 < (nW tp n σ).1 := by
  have g := rn_gt (p := isL) (tp := tp) (n := n) q1 q2
  have l := rn_le (p := isL) (tp := tp) (n := n) (q := σ.1) (by omega)
  have s := rn_ge (p := isB) (tp := tp) (n := n) (rn isL tp n σ.1)
  refine ⟨okS.sk l _, ?_⟩
  show σ.1 < rn isB tp n (rn isL tp n σ.1)
  omega
theorem ltr_ok (q1 : σ.1 < n) (q2 : isL (tp σ.1) = true) : 1 ≤ (ltr tp n σ).length ∧ (ltr tp n σ).length = rn isL tp n σ.1 - σ.1 ∧ ∀ c ∈ ltr tp n σ, 1 ≤ c ∧ c ≤ 26 := by
  have g := rn_gt (p := isL) (tp := tp) (n := n) q1 q2
  have l : (ltr tp n σ).length = rn isL tp n σ.1 - σ.1 := by unfold ltr; rw [List.length_map, sub_len]
  refine ⟨by omega, l, fun c hc => ?_⟩
  unfold ltr at hc
  obtain ⟨d, hd, rfl⟩ := List.mem_map.mp hc
  obtain ⟨j, hj, e⟩ := List.mem_iff_getElem.mp hd
  rw [sub_len] at hj
  have e2 : (sub tp σ.1 (rn isL tp n σ.1 - σ.1)).getD j 0 = tp (σ.1 + j) := sub_get tp _ _ j hj
  rw [List.getD_eq_getElem?_getD, List.getElem?_eq_getElem (by rw [sub_len]; exact hj), e] at e2
  have e3 : d = tp (σ.1 + j) := e2
  have r := rn_in (p := isL) (tp := tp) (n := n) (q := σ.1) (j := σ.1 + j) (by omega) (by omega)
  rw [← e3] at r
  unfold isL at r
  simp only [Bool.and_eq_true, decide_eq_true_eq] at r
  omega
/-- a result as it can be -/
def gdF (n : Nat) (σ : tyT) (tp : Nat → Nat) (r : tyF (tyB × tyT)) : Prop := match r with
  | .inl e => 1 ≤ e.1 ∧ e.1 ≤ 100
  | .inr q => okQ q.1 ∧ okS tp n q.2 ∧ σ.1 < q.2.1
end Mq
