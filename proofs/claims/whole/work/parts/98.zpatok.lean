/-! THE TEXTS: tokens. A state is where the next token begins and whether it stands side by side with a word or a number. -/
def isB (c : Nat) : Bool := decide (c = 10) || decide (c = 32)
def isL (c : Nat) : Bool := decide (97 ≤ c) && decide (c ≤ 122)
def isD (c : Nat) : Bool := decide (48 ≤ c) && decide (c ≤ 57)
def rnF (p : Nat → Bool) (tp : Nat → Nat) (n : Nat) : Nat → Nat → Nat
  | 0, q => q
  | f + 1, q => if q < n ∧ p (tp q) = true then rnF p tp n f (q + 1) else q
/-- the end of a run -/
def rn (p : Nat → Bool) (tp : Nat → Nat) (n q : Nat) : Nat := rnF p tp n (n - q) q
section Rn
variable {p : Nat → Bool} {tp : Nat → Nat} {n : Nat}
theorem rn_t {q : Nat} (h : q < n) (hp : p (tp q) = true) : rn p tp n q = rn p tp n (q + 1) := by
  unfold rn
  obtain ⟨f, hf⟩ : ∃ f, n - q = f + 1 := ⟨n - q - 1, by omega⟩
  rw [hf, show n - (q + 1) = f by omega]
  show (if q < n ∧ p (tp q) = true then rnF p tp n f (q + 1) else q) = _
  rw [if_pos ⟨h, hp⟩]
theorem rn_f {q : Nat} (h : ¬ (q < n ∧ p (tp q) = true)) : rn p tp n q = q := by
  unfold rn
  cases hf : n - q with
  | zero => rfl
  | succ f =>
    show (if q < n ∧ p (tp q) = true then rnF p tp n f (q + 1) else q) = q
    rw [if_neg h]
theorem rn_all (d : Nat) : ∀ q, n - q = d → q ≤ rn p tp n q ∧ (q ≤ n → rn p tp n q ≤ n) ∧ ¬ (rn p tp n q < n ∧ p (tp (rn p tp n q)) = true) ∧ ∀ j, q ≤ j → j < rn p tp n q → p (tp j) = true := by
  induction d with
  | zero =>
    intro q hd
    rw [rn_f (by omega)]
    exact ⟨Nat.le_refl _, fun h => h, by omega, fun j h1 h2 => by omega⟩
  | succ d ih =>
    intro q hd
    by_cases c : q < n ∧ p (tp q) = true
    · obtain ⟨i1, i2, i3, i4⟩ := ih (q + 1) (by omega)
      rw [rn_t c.1 c.2]
      refine ⟨by omega, fun _ => i2 (by omega), i3, fun j h1 h2 => ?_⟩
      by_cases e : j = q
      · rw [e]; exact c.2
      · exact i4 j (by omega) h2
    · rw [rn_f c]
      exact ⟨Nat.le_refl _, fun h => h, c, fun j h1 h2 => by omega⟩
theorem rn_ge (q : Nat) : q ≤ rn p tp n q := (rn_all _ q rfl).1
theorem rn_le {q : Nat} (h : q ≤ n) : rn p tp n q ≤ n := (rn_all _ q rfl).2.1 h
theorem rn_end (q : Nat) : ¬ (rn p tp n q < n ∧ p (tp (rn p tp n q)) = true) := (rn_all _ q rfl).2.2.1
theorem rn_in {q j : Nat} (h1 : q ≤ j) (h2 : j < rn p tp n q) : p (tp j) = true := (rn_all _ q rfl).2.2.2 j h1 h2
theorem rn_gt {q : Nat} (h : q < n) (hp : p (tp q) = true) : q < rn p tp n q := by rw [rn_t h hp]; exact rn_ge _
theorem rn_idem (q : Nat) : rn p tp n (rn p tp n q) = rn p tp n q := rn_f (rn_end q)
end Rn
abbrev tyT : Type := Nat × Bool
def sub (tp : Nat → Nat) : Nat → Nat → List Nat
  | _, 0 => []
  | s, k + 1 => tp s :: sub tp (s + 1) k
theorem sub_len (tp : Nat → Nat) : ∀ k s, (sub tp s k).length = k := by
  intro k
  induction k with
  | zero => intro s; rfl
  | succ k ih => intro s; show (sub tp (s + 1) k).length + 1 = _; rw [ih]
theorem sub_get (tp : Nat → Nat) : ∀ k s j, j < k → (sub tp s k).getD j 0 = tp (s + j) := by
  intro k
  induction k with
  | zero => intro s j h; omega
  | succ k ih =>
    intro s j h
    cases j with
    | zero => rfl
    | succ j =>
      show (sub tp (s + 1) k).getD j 0 = _
      rw [ih (s + 1) j (by omega)]
      congr 1; omega
section Tk
variable (tp : Nat → Nat) (n : Nat)
def sk (q : Nat) : Nat := rn isB tp n q
def isW (σ : tyT) (i : Nat) : Bool := decide (σ.1 < n) && isL (tp σ.1) && !σ.2 && decide (WD i = sub tp σ.1 (rn isL tp n σ.1 - σ.1))
def isS (σ : tyT) (c : Nat) : Bool := decide (σ.1 < n) && decide (tp σ.1 = c)
def isN (σ : tyT) : Bool := decide (σ.1 < n) && isD (tp σ.1) && !σ.2
def nW (σ : tyT) : tyT := (sk tp n (rn isL tp n σ.1), decide (sk tp n (rn isL tp n σ.1) = rn isL tp n σ.1))
def nD (σ : tyT) : tyT := (sk tp n (rn isD tp n σ.1), decide (sk tp n (rn isD tp n σ.1) = rn isD tp n σ.1))
def nS (σ : tyT) : tyT := (sk tp n (σ.1 + 1), false)
/-- a state as it can be -/
def okS (σ : tyT) : Prop := σ.1 ≤ n ∧ ¬ (σ.1 < n ∧ isB (tp σ.1) = true)
/-- the value of a number's first digits -/
def nvF : Nat → Nat → Nat → Nat
  | 0, _, v => v
  | k + 1, s, v => nvF k (s + 1) (10 * v + (tp s - 48))
def nv (σ : tyT) : Nat := nvF tp (min 4 (rn isD tp n σ.1 - σ.1)) σ.1 0
end Tk
section Tk2
variable {tp : Nat → Nat} {n : Nat} {σ : tyT}
theorem okS.sk {q : Nat} (h : q ≤ n) (b : Bool) : okS tp n (sk tp n q, b) := ⟨rn_le h, rn_end q⟩
theorem isW_t {i : Nat} (h : isW tp n σ i = true) : σ.1 < n ∧ isL (tp σ.1) = true ∧ σ.2 = false ∧ WD i = sub tp σ.1 (rn isL tp n σ.1 - σ.1) := by
  unfold isW at h
  simp only [Bool.and_eq_true, decide_eq_true_eq, Bool.not_eq_true'] at h
  exact ⟨h.1.1.1, h.1.1.2, h.1.2, h.2⟩
theorem isS_t {c : Nat} (h : isS tp n σ c = true) : σ.1 < n ∧ tp σ.1 = c := by
  unfold isS at h
  simp only [Bool.and_eq_true, decide_eq_true_eq] at h
  exact h
theorem isN_t (h : isN tp n σ = true) : σ.1 < n ∧ isD (tp σ.1) = true ∧ σ.2 = false := by
  unfold isN at h
  simp only [Bool.and_eq_true, decide_eq_true_eq, Bool.not_eq_true'] at h
  exact ⟨h.1.1, h.1.2, h.2⟩
theorem nW_ok {i : Nat} (h : isW tp n σ i = true) : okS tp n (nW tp n σ) ∧ σ.1 < (nW tp n σ).1 := by
  obtain ⟨h1, h2, h3, h4⟩ := isW_t h
  have g := rn_gt (p := isL) h1 h2
  have g2 := rn_ge (p := isB) (tp := tp) (n := n) (rn isL tp n σ.1)
  exact ⟨okS.sk (rn_le (by omega)) _, by show σ.1 < rn isB tp n (rn isL tp n σ.1); omega⟩
theorem nS_ok {c : Nat} (h : isS tp n σ c = true) : okS tp n (nS tp n σ) ∧ σ.1 < (nS tp n σ).1 := by
  obtain ⟨h1, h2⟩ := isS_t h
  have g2 := rn_ge (p := isB) (tp := tp) (n := n) (σ.1 + 1)
  exact ⟨okS.sk (by omega) _, by show σ.1 < rn isB tp n (σ.1 + 1); omega⟩
theorem nD_ok (h : isN tp n σ = true) : okS tp n (nD tp n σ) ∧ σ.1 < (nD tp n σ).1 := by
  obtain ⟨h1, h2, h3⟩ := isN_t h
  have g := rn_gt (p := isD) h1 h2
  have g2 := rn_ge (p := isB) (tp := tp) (n := n) (rn isD tp n σ.1)
  exact ⟨okS.sk (rn_le (by omega)) _, by show σ.1 < rn isB tp n (rn isD tp n σ.1); omega⟩
theorem WD_inj : ∀ i, i < 31 → ∀ j, j < 31 → WD i = WD j → i = j := by decide +kernel
theorem isW_inj {i j : Nat} (hi : i < 31) (hj : j < 31) (h1 : isW tp n σ i = true) (h2 : isW tp n σ j = true) : i = j :=
  WD_inj i hi j hj ((isW_t h1).2.2.2.trans (isW_t h2).2.2.2.symm)
theorem isWS {i c : Nat} (hc : isL c = false) (h : isW tp n σ i = true) : isS tp n σ c = false := by
  obtain ⟨h1, h2, -⟩ := isW_t h
  unfold isS
  have : ¬ tp σ.1 = c := by rintro rfl; rw [h2] at hc; cases hc
  simp [this]
theorem isWN {i : Nat} (h : isW tp n σ i = true) : isN tp n σ = false := by
  obtain ⟨h1, h2, -⟩ := isW_t h
  unfold isN isL isD at *
  simp only [Bool.and_eq_true, decide_eq_true_eq] at h2
  have : ¬ tp σ.1 ≤ 57 := by omega
  simp [this]
theorem isSS {c d : Nat} (hc : ¬ c = d) (h : isS tp n σ c = true) : isS tp n σ d = false := by
  obtain ⟨h1, h2⟩ := isS_t h
  unfold isS
  have : ¬ tp σ.1 = d := by rw [h2]; exact hc
  simp [this]
theorem isSW {i c : Nat} (hc : isL c = false) (h : isS tp n σ c = true) : isW tp n σ i = false := by
  cases q : isW tp n σ i with
  | false => rfl
  | true => rw [isWS hc q] at h; cases h
theorem isSN {c : Nat} (hc : isD c = false) (h : isS tp n σ c = true) : isN tp n σ = false := by
  obtain ⟨h1, h2⟩ := isS_t h
  unfold isN
  rw [h2, hc]
  simp
theorem isNS {c : Nat} (hc : isD c = false) (h : isN tp n σ = true) : isS tp n σ c = false := by
  cases q : isS tp n σ c with
  | false => rfl
  | true => rw [isSN hc q] at h; cases h
theorem isNW {i : Nat} (h : isN tp n σ = true) : isW tp n σ i = false := by
  cases q : isW tp n σ i with
  | false => rfl
  | true => rw [isWN q] at h; cases h
theorem nvF_le : ∀ (k s v : Nat), (∀ j, s ≤ j → j < s + k → isD (tp j) = true) → nvF tp k s v < (v + 1) * 10 ^ k := by
  intro k
  induction k with
  | zero => intro s v _; show v < (v + 1) * 1; omega
  | succ k ih =>
    intro s v h
    have i := ih (s + 1) (10 * v + (tp s - 48)) (fun j h1 h2 => h j (by omega) (by omega))
    have d := h s (by omega) (by omega)
    unfold isD at d
    simp only [Bool.and_eq_true, decide_eq_true_eq] at d
    show nvF tp k (s + 1) (10 * v + (tp s - 48)) < _
    refine Nat.lt_of_lt_of_le i ?_
    rw [Nat.pow_succ, Nat.mul_comm (10 ^ k) 10, ← Nat.mul_assoc]
    exact Nat.mul_le_mul_right _ (by omega)
theorem nv_le : nv tp n σ ≤ 9999 := by
  unfold nv
  have g := nvF_le (tp := tp) (min 4 (rn isD tp n σ.1 - σ.1)) σ.1 0 (fun j h1 h2 => rn_in (n := n) h1 (by omega))
  have : 10 ^ min 4 (rn isD tp n σ.1 - σ.1) ≤ 10 ^ 4 := Nat.pow_le_pow_right (by omega) (by omega)
  rw [Nat.zero_add, Nat.one_mul] at g
  omega
end Tk2
