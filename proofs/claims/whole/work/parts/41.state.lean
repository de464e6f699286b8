/-! loops, once and for all -/
def itr {σ : Type} (f : Nat → σ → σ) : Nat → Nat → σ → σ
  | 0, _, s => s
  | n + 1, i, s => itr f n (i + 1) (f i s)
theorem loop_itr {σ ρ : Type} (F : Nat → Nat → σ → Option ρ) (N : Nat) (step : Nat → σ → σ) (fn : σ → ρ) (inv : Nat → σ → Prop) (hb : ∀ n i s, i < N → inv i s → F (n + 1) i s = F n (i + 1) (step i s) ∧ inv (i + 1) (step i s)) (he : ∀ n s, inv N s → F (n + 1) N s = some (fn s)) :
    ∀ (k i : Nat) (s : σ) (n : Nat), i + k = N → inv i s → k < n → F n i s = some (fn (itr step k i s)) ∧ inv N (itr step k i s) := by
  intro k
  induction k with
  | zero =>
    intro i s n hi hs hn
    obtain ⟨m, rfl⟩ : ∃ m, n = m + 1 := ⟨n - 1, by omega⟩
    have hi : i = N := by omega
    subst hi
    exact ⟨he m s hs, hs⟩
  | succ k ih =>
    intro i s n hi hs hn
    obtain ⟨m, rfl⟩ : ∃ m, n = m + 1 := ⟨n - 1, by omega⟩
    obtain ⟨h1, h2⟩ := hb m i s (by omega) hs
    rw [h1]
    exact ih (i + 1) (step i s) m (by omega) h2 (by omega)
/-- the first of k from i on -/
def fnd (p : Nat → Bool) : Nat → Nat → Option Nat
  | 0, _ => none
  | k + 1, i => if p i then some i else fnd p k (i + 1)
theorem loop_fnd {ρ : Type} (F : Nat → Nat → Option ρ) (N : Nat) (p : Nat → Bool) (hit : Nat → ρ) (miss : ρ) (hb : ∀ n i, i < N → F (n + 1) i = if p i then some (hit i) else F n (i + 1)) (he : ∀ n, F (n + 1) N = some miss) :
    ∀ (k i n : Nat), i + k = N → k < n → F n i = some (match fnd p k i with | none => miss | some j => hit j) := by
  intro k
  induction k with
  | zero =>
    intro i n hi hn
    obtain ⟨m, rfl⟩ : ∃ m, n = m + 1 := ⟨n - 1, by omega⟩
    have hi : i = N := by omega
    subst hi
    exact he m
  | succ k ih =>
    intro i n hi hn
    obtain ⟨m, rfl⟩ : ∃ m, n = m + 1 := ⟨n - 1, by omega⟩
    rw [hb m i (by omega)]
    by_cases hp : p i
    · simp [fnd, hp]
    · simp only [fnd, hp]
      exact ih (i + 1) m (by omega) (by omega)
theorem fnd_congr {p q : Nat → Bool} : ∀ (k i : Nat), (∀ j, i ≤ j → j < i + k → p j = q j) → fnd p k i = fnd q k i := by
  intro k
  induction k with
  | zero => intro i _; rfl
  | succ k ih =>
    intro i h
    simp only [fnd, h i (by omega) (by omega), ih (i + 1) (fun j h1 h2 => h j (by omega) (by omega))]
theorem itr_congr {σ : Type} {f g : Nat → σ → σ} : ∀ (k i : Nat) (s : σ), (∀ j s, i ≤ j → j < i + k → f j s = g j s) → itr f k i s = itr g k i s := by
  intro k
  induction k with
  | zero => intro i s _; rfl
  | succ k ih =>
    intro i s h
    simp only [itr]
    rw [h i s (by omega) (by omega)]
    exact ih (i + 1) (g i s) (fun j s h1 h2 => h j s (by omega) (by omega))
theorem FU_gt {k : Nat} (h : k ≤ 5000) : k < FU := by unfold FU; omega
/-! the class's State at s: its rows stand behind it, then its pointers -/
def SS (h : aH) (s : Nat) : Prop := hK h s = some (.inl 9) ∧ hR h s 0 = some (s + 1) ∧ hR h s 1 = some (s + 2) ∧ hR h s 2 = some (s + 3) ∧ hR h s 3 = some (s + 4) ∧ hR h s 4 = some (s + 5) ∧ hR h s 5 = some (s + 6) ∧ hK h (s + 1) = some (.inr (.object RX6, 32)) ∧ hK h (s + 2) = some (.inr (.int, 32)) ∧ hK h (s + 3) = some (.inr (.int, 32)) ∧ hK h (s + 4) = some (.inr (.int, 32)) ∧ hK h (s + 5) = some (.inr (.int, 120)) ∧ hK h (s + 6) = some (.inr (.int, 256)) ∧ (∀ k, k < 32 → hR h (s + 1) k = some (s + 7 + k)) ∧ (∀ k, k < 32 → hK h (s + 7 + k) = some (.inl 6))
section St
variable {h : aH} {s : Nat}
theorem SS.k (S : SS h s) : hK h s = some (.inl 9) := S.1
theorem SS.r0 (S : SS h s) : hR h s 0 = some (s + 1) := S.2.1
theorem SS.r1 (S : SS h s) : hR h s 1 = some (s + 2) := S.2.2.1
theorem SS.r2 (S : SS h s) : hR h s 2 = some (s + 3) := S.2.2.2.1
theorem SS.r3 (S : SS h s) : hR h s 3 = some (s + 4) := S.2.2.2.2.1
theorem SS.r4 (S : SS h s) : hR h s 4 = some (s + 5) := S.2.2.2.2.2.1
theorem SS.r5 (S : SS h s) : hR h s 5 = some (s + 6) := S.2.2.2.2.2.2.1
theorem SS.k1 (S : SS h s) : hK h (s + 1) = some (.inr (.object RX6, 32)) := S.2.2.2.2.2.2.2.1
theorem SS.k2 (S : SS h s) : hK h (s + 2) = some (.inr (.int, 32)) := S.2.2.2.2.2.2.2.2.1
theorem SS.k3 (S : SS h s) : hK h (s + 3) = some (.inr (.int, 32)) := S.2.2.2.2.2.2.2.2.2.1
theorem SS.k4 (S : SS h s) : hK h (s + 4) = some (.inr (.int, 32)) := S.2.2.2.2.2.2.2.2.2.2.1
theorem SS.k5 (S : SS h s) : hK h (s + 5) = some (.inr (.int, 120)) := S.2.2.2.2.2.2.2.2.2.2.2.1
theorem SS.k6 (S : SS h s) : hK h (s + 6) = some (.inr (.int, 256)) := S.2.2.2.2.2.2.2.2.2.2.2.2.1
theorem SS.rp (S : SS h s) {k : Nat} (hk : k < 32) : hR h (s + 1) k = some (s + 7 + k) := S.2.2.2.2.2.2.2.2.2.2.2.2.2.1 k hk
theorem SS.kp (S : SS h s) {k : Nat} (hk : k < 32) : hK h (s + 7 + k) = some (.inl 6) := S.2.2.2.2.2.2.2.2.2.2.2.2.2.2 k hk
theorem SS.of {h1 : aH} (S : SS h s) (e1 : hK h1 = hK h) (e2 : hR h1 = hR h) : SS h1 s := by unfold SS; rw [e1, e2]; exact S
theorem nI_lt_lit {a b : Nat} (h : a < b) (hb : b < 2 ^ 31) : ¬ (nI b ≤ nI a) := nI_ge h hb
def cntV (h : aH) (s : Nat) (i : Nat) (acc : Int32) : Int32 := if hI h (s + 7 + i) 1 = 0 then acc else acc + 1
theorem s_countValid (S : SS h s) : f_X9_countValid s h = some (itr (cntV h s) 16 0 0, h) := by
  have := (loop_itr (fun n i acc => f_X9_countValid_4 n s acc (nI i) h) 16 (cntV h s) (fun r => (r, h)) (fun _ _ => True) (fun n i acc hi _ => ⟨?_, trivial⟩) (fun n acc _ => ?_) 16 0 0 FU (by omega) trivial (FU_gt (by omega))).1
  · exact this
  · have h1 : ¬ (16 : Int32) ≤ nI i := nI_ge (b := 16) hi (by omega)
    have e1 : (nI i).toNatClampNeg = i := tn_nI (by omega)
    simp only [f_X9_countValid_4, b_X9_countValid_4, f_X9_countValid_25, if_neg h1, ko_t S.k, kr_t S.r0, ka_t S.k1, chk_t (inb_nI (show i < 32 by omega) (by omega)), e1, kr_t (S.rp (show i < 32 by omega)), ko_t (S.kp (show i < 32 by omega)), nm, nI_1, cntV]
    split <;> rfl
  · have h1 : (16 : Int32) ≤ nI 16 := by decide
    simp only [f_X9_countValid_4, b_X9_countValid_4, if_pos h1]
def sumA (h : aH) (a : Nat) (i : Nat) (acc : Int32) : Int32 := acc + hI h a i
theorem s_bytesInObjects (S : SS h s) {n : Nat} (hn : hI h s 6 = nI n) (h32 : n ≤ 32) : f_X9_bytesInObjects s h = some (itr (sumA h (s + 3)) n 0 0, h) := by
  have := (loop_itr (fun m i acc => f_X9_bytesInObjects_4 m s acc (nI i) h) n (sumA h (s + 3)) (fun r => (r, h)) (fun _ _ => True) (fun m i acc hi _ => ⟨?_, trivial⟩) (fun m acc _ => ?_) n 0 0 FU (by omega) trivial (FU_gt (by omega))).1
  · exact this
  · have h1 : ¬ nI n ≤ nI i := nI_ge hi (by omega)
    have e1 : (nI i).toNatClampNeg = i := tn_nI (by omega)
    simp only [f_X9_bytesInObjects_4, b_X9_bytesInObjects_4, ko_t S.k, hn, if_neg h1, kr_t S.r2, ka_t S.k3, chk_t (inb_nI (show i < 32 by omega) (by omega)), e1, nm, nI_1, sumA]
  · simp only [f_X9_bytesInObjects_4, b_X9_bytesInObjects_4, ko_t S.k, hn, if_pos (Int32.le_refl (nI n))]
theorem s_bytesAsked (S : SS h s) {n : Nat} (hn : hI h s 6 = nI n) (h32 : n ≤ 32) : f_X9_bytesAsked s h = some (itr (sumA h (s + 4)) n 0 0, h) := by
  have := (loop_itr (fun m i acc => f_X9_bytesAsked_4 m s acc (nI i) h) n (sumA h (s + 4)) (fun r => (r, h)) (fun _ _ => True) (fun m i acc hi _ => ⟨?_, trivial⟩) (fun m acc _ => ?_) n 0 0 FU (by omega) trivial (FU_gt (by omega))).1
  · exact this
  · have h1 : ¬ nI n ≤ nI i := nI_ge hi (by omega)
    have e1 : (nI i).toNatClampNeg = i := tn_nI (by omega)
    simp only [f_X9_bytesAsked_4, b_X9_bytesAsked_4, ko_t S.k, hn, if_neg h1, kr_t S.r3, ka_t S.k4, chk_t (inb_nI (show i < 32 by omega) (by omega)), e1, nm, nI_1, sumA]
  · simp only [f_X9_bytesAsked_4, b_X9_bytesAsked_4, ko_t S.k, hn, if_pos (Int32.le_refl (nI n))]
theorem s_objectWith (S : SS h s) {n : Nat} (hn : hI h s 6 = nI n) (h32 : n ≤ 32) (b l : Int32) : f_X9_objectWith s b l h = some (match fnd (fun i => decide (hI h (s + 2) i = b) && decide (hI h (s + 3) i = l)) n 0 with | none => -1 | some j => nI j, h) := by
  have := loop_fnd (fun m i => f_X9_objectWith_2 m s b l (nI i) h) n (fun i => decide (hI h (s + 2) i = b) && decide (hI h (s + 3) i = l)) (fun j => (nI j, h)) (-1, h) (fun m i hi => ?_) (fun m => ?_) n 0 FU (by omega) (FU_gt (by omega))
  · refine Eq.trans this ?_
    cases fnd (fun i => decide (hI h (s + 2) i = b) && decide (hI h (s + 3) i = l)) n 0 <;> rfl
  · have h1 : ¬ nI n ≤ nI i := nI_ge hi (by omega)
    have e1 : (nI i).toNatClampNeg = i := tn_nI (by omega)
    simp only [f_X9_objectWith_2, b_X9_objectWith_2, f_X9_objectWith_32, ko_t S.k, hn, if_neg h1, kr_t S.r1, kr_t S.r2, ka_t S.k2, ka_t S.k3, chk_t (inb_nI (show i < 32 by omega) (by omega)), e1, nm, nI_1]
    by_cases c1 : hI h (s + 2) i = b <;> by_cases c2 : hI h (s + 3) i = l <;> simp [c1, c2]
  · simp only [f_X9_objectWith_2, b_X9_objectWith_2, ko_t S.k, hn, if_pos (Int32.le_refl (nI n))]
end St
