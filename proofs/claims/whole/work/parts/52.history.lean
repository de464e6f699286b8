/-! the history: a state is kept, a state comes back -/
theorem j_min (a b : Int32) (h : aH) : f_J9_min_7cf53 a b h = some (if b < a then b else a, h) := by
  simp only [f_J9_min_7cf53, f_J9_min_7cf53_10]
  split <;> rfl
theorem j_max (a b : Int32) (h : aH) : f_J9_max_7cf53 a b h = some (if a < b then b else a, h) := by
  simp only [f_J9_max_7cf53, f_J9_max_7cf53_10]
  split <;> rfl
/-- the flags of a State's pointers -/
def flg (h : aH) (s : Nat) : Prop := ∀ k, k < 32 → (hI h (s + 7 + k) 0 = 0 ∨ hI h (s + 7 + k) 0 = 1) ∧ (hI h (s + 7 + k) 1 = 0 ∨ hI h (s + 7 + k) 1 = 1)
def nx1 (n : Nat) : Nat := if n + 1 < 20 then n + 1 else 0
def nx0 (n : Nat) : Nat := if n = 0 then 19 else n - 1
/-- behind keep: the state at q is that at s, the history at y is one on -/
def keepH (h : aH) (y q s n c : Nat) : aH := sI (sI (cpA h q s) y 1 (nI (nx1 n))) y 0 (nI (min 20 (c + 1)))
section Hi
variable {h : aH} {y q s n c : Nat}
theorem y_cpA {j : Nat} (hy : y < q ∨ q + 39 ≤ y) : hI (cpA h q s) y j = hI h y j := by
  rw [hI_cpA, if_neg (by omega), if_neg (by omega), if_neg (by omega), if_neg (by omega), if_neg (by omega)]
theorem h_keep28 (ky : hK h y = some (.inl 2)) (ry : hR h y 2 = some (y + 1)) (ka : hK h (y + 1) = some (.inr (.object RX9, 20))) (hn : hI h y 1 = nI n) (h20 : n < 20) (hc : hI h y 0 = nI c) (c20 : c ≤ 20) (hq : hR h (y + 1) n = some q) (Q : SS h q) (S : SS h s) (ho : q + 39 ≤ s ∨ s + 39 ≤ q) (hy : y < q ∨ q + 39 ≤ y) (hf : flg h s) : f_X2_keep_28 y s h = some ((), keepH h y q s n c) := by
  have B := s_become Q S ho hf
  have k1 : hK (cpA h q s) y = some (.inl 2) := ky
  have k2 : ∀ v, hK (sI (cpA h q s) y 1 v) y = some (.inl 2) := fun _ => ky
  have e1 : hI (cpA h q s) y 1 = nI n := by rw [y_cpA hy]; exact hn
  have e2 : ∀ v, hI (sI (cpA h q s) y 1 v) y 0 = nI c := fun v => by rw [hI_sI, if_neg (by omega), y_cpA hy]; exact hc
  have e3 : (if nI (c + 1) < (20 : Int32) then nI (c + 1) else 20) = nI (min 20 (c + 1)) := by
    by_cases q1 : c + 1 < 20
    · rw [if_pos (show nI (c + 1) < (20 : Int32) from nI_lt (b := 20) q1 (by omega)), Nat.min_eq_right (by omega)]
    · rw [if_neg (show ¬ nI (c + 1) < (20 : Int32) from nI_nlt (a := c + 1) (b := 20) (by omega) (by omega)), Nat.min_eq_left (by omega)]
      rfl
  have g : ∀ v, f_X2_keep_63 y y v (cpA h q s) = some ((), sI (sI (cpA h q s) y 1 v) y 0 (nI (min 20 (c + 1)))) := by
    intro v
    simp only [f_X2_keep_63, ko_t k1, nm, e2, nI_1, j_min, bd_s, e3, ko_t (k2 v)]
  simp only [f_X2_keep_28, ko_t ky, kr_t ry, ka_t ka, hn, chk_t (inb_nI h20 (show 20 < 2 ^ 31 by omega)), tn_nI (show n < 2 ^ 31 by omega), kr_t hq, ko_t Q.k, B, bd_s, ko_t k1, e1, nI_1, g]
  by_cases q1 : n + 1 < 20
  · rw [if_neg (show ¬ (20 : Int32) ≤ nI (n + 1) from nI_ge (b := 20) q1 (by omega))]
    simp [keepH, nx1, q1]
  · rw [if_pos (show (20 : Int32) ≤ nI (n + 1) from nI_le (a := 20) (by omega) (by omega))]
    simp only [keepH, nx1, if_neg q1]
    rfl
theorem h_keep_old (ky : hK h y = some (.inl 2)) (ry : hR h y 2 = some (y + 1)) (ka : hK h (y + 1) = some (.inr (.object RX9, 20))) (hn : hI h y 1 = nI n) (h20 : n < 20) (hc : hI h y 0 = nI c) (c20 : c ≤ 20) (hq : hR h (y + 1) n = some q) (Q : SS h q) (S : SS h s) (ho : q + 39 ≤ s ∨ s + 39 ≤ q) (hy : y < q ∨ q + 39 ≤ y) (hf : flg h s) : f_X2_keep y s h = some ((), keepH h y q s n c) := by
  have e : ∀ {β : Type} (a : Option β) (f : Nat → Option β), kn (hR h (y + 1) n) a f = f q := fun a f => by rw [hq]; rfl
  simp only [f_X2_keep, ko_t ky, kr_t ry, ka_t ka, hn, chk_t (inb_nI h20 (show 20 < 2 ^ 31 by omega)), tn_nI (show n < 2 ^ 31 by omega), e]
  exact h_keep28 ky ry ka hn h20 hc c20 hq Q S ho hy hf
/-- behind undo: the state at s is that at q -/
def backH (h : aH) (y q s n c : Nat) : aH := sI (sI (cpA h s q) y 1 (nI (nx0 n))) y 0 (nI (c - 1))
theorem h_back_no (ky : hK h y = some (.inl 2)) (hc : hI h y 0 = 0) : f_X2_goBack y s h = some (0, h) := by
  simp only [f_X2_goBack, f_X2_goBack_18, f_X2_goBack_35, ko_t ky, hc]
  split <;> rfl
theorem h_back (ky : hK h y = some (.inl 2)) (ry : hR h y 2 = some (y + 1)) (ka : hK h (y + 1) = some (.inr (.object RX9, 20))) (hn : hI h y 1 = nI n) (h20 : n < 20) (hc : hI h y 0 = nI c) (c20 : c ≤ 20) (c0 : 0 < c) (hq : hR h (y + 1) (nx0 n) = some q) (Q : SS h q) (S : SS h s) (ho : q + 39 ≤ s ∨ s + 39 ≤ q) (hy : y < s ∨ s + 39 ≤ y) (hf : flg h q) : f_X2_goBack y s h = some (1, backH h y q s n c) := by
  have B := s_become S Q (by omega) hf
  have k1 : hK (cpA h s q) y = some (.inl 2) := ky
  have e2 : ∀ v, hI (sI (cpA h s q) y 1 v) y 0 = nI c := fun v => by rw [hI_sI, if_neg (by omega), y_cpA hy]; exact hc
  have l20 : nx0 n < 20 := by unfold nx0; split <;> omega
  have e : ∀ {β : Type} (a : Option β) (f : Nat → Option β), kn (hR h (y + 1) (nx0 n)) a f = f q := fun a f => by rw [hq]; rfl
  have hc0 : ¬ nI c = 0 := nI_ne0 c0 (by omega)
  have g : f_X2_goBack_18 y s (nI (nx0 n)) h = some (1, backH h y q s n c) := by
    simp only [f_X2_goBack_18, ko_t ky, hc, if_neg hc0, kr_t ry, ka_t ka, chk_t (inb_nI l20 (show 20 < 2 ^ 31 by omega)), tn_nI (show nx0 n < 2 ^ 31 by omega), e, kr_t hq, ko_t S.k, B, bd_s, ko_t k1, nm, e2, backH]
    rw [show nI c - 1 = nI (c - 1) from pk_sub (b := 1) (by omega)]
  simp only [f_X2_goBack, ko_t ky, hn]
  by_cases q1 : n = 0
  · subst q1
    rw [if_pos (by decide)]
    exact g
  · rw [if_neg (nI_nle (by omega) (by omega)), show nI n - 1 = nI (n - 1) from pk_sub (b := 1) (by omega)]
    have : nx0 n = n - 1 := by unfold nx0; rw [if_neg q1]
    rw [← this]
    exact g
end Hi
