/-! THE TEXTS: the class reads a question from end to end -/
theorem c_readQ {h : aH} {x a n : Nat} {tp : Nat → Nat} (S : XS h x) (ha : a = x + 92 ∨ a = x + 98) (hb : ∀ j, j < 1600 → hI h (x + 1) j = (nI (tp j)).toInt8.toInt32) (tb : ∀ j, tp j ≤ 255) (hn : n ≤ 1600) : ∃ h1, AcR x a (pAsk tp n (sk tp n 0, false)) h1 (f_X5_readQuestion (x + 104) (x + 1) (nI n) a h) ∧ FX x (PC x) (b7H (b5H h x a) x n) h1 ∧ hR h1 = hR (b7H (b5H h x a) x n) ∧ hL h1 = hL h := by
  obtain ⟨h1, e1, T1, i3, C0, f4, f5, b0, b1, fx, r1, l1⟩ := c_begin5 S ha hb tb hn
  have S1 := T1.1.1
  have q := c_q29 T1 (okS.sk (Nat.zero_le n) false) i3 ha C0 tb hn f4 f5 b0 b1
  refine ⟨h1, ?_, fx, r1, l1⟩
  have e : f_X5_readQuestion (x + 104) (x + 1) (nI n) a h = f_X5_readQuestion_29 (x + 104) (if hI h1 (x + 105) 2 = 1 then hI h1 (x + 105) 5 else -1) h1 := by
    unfold f_X5_readQuestion
    rw [ko_t S.k104, bd_t e1, ko_t S1.k104, kr_t S1.r104_2, ko_t S1.k105]
    by_cases z : hI h1 (x + 105) 2 = 1
    · rw [if_pos z, if_pos z]
    · rw [if_neg z, if_neg z]
  rw [e]
  exact q
