/-! THE TEXTS: the class begins a text -/
section Bh
variable {h : aH} {x a n : Nat} {tp : Nat → Nat}
def b5H (h : aH) (x a : Nat) : aH := clM (sR (sI (sI h (x + 104) 0 (nI 0)) (x + 104) 1 (-nI 1)) (x + 104) 3 (some a)) a
def b7H (h : aH) (x n : Nat) : aH := sI (sI (sI (sR h (x + 105) 0 (some (x + 1))) (x + 105) 1 (nI n)) (x + 105) 2 (nI 0)) (x + 105) 4 (nI 0)
theorem clM_o {b j : Nat} (z : b < a ∨ a + 5 < b) : hI (clM h a) b j = hI h b j := by
  unfold clM
  rw [hI_fb, if_neg (by omega), hI_fb, if_neg (by omega), hI_fb, if_neg (by omega), hI_sI, if_neg (by omega), hI_sI, if_neg (by omega), hI_sI, if_neg (by omega)]
theorem c_begin5 (S : XS h x) (ha : a = x + 92 ∨ a = x + 98) (hb : ∀ j, j < 1600 → hI h (x + 1) j = (nI (tp j)).toInt8.toInt32) (tb : ∀ j, tp j ≤ 255) (hn : n ≤ 1600) : ∃ h1, f_X5_begin (x + 104) (x + 1) (nI n) a h = some ((), h1) ∧ TS h1 x tp n (sk tp n 0, false) ∧ hR h1 (x + 104) 3 = some a ∧ CD h1 a 0 [] ∧ hI h1 (a + 4) 0 = nI 0 ∧ hI h1 (a + 5) 0 = nI 0 ∧ hI h1 (x + 104) 0 = nI 0 ∧ hI h1 (x + 104) 1 = -nI 1 ∧ FX x (PC x) (b7H (b5H h x a) x n) h1 ∧ hR h1 = hR (b7H (b5H h x a) x n) ∧ hL h1 = hL h := by
  have A := S.ma ha
  obtain ⟨g0, hg0⟩ : ∃ g, g = sR (sI (sI h (x + 104) 0 (nI 0)) (x + 104) 1 (-nI 1)) (x + 104) 3 (some a) := ⟨_, rfl⟩
  have K0 : hK g0 = hK h := by rw [hg0]; rfl
  have R0 : ∀ b j, ¬ (b = x + 104 ∧ j = 3) → hR g0 b j = hR h b j := fun b j z => by rw [hg0, hR_sR, if_neg z]; rfl
  have S0 : XS g0 x := S.fr (fun b _ => by rw [K0]) (fun b j _ z => R0 b j (by omega))
  have A0 := S0.ma ha
  have e5 : b5H h x a = clM g0 a := by rw [hg0]; rfl
  obtain ⟨g1, hg1⟩ : ∃ g, g = clM g0 a := ⟨_, rfl⟩
  have K1 : hK g1 = hK g0 := by rw [hg1]; rfl
  have R1 : hR g1 = hR g0 := by rw [hg1]; rfl
  have S1 : XS g1 x := S0.of K1 R1
  obtain ⟨g2, hg2⟩ : ∃ g, g = b7H g1 x n := ⟨_, rfl⟩
  have K2 : hK g2 = hK g1 := by rw [hg2]; rfl
  have R2 : ∀ b j, ¬ (b = x + 105 ∧ j = 0) → hR g2 b j = hR g1 b j := fun b j z => by
    rw [hg2]
    show hR (sR g1 (x + 105) 0 (some (x + 1))) b j = _
    rw [hR_sR, if_neg z]
  have I2 : ∀ b j, ¬ b = x + 105 → hI g2 b j = hI g1 b j := fun b j z => by
    rw [hg2]; unfold b7H
    rw [hI_sI, if_neg (by omega), hI_sI, if_neg (by omega), hI_sI, if_neg (by omega)]; rfl
  have S2 : XS g2 x := S1.fr (fun b _ => by rw [K2]) (fun b j _ z => R2 b j (by omega))
  have I1 : ∀ b j, (b < a ∨ a + 5 < b) → hI g1 b j = hI g0 b j := fun b j z => by rw [hg1]; exact clM_o z
  have I0 : ∀ b j, ¬ b = x + 104 → hI g0 b j = hI h b j := fun b j z => by
    rw [hg0, hI_sR, hI_sI, if_neg (by omega), hI_sI, if_neg (by omega)]
  have T2 : TX g2 x tp n := by
    refine ⟨S2, fun j hj => ?_, ?_, ?_⟩
    · rw [I2 _ _ (by omega), I1 _ _ (by omega), I0 _ _ (by omega)]; exact hb j hj
    · rw [hg2]
      show hR (sR g1 (x + 105) 0 (some (x + 1))) (x + 105) 0 = _
      rw [hR_sR, if_pos ⟨rfl, rfl⟩]
    · rw [hg2]; unfold b7H
      rw [hI_sI, if_neg (by omega), hI_sI, if_neg (by omega), hI_sI, if_pos ⟨rfl, rfl⟩]
  have v2 : hI g2 (x + 105) 2 = nI 0 := by rw [hg2]; unfold b7H; rw [hI_sI, if_neg (by omega), hI_sI, if_pos ⟨rfl, rfl⟩]
  have v4 : hI g2 (x + 105) 4 = nI 0 := by rw [hg2]; unfold b7H; rw [hI_sI, if_pos ⟨rfl, rfl⟩]
  obtain ⟨h1, e1, T1, f1, r1, l1⟩ := c_next0 T2 tb hn (Nat.zero_le n) (by omega) v2 v4
  rw [show decide ((0 = 1 ∨ 0 = 2) ∧ sk tp n 0 = 0) = false by simp] at T1
  have fI := f1.2.2.2.2.1
  have e7 : f_X7_begin (x + 105) (x + 1) (nI n) g1 = some ((), h1) := by
    have e : Int32.ofNat 1600 = nI 1600 := rfl
    have mn : f_J9_min_7cf53 (nI n) (nI 1600) (sR g1 (x + 105) 0 (some (x + 1))) = some (nI n, sR g1 (x + 105) 0 (some (x + 1))) := by
      unfold f_J9_min_7cf53
      rw [if_neg (show ¬ nI 1600 < nI n from nI_nlt (by omega) (by omega))]
      rfl
    unfold f_X7_begin
    rw [ko_t S1.k105, ka_t S1.k1, e, bd_t mn, ko_t (show hK (sR g1 (x + 105) 0 (some (x + 1))) (x + 105) = some (.inl 7) from S1.k105), show (0 : Int32) = nI 0 from rfl]
    have : sI (sI (sI (sR g1 (x + 105) 0 (some (x + 1))) (x + 105) 1 (nI n)) (x + 105) 2 (nI 0)) (x + 105) 4 (nI 0) = g2 := by rw [hg2]; rfl
    rw [this, bd_t e1]
  have m4 : ∀ b j, (b = a + 4 ∨ b = a + 5) → j < 3 → hI h1 b j = nI 0 := by
    intro b j hb' hj
    rw [fI _ _ (by unfold PC; omega), I2 _ _ (by omega), hg1]
    unfold clM
    rcases hb' with rfl | rfl
    · rw [hI_fb, if_neg (by omega), hI_fb, if_pos (by omega)]
    · rw [hI_fb, if_pos (by omega)]
  have m9 : hI h1 a 9 = nI 0 := by
    rw [fI _ _ (by unfold PC; omega), I2 _ _ (by omega), hg1]
    unfold clM
    rw [hI_fb, if_neg (by omega), hI_fb, if_neg (by omega), hI_fb, if_neg (by omega), hI_sI, if_pos ⟨rfl, rfl⟩]
  refine ⟨h1, ?_, T1, ?_, ⟨m9, fun i hi => by cases hi⟩, m4 _ _ (.inl rfl) (by omega), m4 _ _ (.inr rfl) (by omega), ?_, ?_, by rw [e5, ← hg1, ← hg2]; exact f1, by rw [e5, ← hg1, ← hg2]; exact r1, ?_⟩
  · unfold f_X5_begin
    rw [ko_t S.k104, ko_t A.k, show (0 : Int32) = nI 0 from rfl, show (-1 : Int32) = -nI 1 from rfl, ← hg0, bd_t (c_clear4 A0), ← hg1, ko_t S1.k104, kr_t S1.r104_2, ko_t S1.k105, bd_t e7]
  · rw [r1, R2 _ _ (by omega), R1, hg0, hR_sR, if_pos ⟨rfl, rfl⟩]
  · rw [fI _ _ (by unfold PC; omega), I2 _ _ (by omega), I1 _ _ (by omega), hg0, hI_sR, hI_sI, if_neg (by omega), hI_sI, if_pos ⟨rfl, rfl⟩]
  · rw [fI _ _ (by unfold PC; omega), I2 _ _ (by omega), I1 _ _ (by omega), hg0, hI_sR, hI_sI, if_pos ⟨rfl, rfl⟩]
  · rw [l1, hg2, hg1, hg0]; rfl
end Bh
