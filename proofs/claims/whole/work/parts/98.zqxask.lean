/-! THE TEXTS: the class reads a question, behind its begin -/
def PQ (x a b j : Nat) : Prop := b = x + 104 ∨ b = x + 105 ∧ 2 ≤ j ∨ b = a ∧ j = 9 ∨ b = a + 3 ∨ b = a + 4 ∧ j = 0 ∨ b = a + 5 ∧ j = 0
def AcR (x a : Nat) (r : Option ((Nat × Nat) ⊕ (Nat × List Nat))) (h : aH) (s : Option (Int32 × aH)) : Prop := match r with
  | none => True
  | some (.inl e) => ∃ h1, s = some (-nI 1, h1) ∧ hI h1 (x + 104) 0 = nI e.1 ∧ hI h1 (x + 104) 1 = nI e.2 ∧ FX x (PQ x a) h h1 ∧ hR h1 = hR h ∧ hL h1 = hL h
  | some (.inr q) => ∃ h1, s = some (nI (25 + q.1), h1) ∧ hI h1 (x + 104) 0 = nI 0 ∧ hI h1 (x + 104) 1 = -nI 1 ∧ CD h1 a 0 q.2 ∧ hI h1 (a + 4) 0 = nI 0 ∧ hI h1 (a + 5) 0 = nI q.2.length ∧ q.2.length ≤ 1600 ∧ FX x (PQ x a) h h1 ∧ hR h1 = hR h ∧ hL h1 = hL h
section An
variable {h : aH} {x a n : Nat} {tp : Nat → Nat} {σ : tyT}
theorem tkK_0 (o : okS tp n σ) : (tkK tp n σ = 0) ↔ ¬ σ.1 < n := by
  unfold tkK
  by_cases a : σ.1 < n
  · rw [if_pos a]
    refine ⟨fun z => ?_, fun z => absurd a z⟩
    by_cases b : isL (tp σ.1) = true
    · rw [if_pos b] at z; by_cases c : σ.2 = true
      · rw [if_pos c] at z; omega
      · rw [if_neg c] at z; omega
    · rw [if_neg b] at z
      by_cases d : isD (tp σ.1) = true
      · rw [if_pos d] at z; by_cases c : σ.2 = true
        · rw [if_pos c] at z; omega
        · rw [if_neg c] at z; omega
      · rw [if_neg d] at z; omega
  · rw [if_neg a]; exact ⟨fun _ => a, fun _ => rfl⟩
/-- the formula is read: its end, the text's end -/
theorem c_q89 {k : Nat} {c : List Nat} (T : ST h x a tp n 3 0 c σ) (hn : n ≤ 1600) (f4 : hI h (a + 4) 0 = nI 0) : AcR x a (if σ.1 < n then some (.inl (1, σ.1)) else some (.inr (k, c))) h (f_X5_readQuestion_89 (x + 104) (nI (25 + k)) h) := by
  obtain ⟨⟨T0, k2, v3, v4, v5⟩, o, i3, ha, i4, cd, le⟩ := T
  have S := T0.1
  have A := S.ma ha
  have sn := o.1
  have e3 : Int32.ofNat 3 = nI 3 := rfl
  have c9 : hI h a 9 = nI c.length := by have := cd.1; rw [Nat.zero_add] at this; exact this
  have en : f_X4_endFormula a 0 h = some ((), sI h (a + 5) 0 (nI c.length)) := by
    show f_X4_endFormula a (nI 0) h = _
    simp (disch := omega) only [nm, bd_s, ko_K, ka_K, koK_t, kaK_t, kr_s, kn_s, kn_n, hK_sI, hR_sI, hK_sL, hR_sL, hI_sL, hL_sI, hL_sL, hI_sI, hN_sI, hN_sL, ch_G, ch_T, nb_0, nb_1, zb_G, d_T, d_F, d_eT, d_eF, b2i_t, b2i_f, tn_nI, fa_lit, fa_litL, m1_e, nI_add, pk_mul, pk_sub, nI_leI, nI_ltI, nI_eq, le_T, le_F, lt_T, lt_F, eq_T, eq_F, if_pos, if_neg, m1_le, m1_lt', m1_gt, m1_le', m1_eq, m1_qe, b2i_eq0, in_N, in_n, in_I, ↓reduceIte, Bool.true_eq_false, Bool.false_eq_true, reduceCtorEq, decide_eq_true_eq, decide_eq_false_iff_not, Nat.not_lt, Nat.not_le, not_true_eq_false, not_false_eq_true, true_and, and_true, and_self, false_and, and_false, true_or, or_true, false_or, or_false, f_X4_endFormula_23, f_X4_endFormula, A.k, A.r8, A.k5, c9, e3]
  have ends : f_X5_ends (x + 104) 0 h = some (1, sI h (a + 5) 0 (nI c.length)) := by
    unfold f_X5_ends
    rw [ko_t S.k104, kr_t i3, ko_t A.k, bd_t en]
  obtain ⟨h1, hh1⟩ : ∃ h1, h1 = sI h (a + 5) 0 (nI c.length) := ⟨_, rfl⟩
  rw [← hh1] at ends
  have g : ∀ b j, ¬ (b = a + 5 ∧ j = 0) → hI h1 b j = hI h b j := fun b j z => by rw [hh1, hI_sI, if_neg (by omega)]
  have K : hK h1 = hK h := by rw [hh1]; rfl
  have R : hR h1 = hR h := by rw [hh1]; rfl
  have S1 : XS h1 x := S.of K R
  have f1 : FX x (PQ x a) h h1 := by rw [hh1]; exact FX.sI (by unfold PQ; omega)
  have r2 : hR h1 (x + 104) 2 = some (x + 105) := S1.r104_2
  have st : f_X5_readQuestion_89 (x + 104) (nI (25 + k)) h = (if nI (tkK tp n σ) = (0 : Int32) then some (nI (25 + k), h1) else some (-nI 1, sI (sI h1 (x + 104) 0 (nI 1)) (x + 104) 1 (nI σ.1))) := by
    unfold f_X5_readQuestion_89
    rw [ko_t S.k104, bd_t ends, if_neg (show ¬ (1 : Int32) = 0 by decide)]
    unfold f_X5_readQuestion_102
    rw [if_neg (show ¬ (1 : Int32) = 0 by decide), ko_t S1.k104, kr_t r2, ko_t S1.k105, g (x + 105) 2 (by omega), k2, g (x + 105) 3 (by omega), v3, bd_t (show f_X5_fail (x + 104) 1 (nI σ.1) h1 = _ from c_failX S1 (k := 1) (p := σ.1))]
    rfl
  rw [st]
  have kl := tkK_le (tp := tp) (n := n) (σ := σ)
  by_cases z : σ.1 < n
  · rw [if_pos z, if_neg (show ¬ nI (tkK tp n σ) = (0 : Int32) from fun y => (tkK_0 o).mp ((nI_eq (b := 0) (by omega) (by omega)).mp y) z)]
    refine ⟨_, rfl, by rw [hI_sI, if_neg (by omega), hI_sI, if_pos ⟨rfl, rfl⟩], by rw [hI_sI, if_pos ⟨rfl, rfl⟩], (f1.trans (FX.sI (by unfold PQ; omega))).trans (FX.sI (by unfold PQ; omega)), R, by rw [hh1]; rfl⟩
  · rw [if_neg z, if_pos (show nI (tkK tp n σ) = (0 : Int32) by rw [(tkK_0 o).mpr z]; rfl)]
    refine ⟨h1, rfl, by rw [g _ _ (by omega)]; exact i4.2.1, by rw [g _ _ (by omega)]; exact i4.2.2, ⟨by rw [g _ _ (by omega)]; exact cd.1, fun i hi => by rw [g _ _ (by omega)]; exact cd.2 i hi⟩, by rw [g _ _ (by omega)]; exact f4, by rw [hh1, hI_sI, if_pos ⟨rfl, rfl⟩], ?_, f1, R, by rw [hh1]; rfl⟩
    show c.length ≤ 1600
    omega
end An
