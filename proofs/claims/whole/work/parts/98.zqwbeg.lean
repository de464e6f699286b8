/-! THE TEXTS: the class begins and ends a formula -/
def PB (x a w b j : Nat) : Prop := b = x + 105 ∧ 2 ≤ j ∨ b = x + 104 ∧ j = 4 ∨ b = a + 4 ∧ j = w
section Bg
variable {h : aH} {x a n w u : Nat} {tp : Nat → Nat} {c : List Nat} {σ : tyT}
theorem c_begins (T : TS h x tp n σ) (o : okS tp n σ) (i3 : hR h (x + 104) 3 = some a) (ha : a = x + 92 ∨ a = x + 98) (C0 : CD h a u c) (le : u + c.length ≤ σ.1) (tb : ∀ j, tp j ≤ 255) (hn : n ≤ 1600) {i w' : Nat} (q : isW tp n σ i = true) (hw : w < 3) (f4 : hI h (a + 4) w = nI 0) (f5 : hI h (a + 5) w = nI 0) (b0 : hI h (x + 104) 0 = nI 0) (b1 : hI h (x + 104) 1 = -nI 1) : ∃ h1, f_X5_begins (x + 104) (nI w) (nI (mk w')) h = some (nI 1, h1) ∧ ST h1 x a tp n w' u c (nW tp n σ) ∧ hI h1 (a + 4) w = nI (u + c.length) ∧ FX x (PB x a w) h h1 ∧ hR h1 = hR h ∧ hL h1 = hL h := by
  have S := T.1.1
  have A := S.ma ha
  obtain ⟨q1, q2, q3, q4⟩ := isW_t q
  have ek : tkK tp n σ = 1 := by unfold tkK; rw [if_pos q1, if_pos q2, q3, if_neg (by decide)]
  have ee : tkE tp n σ = rn isL tp n σ.1 := by unfold tkE; rw [if_pos q1, if_pos q2]
  have rl := rn_le (p := isL) (tp := tp) (n := n) (q := σ.1) (by omega)
  obtain ⟨T0, k2, v3, v4, v5⟩ := T
  rw [ek] at k2
  rw [ee] at v4
  obtain ⟨h1, e1, T1, f1, r1, l1⟩ := c_next0 T0 tb hn rl (by omega) k2 v4
  rw [show (sk tp n (rn isL tp n σ.1), decide ((1 = 1 ∨ 1 = 2) ∧ sk tp n (rn isL tp n σ.1) = rn isL tp n σ.1)) = nW tp n σ by unfold nW; simp] at T1
  have fI := f1.2.2.2.2.1
  have nw := nW_ok q
  have S1 := T1.1.1
  have A1 := S1.ma ha
  have c9 : hI h1 a 9 = nI (u + c.length) := by rw [fI _ _ (by unfold PC; omega)]; exact C0.1
  have i31 : hR h1 (x + 104) 3 = some a := by rw [r1]; exact i3
  have e3 : Int32.ofNat 3 = nI 3 := rfl
  have has : f_X4_hasFormula a (nI w) h = some (nI 0, h) := by
    simp (disch := omega) only [nm, bd_s, ko_K, ka_K, koK_t, kaK_t, kr_s, kn_s, kn_n, hK_sI, hR_sI, hK_sL, hR_sL, hI_sL, hL_sI, hL_sL, hI_sI, hN_sI, hN_sL, ch_G, ch_T, nb_0, nb_1, zb_G, d_T, d_F, d_eT, d_eF, b2i_t, b2i_f, tn_nI, fa_lit, fa_litL, m1_e, nI_add, pk_mul, pk_sub, nI_leI, nI_ltI, nI_eq, le_T, le_F, lt_T, lt_F, eq_T, eq_F, if_pos, if_neg, m1_le, m1_lt', m1_gt, m1_le', m1_eq, m1_qe, b2i_eq0, in_N, in_n, in_I, ↓reduceIte, Bool.true_eq_false, Bool.false_eq_true, reduceCtorEq, decide_eq_true_eq, decide_eq_false_iff_not, Nat.not_lt, Nat.not_le, not_true_eq_false, not_false_eq_true, true_and, and_true, and_self, false_and, and_false, true_or, or_true, false_or, or_false, f_X4_hasFormula_33, f_X4_hasFormula_32, f_X4_hasFormula, A.k, A.r8, A.k5, A.r7, A.k4, f4, f5, e3]
  obtain ⟨h2, hh2⟩ : ∃ h2, h2 = sI h1 (x + 104) 4 (nI (mk w')) := ⟨_, rfl⟩
  have A2 : MA h2 a := by rw [hh2]; exact A1
  have c92 : hI h2 a 9 = nI (u + c.length) := by rw [hh2, hI_sI, if_neg (by omega)]; exact c9
  have beg : f_X4_beginFormula a (nI w) h2 = some ((), sI h2 (a + 4) w (nI (u + c.length))) := by
    simp (disch := omega) only [nm, bd_s, ko_K, ka_K, koK_t, kaK_t, kr_s, kn_s, kn_n, hK_sI, hR_sI, hK_sL, hR_sL, hI_sL, hL_sI, hL_sL, hI_sI, hN_sI, hN_sL, ch_G, ch_T, nb_0, nb_1, zb_G, d_T, d_F, d_eT, d_eF, b2i_t, b2i_f, tn_nI, fa_lit, fa_litL, m1_e, nI_add, pk_mul, pk_sub, nI_leI, nI_ltI, nI_eq, le_T, le_F, lt_T, lt_F, eq_T, eq_F, if_pos, if_neg, m1_le, m1_lt', m1_gt, m1_le', m1_eq, m1_qe, b2i_eq0, in_N, in_n, in_I, ↓reduceIte, Bool.true_eq_false, Bool.false_eq_true, reduceCtorEq, decide_eq_true_eq, decide_eq_false_iff_not, Nat.not_lt, Nat.not_le, not_true_eq_false, not_false_eq_true, true_and, and_true, and_self, false_and, and_false, true_or, or_true, false_or, or_false, f_X4_beginFormula_23, f_X4_beginFormula, A2.k, A2.r7, A2.k4, c92, e3]
  refine ⟨sI h2 (a + 4) w (nI (u + c.length)), ?_, ?_, by rw [hI_sI, if_pos ⟨rfl, rfl⟩], ?_, by rw [hh2]; exact r1, by rw [hh2]; exact l1⟩
  · unfold f_X5_begins
    rw [ko_t S.k104, kr_t i3, ko_t A.k, bd_t has, if_pos (show nI 0 = (0 : Int32) from rfl), ko_t S.k104, kr_t (show hR h (x + 104) 2 = some (x + 105) from S.r104_2), ko_t S.k105, bd_t e1, ko_t S1.k104, kr_t i31, ko_t A1.k, ← hh2, bd_t beg]
    rfl
  · have g : ∀ b j, ¬ (b = x + 104 ∧ j = 4 ∨ b = a + 4 ∧ j = w) → hI (sI h2 (a + 4) w (nI (u + c.length))) b j = hI h1 b j := by
      intro b j z
      rw [hh2, hI_sI, if_neg (by omega), hI_sI, if_neg (by omega)]
    refine ⟨⟨T1.1.fr (by rw [hh2]; rfl) (by rw [hh2]; rfl) (fun j => g _ _ (by omega)) (g _ _ (by omega)), ?_, ?_, ?_, ?_⟩, nw.1, by rw [hh2]; exact i31, ha, ?_, ⟨?_, fun k hk => ?_⟩, by omega⟩
    · rw [g _ _ (by omega)]; exact T1.2.1
    · rw [g _ _ (by omega)]; exact T1.2.2.1
    · rw [g _ _ (by omega)]; exact T1.2.2.2.1
    · rw [g _ _ (by omega)]; exact T1.2.2.2.2
    · refine ⟨?_, ?_, ?_⟩
      · rw [hI_sI, if_neg (by omega), hh2, hI_sI, if_pos ⟨rfl, rfl⟩]
      · rw [g _ _ (by omega), fI _ _ (by unfold PC; omega)]; exact b0
      · rw [g _ _ (by omega), fI _ _ (by unfold PC; omega)]; exact b1
    · rw [g _ _ (by omega)]; exact c9
    · rw [g _ _ (by omega), fI _ _ (by unfold PC; omega)]; exact C0.2 k hk
  · rw [hh2]
    exact ((f1.mono (fun b j z => by unfold PC at z; unfold PB; omega)).trans (FX.sI (by unfold PB; omega))).trans (FX.sI (by unfold PB; omega))
end Bg
