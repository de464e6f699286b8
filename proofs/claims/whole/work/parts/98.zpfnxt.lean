/-! THE TEXTS: the class's next token -/
section Nx2
variable {h : aH} {x n : Nat} {tp : Nat → Nat}
theorem kA_L {q : Nat} (hq : q < n) : kA tp n q = 1 ↔ isL (tp q) = true := by
  unfold kA isB isL isD
  rw [if_pos hq]
  simp only [Bool.or_eq_true, Bool.and_eq_true, decide_eq_true_eq]
  split
  · omega
  · split
    · omega
    · split <;> omega
theorem kA_D {q : Nat} (hq : q < n) : kA tp n q = 2 ↔ isD (tp q) = true := by
  unfold kA isB isL isD
  rw [if_pos hq]
  simp only [Bool.or_eq_true, Bool.and_eq_true, decide_eq_true_eq]
  split
  · omega
  · split
    · omega
    · split <;> omega
theorem fx_pc {i : Nat} {v : Int32} (hi : 2 ≤ i) : FX x (PC x) h (sI h (x + 105) i v) := FX.sI ⟨rfl, hi⟩
/-- behind the token's end: its value, and whether it stands side by side -/
theorem c_217 {g : aH} (T : TX g x tp n) (b L : Bool) (v : Int32) : f_X7_next_217 (x + 105) (b2i b) (b2i L) (x + 105) v g = some ((), if (b && L) = true then sI (sI g (x + 105) 5 v) (x + 105) 2 (nI 4) else sI g (x + 105) 5 v) := by
  have S := T.1
  cases b <;> cases L <;> simp only [b2i_t, b2i_f, Bool.and_true, Bool.and_false, Bool.false_eq_true, if_false, if_true]
  · simp (disch := omega) only [nm, bd_s, ko_K, ka_K, koK_t, kaK_t, kr_s, kn_s, kn_n, hK_sI, hR_sI, hK_sL, hR_sL, hI_sL, hL_sI, hL_sL, hI_sI, hN_sI, hN_sL, ch_G, ch_T, nb_0, nb_1, zb_G, d_T, d_F, d_eT, d_eF, b2i_t, b2i_f, tn_nI, fa_lit, fa_litL, m1_e, nI_add, pk_mul, pk_sub, nI_leI, nI_ltI, nI_eq, le_T, le_F, lt_T, lt_F, eq_T, eq_F, if_pos, if_neg, m1_le, m1_lt', m1_gt, m1_le', m1_eq, m1_qe, b2i_eq0, in_N, in_n, in_I, ↓reduceIte, Bool.true_eq_false, Bool.false_eq_true, reduceCtorEq, decide_eq_true_eq, decide_eq_false_iff_not, Nat.not_lt, Nat.not_le, not_true_eq_false, not_false_eq_true, true_and, and_true, and_self, false_and, and_false, true_or, or_true, false_or, or_false, f_X7_next_217, f_X7_next_233, S.k105]
  · simp (disch := omega) only [nm, bd_s, ko_K, ka_K, koK_t, kaK_t, kr_s, kn_s, kn_n, hK_sI, hR_sI, hK_sL, hR_sL, hI_sL, hL_sI, hL_sL, hI_sI, hN_sI, hN_sL, ch_G, ch_T, nb_0, nb_1, zb_G, d_T, d_F, d_eT, d_eF, b2i_t, b2i_f, tn_nI, fa_lit, fa_litL, m1_e, nI_add, pk_mul, pk_sub, nI_leI, nI_ltI, nI_eq, le_T, le_F, lt_T, lt_F, eq_T, eq_F, if_pos, if_neg, m1_le, m1_lt', m1_gt, m1_le', m1_eq, m1_qe, b2i_eq0, in_N, in_n, in_I, ↓reduceIte, Bool.true_eq_false, Bool.false_eq_true, reduceCtorEq, decide_eq_true_eq, decide_eq_false_iff_not, Nat.not_lt, Nat.not_le, not_true_eq_false, not_false_eq_true, true_and, and_true, and_self, false_and, and_false, true_or, or_true, false_or, or_false, f_X7_next_217, f_X7_next_233, S.k105]
  · simp (disch := omega) only [nm, bd_s, ko_K, ka_K, koK_t, kaK_t, kr_s, kn_s, kn_n, hK_sI, hR_sI, hK_sL, hR_sL, hI_sL, hL_sI, hL_sL, hI_sI, hN_sI, hN_sL, ch_G, ch_T, nb_0, nb_1, zb_G, d_T, d_F, d_eT, d_eF, b2i_t, b2i_f, tn_nI, fa_lit, fa_litL, m1_e, nI_add, pk_mul, pk_sub, nI_leI, nI_ltI, nI_eq, le_T, le_F, lt_T, lt_F, eq_T, eq_F, if_pos, if_neg, m1_le, m1_lt', m1_gt, m1_le', m1_eq, m1_qe, b2i_eq0, in_N, in_n, in_I, ↓reduceIte, Bool.true_eq_false, Bool.false_eq_true, reduceCtorEq, decide_eq_true_eq, decide_eq_false_iff_not, Nat.not_lt, Nat.not_le, not_true_eq_false, not_false_eq_true, true_and, and_true, and_self, false_and, and_false, true_or, or_true, false_or, or_false, f_X7_next_217, f_X7_next_233, S.k105]
  · simp (disch := omega) only [nm, bd_s, ko_K, ka_K, koK_t, kaK_t, kr_s, kn_s, kn_n, hK_sI, hR_sI, hK_sL, hR_sL, hI_sL, hL_sI, hL_sL, hI_sI, hN_sI, hN_sL, ch_G, ch_T, nb_0, nb_1, zb_G, d_T, d_F, d_eT, d_eF, b2i_t, b2i_f, tn_nI, fa_lit, fa_litL, m1_e, nI_add, pk_mul, pk_sub, nI_leI, nI_ltI, nI_eq, le_T, le_F, lt_T, lt_F, eq_T, eq_F, if_pos, if_neg, m1_le, m1_lt', m1_gt, m1_le', m1_eq, m1_qe, b2i_eq0, in_N, in_n, in_I, ↓reduceIte, Bool.true_eq_false, Bool.false_eq_true, reduceCtorEq, decide_eq_true_eq, decide_eq_false_iff_not, Nat.not_lt, Nat.not_le, not_true_eq_false, not_false_eq_true, true_and, and_true, and_self, false_and, and_false, true_or, or_true, false_or, or_false, f_X7_next_217, f_X7_next_233, S.k105]
theorem c_next0 (T : TX h x tp n) (tb : ∀ j, tp j ≤ 255) (hn : n ≤ 1600) {e k0 : Nat} (he : e ≤ n) (hk0 : k0 ≤ 5) (k2 : hI h (x + 105) 2 = nI k0) (v4 : hI h (x + 105) 4 = nI e) : ∃ h1, f_X7_next (x + 105) h = some ((), h1) ∧ TS h1 x tp n (sk tp n e, decide ((k0 = 1 ∨ k0 = 2) ∧ sk tp n e = e)) ∧ FX x (PC x) h h1 ∧ hR h1 = hR h ∧ hL h1 = hL h := by
  have S := T.1
  obtain ⟨s, hs⟩ : ∃ s, s = sk tp n e := ⟨_, rfl⟩
  have sn : s ≤ n := by rw [hs]; exact rn_le he
  have nb : ¬ (s < n ∧ isB (tp s) = true) := by rw [hs]; exact rn_end e
  rw [← hs]
  obtain ⟨b, hbb⟩ : ∃ b, b = decide ((k0 = 1 ∨ k0 = 2) ∧ s = e) := ⟨_, rfl⟩
  rw [← hbb]
  -- up to the token's begin
  obtain ⟨g1, hg1⟩ : ∃ g1, g1 = sI h (x + 105) 3 (nI s) := ⟨_, rfl⟩
  have T1 : TX g1 x tp n := by rw [hg1]; exact T.s (by omega) _
  have g13 : hI g1 (x + 105) 3 = nI s := by rw [hg1, hI_sI, if_pos ⟨rfl, rfl⟩]
  have g14 : hI g1 (x + 105) 4 = nI e := by rw [hg1, hI_sI, if_neg (by omega)]; exact v4
  have to66 : ∀ w : Nat, f_X7_next_21 (x + 105) (nI w) h = f_X7_next_66 (x + 105) (nI w) g1 := by
    intro w
    have c := c_skip (h := h) (x := x) tb hn (nI w) (n - e) e FU rfl he (FU_gt (by omega)) T
    rw [show rn isB tp n e = s from hs.symm, ← hg1] at c
    rw [← c]
    simp (disch := omega) only [nm, bd_s, ko_K, ka_K, koK_t, kaK_t, kr_s, kn_s, kn_n, hK_sI, hR_sI, hK_sL, hR_sL, hI_sL, hL_sI, hL_sL, hI_sI, hN_sI, hN_sL, ch_G, ch_T, nb_0, nb_1, zb_G, d_T, d_F, d_eT, d_eF, b2i_t, b2i_f, tn_nI, fa_lit, fa_litL, m1_e, nI_add, pk_mul, pk_sub, nI_leI, nI_ltI, nI_eq, le_T, le_F, lt_T, lt_F, eq_T, eq_F, if_pos, if_neg, m1_le, m1_lt', m1_gt, m1_le', m1_eq, m1_qe, b2i_eq0, in_N, in_n, in_I, ↓reduceIte, Bool.true_eq_false, Bool.false_eq_true, reduceCtorEq, decide_eq_true_eq, decide_eq_false_iff_not, Nat.not_lt, Nat.not_le, not_true_eq_false, not_false_eq_true, true_and, and_true, and_self, false_and, and_false, true_or, or_true, false_or, or_false, f_X7_next_21, S.k105, v4]
  have S1 := T1.1
  have to86 : f_X7_next (x + 105) h = f_X7_next_86 (x + 105) (b2i b) g1 := by
    by_cases wl : k0 = 1 ∨ k0 = 2
    · have t : f_X7_next (x + 105) h = f_X7_next_21 (x + 105) (nI 1) h := by
        rcases wl with rfl | rfl
        · simp (disch := omega) only [nm, bd_s, ko_K, ka_K, koK_t, kaK_t, kr_s, kn_s, kn_n, hK_sI, hR_sI, hK_sL, hR_sL, hI_sL, hL_sI, hL_sL, hI_sI, hN_sI, hN_sL, ch_G, ch_T, nb_0, nb_1, zb_G, d_T, d_F, d_eT, d_eF, b2i_t, b2i_f, tn_nI, fa_lit, fa_litL, m1_e, nI_add, pk_mul, pk_sub, nI_leI, nI_ltI, nI_eq, le_T, le_F, lt_T, lt_F, eq_T, eq_F, if_pos, if_neg, m1_le, m1_lt', m1_gt, m1_le', m1_eq, m1_qe, b2i_eq0, in_N, in_n, in_I, ↓reduceIte, Bool.true_eq_false, Bool.false_eq_true, reduceCtorEq, decide_eq_true_eq, decide_eq_false_iff_not, Nat.not_lt, Nat.not_le, not_true_eq_false, not_false_eq_true, true_and, and_true, and_self, false_and, and_false, true_or, or_true, false_or, or_false, f_X7_next, f_X7_next_16, S.k105, k2]
        · simp (disch := omega) only [nm, bd_s, ko_K, ka_K, koK_t, kaK_t, kr_s, kn_s, kn_n, hK_sI, hR_sI, hK_sL, hR_sL, hI_sL, hL_sI, hL_sL, hI_sI, hN_sI, hN_sL, ch_G, ch_T, nb_0, nb_1, zb_G, d_T, d_F, d_eT, d_eF, b2i_t, b2i_f, tn_nI, fa_lit, fa_litL, m1_e, nI_add, pk_mul, pk_sub, nI_leI, nI_ltI, nI_eq, le_T, le_F, lt_T, lt_F, eq_T, eq_F, if_pos, if_neg, m1_le, m1_lt', m1_gt, m1_le', m1_eq, m1_qe, b2i_eq0, in_N, in_n, in_I, ↓reduceIte, Bool.true_eq_false, Bool.false_eq_true, reduceCtorEq, decide_eq_true_eq, decide_eq_false_iff_not, Nat.not_lt, Nat.not_le, not_true_eq_false, not_false_eq_true, true_and, and_true, and_self, false_and, and_false, true_or, or_true, false_or, or_false, f_X7_next, f_X7_next_16, S.k105, k2]
      rw [t, to66]
      by_cases se : s = e
      · rw [hbb, decide_eq_true ⟨wl, se⟩, b2i_t]
        simp (disch := omega) only [nm, bd_s, ko_K, ka_K, koK_t, kaK_t, kr_s, kn_s, kn_n, hK_sI, hR_sI, hK_sL, hR_sL, hI_sL, hL_sI, hL_sL, hI_sI, hN_sI, hN_sL, ch_G, ch_T, nb_0, nb_1, zb_G, d_T, d_F, d_eT, d_eF, b2i_t, b2i_f, tn_nI, fa_lit, fa_litL, m1_e, nI_add, pk_mul, pk_sub, nI_leI, nI_ltI, nI_eq, le_T, le_F, lt_T, lt_F, eq_T, eq_F, if_pos, if_neg, m1_le, m1_lt', m1_gt, m1_le', m1_eq, m1_qe, b2i_eq0, in_N, in_n, in_I, ↓reduceIte, Bool.true_eq_false, Bool.false_eq_true, reduceCtorEq, decide_eq_true_eq, decide_eq_false_iff_not, Nat.not_lt, Nat.not_le, not_true_eq_false, not_false_eq_true, true_and, and_true, and_self, false_and, and_false, true_or, or_true, false_or, or_false, f_X7_next_66, S1.k105, g13, g14, se]
      · rw [hbb, decide_eq_false (fun z => se z.2), b2i_f]
        simp (disch := omega) only [nm, bd_s, ko_K, ka_K, koK_t, kaK_t, kr_s, kn_s, kn_n, hK_sI, hR_sI, hK_sL, hR_sL, hI_sL, hL_sI, hL_sL, hI_sI, hN_sI, hN_sL, ch_G, ch_T, nb_0, nb_1, zb_G, d_T, d_F, d_eT, d_eF, b2i_t, b2i_f, tn_nI, fa_lit, fa_litL, m1_e, nI_add, pk_mul, pk_sub, nI_leI, nI_ltI, nI_eq, le_T, le_F, lt_T, lt_F, eq_T, eq_F, if_pos, if_neg, m1_le, m1_lt', m1_gt, m1_le', m1_eq, m1_qe, b2i_eq0, in_N, in_n, in_I, ↓reduceIte, Bool.true_eq_false, Bool.false_eq_true, reduceCtorEq, decide_eq_true_eq, decide_eq_false_iff_not, Nat.not_lt, Nat.not_le, not_true_eq_false, not_false_eq_true, true_and, and_true, and_self, false_and, and_false, true_or, or_true, false_or, or_false, f_X7_next_66, f_X7_next_85, S1.k105, g13, g14, se]
    · have t : f_X7_next (x + 105) h = f_X7_next_21 (x + 105) (nI 0) h := by
        have w1 : ¬ k0 = 1 := fun z => wl (Or.inl z)
        have w2 : ¬ k0 = 2 := fun z => wl (Or.inr z)
        simp (disch := omega) only [nm, bd_s, ko_K, ka_K, koK_t, kaK_t, kr_s, kn_s, kn_n, hK_sI, hR_sI, hK_sL, hR_sL, hI_sL, hL_sI, hL_sL, hI_sI, hN_sI, hN_sL, ch_G, ch_T, nb_0, nb_1, zb_G, d_T, d_F, d_eT, d_eF, b2i_t, b2i_f, tn_nI, fa_lit, fa_litL, m1_e, nI_add, pk_mul, pk_sub, nI_leI, nI_ltI, nI_eq, le_T, le_F, lt_T, lt_F, eq_T, eq_F, if_pos, if_neg, m1_le, m1_lt', m1_gt, m1_le', m1_eq, m1_qe, b2i_eq0, in_N, in_n, in_I, ↓reduceIte, Bool.true_eq_false, Bool.false_eq_true, reduceCtorEq, decide_eq_true_eq, decide_eq_false_iff_not, Nat.not_lt, Nat.not_le, not_true_eq_false, not_false_eq_true, true_and, and_true, and_self, false_and, and_false, true_or, or_true, false_or, or_false, f_X7_next, S.k105, k2]
      rw [t, to66, hbb, decide_eq_false (fun z => wl z.1), b2i_f]
      simp (disch := omega) only [nm, bd_s, ko_K, ka_K, koK_t, kaK_t, kr_s, kn_s, kn_n, hK_sI, hR_sI, hK_sL, hR_sL, hI_sL, hL_sI, hL_sL, hI_sI, hN_sI, hN_sL, ch_G, ch_T, nb_0, nb_1, zb_G, d_T, d_F, d_eT, d_eF, b2i_t, b2i_f, tn_nI, fa_lit, fa_litL, m1_e, nI_add, pk_mul, pk_sub, nI_leI, nI_ltI, nI_eq, le_T, le_F, lt_T, lt_F, eq_T, eq_F, if_pos, if_neg, m1_le, m1_lt', m1_gt, m1_le', m1_eq, m1_qe, b2i_eq0, in_N, in_n, in_I, ↓reduceIte, Bool.true_eq_false, Bool.false_eq_true, reduceCtorEq, decide_eq_true_eq, decide_eq_false_iff_not, Nat.not_lt, Nat.not_le, not_true_eq_false, not_false_eq_true, true_and, and_true, and_self, false_and, and_false, true_or, or_true, false_or, or_false, f_X7_next_66, f_X7_next_85]
  clear to66
  have ka := c_kindAt T1 tb hn (q := s) (by omega)
  have k5 : kA tp n s ≤ 3 := by
    unfold kA
    by_cases c : s < n
    · rw [if_pos c, if_neg (fun z => nb ⟨c, z⟩)]; split <;> (try split) <;> omega
    · rw [if_neg c]; omega
  obtain ⟨g2, hg2⟩ : ∃ g2, g2 = sI g1 (x + 105) 2 (nI (kA tp n s)) := ⟨_, rfl⟩
  have T2 : TX g2 x tp n := by rw [hg2]; exact T1.s (by omega) _
  have S2 := T2.1
  have g22 : hI g2 (x + 105) 2 = nI (kA tp n s) := by rw [hg2, hI_sI, if_pos ⟨rfl, rfl⟩]
  have g23 : hI g2 (x + 105) 3 = nI s := by rw [hg2, hI_sI, if_neg (by omega)]; exact g13
  have l2 := T2.2.2.2
  have l1 := T1.2.2.2
  obtain ⟨L, hLL⟩ : ∃ L, L = decide (kA tp n s = 1 ∨ kA tp n s = 2) := ⟨_, rfl⟩
  obtain ⟨g3, hg3⟩ : ∃ g3, g3 = sI g2 (x + 105) 4 (nI (min (s + 1) n)) := ⟨_, rfl⟩
  have to138 : f_X7_next_86 (x + 105) (b2i b) g1 = f_X7_next_138 FU (x + 105) (b2i b) (b2i L) g3 := by
    have mn : f_J9_min_7cf53 (nI (s + 1)) (nI n) g2 = some (nI (min (s + 1) n), g2) := by
      rw [j_min]
      by_cases c : n < s + 1
      · rw [if_pos ((nI_ltI (by omega) (by omega)).mpr c), Nat.min_eq_right (by omega)]
      · rw [if_neg (fun z => c ((nI_ltI (by omega) (by omega)).mp z)), Nat.min_eq_left (by omega)]
    have f2 : sI g1 (x + 105) 2 (nI (kA tp n s)) = g2 := hg2.symm
    have f3 : sI g2 (x + 105) 4 (nI (min (s + 1) n)) = g3 := hg3.symm
    generalize kA tp n s = kk at *
    by_cases c1 : kk = 1
    · rw [hLL, decide_eq_true (Or.inl c1), b2i_t]
      subst c1
      simp (disch := omega) only [nm, bd_s, ko_K, ka_K, koK_t, kaK_t, kr_s, kn_s, kn_n, hK_sI, hR_sI, hK_sL, hR_sL, hI_sL, hL_sI, hL_sL, hI_sI, hN_sI, hN_sL, ch_G, ch_T, nb_0, nb_1, zb_G, d_T, d_F, d_eT, d_eF, b2i_t, b2i_f, tn_nI, fa_lit, fa_litL, m1_e, nI_add, pk_mul, pk_sub, nI_leI, nI_ltI, nI_eq, le_T, le_F, lt_T, lt_F, eq_T, eq_F, if_pos, if_neg, m1_le, m1_lt', m1_gt, m1_le', m1_eq, m1_qe, b2i_eq0, in_N, in_n, in_I, ↓reduceIte, Bool.true_eq_false, Bool.false_eq_true, reduceCtorEq, decide_eq_true_eq, decide_eq_false_iff_not, Nat.not_lt, Nat.not_le, not_true_eq_false, not_false_eq_true, true_and, and_true, and_self, false_and, and_false, true_or, or_true, false_or, or_false, f_X7_next_86, f_X7_next_115, f_X7_next_120, S1.k105, g13, ka, f2, g22, S2.k105, g23, l1, l2, mn, f3]
    · by_cases c2 : kk = 2
      · rw [hLL, decide_eq_true (Or.inr c2), b2i_t]
        subst c2
        simp (disch := omega) only [nm, bd_s, ko_K, ka_K, koK_t, kaK_t, kr_s, kn_s, kn_n, hK_sI, hR_sI, hK_sL, hR_sL, hI_sL, hL_sI, hL_sL, hI_sI, hN_sI, hN_sL, ch_G, ch_T, nb_0, nb_1, zb_G, d_T, d_F, d_eT, d_eF, b2i_t, b2i_f, tn_nI, fa_lit, fa_litL, m1_e, nI_add, pk_mul, pk_sub, nI_leI, nI_ltI, nI_eq, le_T, le_F, lt_T, lt_F, eq_T, eq_F, if_pos, if_neg, m1_le, m1_lt', m1_gt, m1_le', m1_eq, m1_qe, b2i_eq0, in_N, in_n, in_I, ↓reduceIte, Bool.true_eq_false, Bool.false_eq_true, reduceCtorEq, decide_eq_true_eq, decide_eq_false_iff_not, Nat.not_lt, Nat.not_le, not_true_eq_false, not_false_eq_true, true_and, and_true, and_self, false_and, and_false, true_or, or_true, false_or, or_false, f_X7_next_86, f_X7_next_115, f_X7_next_120, S1.k105, g13, ka, f2, g22, S2.k105, g23, l1, l2, mn, f3]
      · rw [hLL, decide_eq_false (by omega), b2i_f]
        simp (disch := omega) only [nm, bd_s, ko_K, ka_K, koK_t, kaK_t, kr_s, kn_s, kn_n, hK_sI, hR_sI, hK_sL, hR_sL, hI_sL, hL_sI, hL_sL, hI_sI, hN_sI, hN_sL, ch_G, ch_T, nb_0, nb_1, zb_G, d_T, d_F, d_eT, d_eF, b2i_t, b2i_f, tn_nI, fa_lit, fa_litL, m1_e, nI_add, pk_mul, pk_sub, nI_leI, nI_ltI, nI_eq, le_T, le_F, lt_T, lt_F, eq_T, eq_F, if_pos, if_neg, m1_le, m1_lt', m1_gt, m1_le', m1_eq, m1_qe, b2i_eq0, in_N, in_n, in_I, ↓reduceIte, Bool.true_eq_false, Bool.false_eq_true, reduceCtorEq, decide_eq_true_eq, decide_eq_false_iff_not, Nat.not_lt, Nat.not_le, not_true_eq_false, not_false_eq_true, true_and, and_true, and_self, false_and, and_false, true_or, or_true, false_or, or_false, f_X7_next_86, f_X7_next_115, f_X7_next_120, S1.k105, g13, ka, f2, g22, S2.k105, g23, l1, l2, mn, f3]
  -- to the token's end
  obtain ⟨g4, hg4⟩ : ∃ g4, g4 = sI g2 (x + 105) 4 (nI (tkE tp n (s, b))) := ⟨_, rfl⟩
  have T4 : TX g4 x tp n := by rw [hg4]; exact T2.s (by omega) _
  have S4 := T4.1
  have g42 : hI g4 (x + 105) 2 = nI (kA tp n s) := by rw [hg4, hI_sI, if_neg (by omega)]; exact g22
  have g43 : hI g4 (x + 105) 3 = nI s := by rw [hg4, hI_sI, if_neg (by omega)]; exact g23
  have g44 : hI g4 (x + 105) 4 = nI (tkE tp n (s, b)) := by rw [hg4, hI_sI, if_pos ⟨rfl, rfl⟩]
  have to181 : f_X7_next_138 FU (x + 105) (b2i b) (b2i L) g3 = f_X7_next_181 (x + 105) (b2i b) (b2i L) g4 := by
    by_cases c1 : kA tp n s = 1
    · have c : s < n := by
        by_cases c : s < n
        · exact c
        · unfold kA at c1; rw [if_neg c] at c1; omega
      have il := (kA_L c).mp c1
      rw [hLL, decide_eq_true (Or.inl c1), b2i_t]
      have r := c_run4 (h := g2) (x := x) (p := isL) (kd := 1) tb hn (fun q hq => kA_L hq) (by omega) (b2i b) (n - (s + 1)) (s + 1) FU rfl (by omega) (FU_gt (by omega)) T2 (by rw [g22, c1])
      have e4 : tkE tp n (s, b) = rn isL tp n (s + 1) := by unfold tkE; simp only; rw [if_pos c, if_pos il, rn_t c il]
      rw [hg3, hg4, Nat.min_eq_left (by omega), e4]
      exact r
    · by_cases c2 : kA tp n s = 2
      · have c : s < n := by
          by_cases c : s < n
          · exact c
          · unfold kA at c2; rw [if_neg c] at c2; omega
        have id := (kA_D c).mp c2
        have nl : ¬ isL (tp s) = true := fun z => c1 ((kA_L c).mpr z)
        rw [hLL, decide_eq_true (Or.inr c2), b2i_t]
        have r := c_run4 (h := g2) (x := x) (p := isD) (kd := 2) tb hn (fun q hq => kA_D hq) (by omega) (b2i b) (n - (s + 1)) (s + 1) FU rfl (by omega) (FU_gt (by omega)) T2 (by rw [g22, c2])
        have e4 : tkE tp n (s, b) = rn isD tp n (s + 1) := by unfold tkE; simp only; rw [if_pos c, if_neg nl, if_pos id, rn_t c id]
        rw [hg3, hg4, Nat.min_eq_left (by omega), e4]
        exact r
      · have e4 : tkE tp n (s, b) = min (s + 1) n := by
          unfold tkE
          simp only
          by_cases c : s < n
          · rw [if_pos c, if_neg (fun z => c1 ((kA_L c).mpr z)), if_neg (fun z => c2 ((kA_D c).mpr z)), Nat.min_eq_left (by omega)]
          · rw [if_neg c, Nat.min_eq_right (by omega)]
        rw [hLL, decide_eq_false (by omega), b2i_f, hg4, e4, ← hg3]
        obtain ⟨fn, hfn⟩ : ∃ m, FU = m + 1 := ⟨9999, rfl⟩
        rw [hfn]
        simp (disch := omega) only [nm, bd_s, ko_K, ka_K, koK_t, kaK_t, kr_s, kn_s, kn_n, hK_sI, hR_sI, hK_sL, hR_sL, hI_sL, hL_sI, hL_sL, hI_sI, hN_sI, hN_sL, ch_G, ch_T, nb_0, nb_1, zb_G, d_T, d_F, d_eT, d_eF, b2i_t, b2i_f, tn_nI, fa_lit, fa_litL, m1_e, nI_add, pk_mul, pk_sub, nI_leI, nI_ltI, nI_eq, le_T, le_F, lt_T, lt_F, eq_T, eq_F, if_pos, if_neg, m1_le, m1_lt', m1_gt, m1_le', m1_eq, m1_qe, b2i_eq0, in_N, in_n, in_I, ↓reduceIte, Bool.true_eq_false, Bool.false_eq_true, reduceCtorEq, decide_eq_true_eq, decide_eq_false_iff_not, Nat.not_lt, Nat.not_le, not_true_eq_false, not_false_eq_true, true_and, and_true, and_self, false_and, and_false, true_or, or_true, false_or, or_false, f_X7_next_138, b_X7_next_138]
  -- its value
  have to217 : f_X7_next_181 (x + 105) (b2i b) (b2i L) g4 = f_X7_next_217 (x + 105) (b2i b) (b2i L) (x + 105) (tkV tp n (s, b)) g4 := by
    by_cases c1 : kA tp n s = 1
    · have c : s < n := by
        by_cases c : s < n
        · exact c
        · unfold kA at c1; rw [if_neg c] at c1; omega
      have il := (kA_L c).mp c1
      have e4 : tkE tp n (s, b) = rn isL tp n s := by unfold tkE; simp only; rw [if_pos c, if_pos il]
      have rl := rn_le (p := isL) (tp := tp) (n := n) (q := s) (by omega)
      have rg := rn_ge (p := isL) (tp := tp) (n := n) s
      have no := c_numberOf S4 T4.2.1 (s := s) (l := rn isL tp n s - s) (by omega) (fun j hj => rn_in (n := n) (q := s) (by omega) (by omega))
      have ev : tkV tp n (s, b) = opI (fnd (fun i => decide (WD i = sub tp s (rn isL tp n s - s))) 31 0) := by unfold tkV; simp only; rw [if_pos c, if_pos il]; rfl
      rw [ev]
      rw [c1] at g42
      rw [e4] at g44
      have r4 := T4.2.2.1
      generalize opI (fnd (fun i => decide (WD i = sub tp s (rn isL tp n s - s))) 31 0) = vv at *
      simp (disch := omega) only [nm, bd_s, ko_K, ka_K, koK_t, kaK_t, kr_s, kn_s, kn_n, hK_sI, hR_sI, hK_sL, hR_sL, hI_sL, hL_sI, hL_sL, hI_sI, hN_sI, hN_sL, ch_G, ch_T, nb_0, nb_1, zb_G, d_T, d_F, d_eT, d_eF, b2i_t, b2i_f, tn_nI, fa_lit, fa_litL, m1_e, nI_add, pk_mul, pk_sub, nI_leI, nI_ltI, nI_eq, le_T, le_F, lt_T, lt_F, eq_T, eq_F, if_pos, if_neg, m1_le, m1_lt', m1_gt, m1_le', m1_eq, m1_qe, b2i_eq0, in_N, in_n, in_I, ↓reduceIte, Bool.true_eq_false, Bool.false_eq_true, reduceCtorEq, decide_eq_true_eq, decide_eq_false_iff_not, Nat.not_lt, Nat.not_le, not_true_eq_false, not_false_eq_true, true_and, and_true, and_self, false_and, and_false, true_or, or_true, false_or, or_false, f_X7_next_181, S4.k105, g42, r4, g43, g44, no]
    · by_cases c2 : kA tp n s = 2
      · have c : s < n := by
          by_cases c : s < n
          · exact c
          · unfold kA at c2; rw [if_neg c] at c2; omega
        have id := (kA_D c).mp c2
        have nl : ¬ isL (tp s) = true := fun z => c1 ((kA_L c).mpr z)
        have e4 : tkE tp n (s, b) = rn isD tp n s := by unfold tkE; simp only; rw [if_pos c, if_neg nl, if_pos id]
        rw [c2] at g42
        rw [e4] at g44
        have pv := c_plainN T4 hn c id g42 g43 g44
        have ev : tkV tp n (s, b) = nI (nvF tp (min 4 (rn isD tp n s - s)) s 0) := by unfold tkV; simp only; rw [if_pos c, if_neg nl, if_pos id]; rfl
        rw [ev]
        simp (disch := omega) only [nm, bd_s, ko_K, ka_K, koK_t, kaK_t, kr_s, kn_s, kn_n, hK_sI, hR_sI, hK_sL, hR_sL, hI_sL, hL_sI, hL_sL, hI_sI, hN_sI, hN_sL, ch_G, ch_T, nb_0, nb_1, zb_G, d_T, d_F, d_eT, d_eF, b2i_t, b2i_f, tn_nI, fa_lit, fa_litL, m1_e, nI_add, pk_mul, pk_sub, nI_leI, nI_ltI, nI_eq, le_T, le_F, lt_T, lt_F, eq_T, eq_F, if_pos, if_neg, m1_le, m1_lt', m1_gt, m1_le', m1_eq, m1_qe, b2i_eq0, in_N, in_n, in_I, ↓reduceIte, Bool.true_eq_false, Bool.false_eq_true, reduceCtorEq, decide_eq_true_eq, decide_eq_false_iff_not, Nat.not_lt, Nat.not_le, not_true_eq_false, not_false_eq_true, true_and, and_true, and_self, false_and, and_false, true_or, or_true, false_or, or_false, f_X7_next_181, S4.k105, g42, pv]
      · have pv := c_plainS T4 tb hn sn g42 (by omega) c2 g43
        have ev : tkV tp n (s, b) = if s < n then nI (tp s) else -nI 1 := by
          unfold tkV
          simp only
          by_cases c : s < n
          · rw [if_pos c, if_pos c, if_neg (fun z => c1 ((kA_L c).mpr z)), if_neg (fun z => c2 ((kA_D c).mpr z))]
          · rw [if_neg c, if_neg c]
        rw [ev]
        generalize kA tp n s = kk at *
        simp (disch := omega) only [nm, bd_s, ko_K, ka_K, koK_t, kaK_t, kr_s, kn_s, kn_n, hK_sI, hR_sI, hK_sL, hR_sL, hI_sL, hL_sI, hL_sL, hI_sI, hN_sI, hN_sL, ch_G, ch_T, nb_0, nb_1, zb_G, d_T, d_F, d_eT, d_eF, b2i_t, b2i_f, tn_nI, fa_lit, fa_litL, m1_e, nI_add, pk_mul, pk_sub, nI_leI, nI_ltI, nI_eq, le_T, le_F, lt_T, lt_F, eq_T, eq_F, if_pos, if_neg, m1_le, m1_lt', m1_gt, m1_le', m1_eq, m1_qe, b2i_eq0, in_N, in_n, in_I, ↓reduceIte, Bool.true_eq_false, Bool.false_eq_true, reduceCtorEq, decide_eq_true_eq, decide_eq_false_iff_not, Nat.not_lt, Nat.not_le, not_true_eq_false, not_false_eq_true, true_and, and_true, and_self, false_and, and_false, true_or, or_true, false_or, or_false, f_X7_next_181, S4.k105, g42, pv]
  have end_ := c_217 T4 b L (tkV tp n (s, b))
  have k4 : nI (tkK tp n (s, b)) = if (b && L) = true then nI 4 else nI (kA tp n s) := by
    unfold tkK
    simp only
    by_cases c : s < n
    · rw [if_pos c]
      by_cases c1 : kA tp n s = 1
      · rw [if_pos ((kA_L c).mp c1), hLL, decide_eq_true (Or.inl c1), Bool.and_true, c1]
        split <;> rfl
      · rw [if_neg (fun z => c1 ((kA_L c).mpr z))]
        by_cases c2 : kA tp n s = 2
        · rw [if_pos ((kA_D c).mp c2), hLL, decide_eq_true (Or.inr c2), Bool.and_true, c2]
          split <;> rfl
        · rw [if_neg (fun z => c2 ((kA_D c).mpr z)), hLL, decide_eq_false (by omega), Bool.and_false, if_neg (by decide)]
          have : kA tp n s = 3 := by
            unfold kA
            rw [if_pos c, if_neg (fun z => nb ⟨c, z⟩), if_neg (fun z => c1 ((kA_L c).mpr z)), if_neg (fun z => c2 ((kA_D c).mpr z))]
          rw [this]
    · rw [if_neg c]
      have : kA tp n s = 0 := by unfold kA; rw [if_neg c]
      rw [hLL, this, decide_eq_false (by omega), Bool.and_false, if_neg (by decide)]
  have fx4 : FX x (PC x) h g4 := by
    rw [hg4, hg2, hg1]
    exact ((fx_pc (by omega)).trans (fx_pc (by omega))).trans (fx_pc (by omega))
  have r4 : hR g4 = hR h := by rw [hg4, hg2, hg1]; rfl
  have l4 : hL g4 = hL h := by rw [hg4, hg2, hg1]; rfl
  refine ⟨_, to86.trans (to138.trans (to181.trans (to217.trans end_))), ?_, ?_, ?_, ?_⟩
  · by_cases c : (b && L) = true
    · rw [if_pos c] at k4 ⊢
      refine ⟨(T4.s (by omega) _).s (by omega) _, ?_, ?_, ?_, ?_⟩
      · rw [hI_sI, if_pos ⟨rfl, rfl⟩, k4]
      · rw [hI_sI, if_neg (by omega), hI_sI, if_neg (by omega)]; exact g43
      · rw [hI_sI, if_neg (by omega), hI_sI, if_neg (by omega)]; exact g44
      · rw [hI_sI, if_neg (by omega), hI_sI, if_pos ⟨rfl, rfl⟩]
    · rw [if_neg c] at k4 ⊢
      refine ⟨T4.s (by omega) _, ?_, ?_, ?_, ?_⟩
      · rw [hI_sI, if_neg (by omega), k4]; exact g42
      · rw [hI_sI, if_neg (by omega)]; exact g43
      · rw [hI_sI, if_neg (by omega)]; exact g44
      · rw [hI_sI, if_pos ⟨rfl, rfl⟩]
  · split
    · exact fx4.trans ((fx_pc (by omega)).trans (fx_pc (by omega)))
    · exact fx4.trans (fx_pc (by omega))
  · split
    · exact r4
    · exact r4
  · split
    · exact l4
    · exact l4
end Nx2
