/-! THE TEXTS: the words of formulas in the reference -/
theorem fnd_1 {p : Nat → Bool} {k j : Nat} (z : p j = true) : fnd p (k + 1) j = some j := by unfold fnd; rw [if_pos z]
theorem fnd_2 {p : Nat → Bool} {k j : Nat} (z : ¬ p j = true) : fnd p (k + 1) j = fnd p k (j + 1) := by conv => lhs; unfold fnd; rw [if_neg z]
section Qw
variable {h : aH} {x n w o bs : Nat} {tp : Nat → Nat} {σ : tyT} {c W : List Nat}
theorem m_hereJ (T : RA h x tp n σ) (tb : ∀ j, tp j ≤ 255) (hn : n ≤ 1600) {j : Nat} (hj : j < 13) : f_X12_isHere (x + 107) (x + 107 + 51 + j) h = some (b2i (isW tp n σ (cw j)), h) := by
  have := m_hereA T tb hn (i := 12 + j) (by omega)
  rw [show x + 107 + 39 + (12 + j) = x + 107 + 51 + j by omega] at this
  exact this
theorem m_wordHere (T : RA h x tp n σ) (tb : ∀ j, tp j ≤ 255) (hn : n ≤ 1600) : f_X12_qWordHere (x + 107) h = some (opI (wJ tp n σ), h) := by
  have S := T.1.1
  have H := fun (j : Nat) (hj : j < 13) => m_hereJ T tb hn hj
  unfold f_X12_qWordHere wJ
  rw [ko_t S.k, kr_t S.r78, bd_t (show f_X12_isHere (x + 107) (x + 107 + 51) h = _ from H 0 (by omega))]
  by_cases z0 : isW tp n σ (cw 0) = true
  · rw [if_neg (b2i_nt z0), fnd_1 (p := fun j => isW tp n σ (cw j)) z0]
    rfl
  · rw [if_pos (b2i_nf z0), fnd_2 (p := fun j => isW tp n σ (cw j)) z0]
    rw [ko_t S.k, kr_t S.r79, bd_t (show f_X12_isHere (x + 107) (x + 107 + 52) h = _ from H 1 (by omega))]
    by_cases z1 : isW tp n σ (cw 1) = true
    · rw [if_neg (b2i_nt z1), fnd_1 (p := fun j => isW tp n σ (cw j)) z1]
      rfl
    · rw [if_pos (b2i_nf z1), fnd_2 (p := fun j => isW tp n σ (cw j)) z1]
      rw [ko_t S.k, kr_t S.r80, bd_t (show f_X12_isHere (x + 107) (x + 107 + 53) h = _ from H 2 (by omega))]
      by_cases z2 : isW tp n σ (cw 2) = true
      · rw [if_neg (b2i_nt z2), fnd_1 (p := fun j => isW tp n σ (cw j)) z2]
        rfl
      · rw [if_pos (b2i_nf z2), fnd_2 (p := fun j => isW tp n σ (cw j)) z2]
        rw [ko_t S.k, kr_t S.r81, bd_t (show f_X12_isHere (x + 107) (x + 107 + 54) h = _ from H 3 (by omega))]
        by_cases z3 : isW tp n σ (cw 3) = true
        · rw [if_neg (b2i_nt z3), fnd_1 (p := fun j => isW tp n σ (cw j)) z3]
          rfl
        · rw [if_pos (b2i_nf z3), fnd_2 (p := fun j => isW tp n σ (cw j)) z3]
          rw [ko_t S.k, kr_t S.r82, bd_t (show f_X12_isHere (x + 107) (x + 107 + 55) h = _ from H 4 (by omega))]
          by_cases z4 : isW tp n σ (cw 4) = true
          · rw [if_neg (b2i_nt z4), fnd_1 (p := fun j => isW tp n σ (cw j)) z4]
            rfl
          · rw [if_pos (b2i_nf z4), fnd_2 (p := fun j => isW tp n σ (cw j)) z4]
            rw [ko_t S.k, kr_t S.r83, bd_t (show f_X12_isHere (x + 107) (x + 107 + 56) h = _ from H 5 (by omega))]
            by_cases z5 : isW tp n σ (cw 5) = true
            · rw [if_neg (b2i_nt z5), fnd_1 (p := fun j => isW tp n σ (cw j)) z5]
              rfl
            · rw [if_pos (b2i_nf z5), fnd_2 (p := fun j => isW tp n σ (cw j)) z5]
              rw [ko_t S.k, kr_t S.r84, bd_t (show f_X12_isHere (x + 107) (x + 107 + 57) h = _ from H 6 (by omega))]
              by_cases z6 : isW tp n σ (cw 6) = true
              · rw [if_neg (b2i_nt z6), fnd_1 (p := fun j => isW tp n σ (cw j)) z6]
                rfl
              · rw [if_pos (b2i_nf z6), fnd_2 (p := fun j => isW tp n σ (cw j)) z6]
                rw [ko_t S.k, kr_t S.r85, bd_t (show f_X12_isHere (x + 107) (x + 107 + 58) h = _ from H 7 (by omega))]
                by_cases z7 : isW tp n σ (cw 7) = true
                · rw [if_neg (b2i_nt z7), fnd_1 (p := fun j => isW tp n σ (cw j)) z7]
                  rfl
                · rw [if_pos (b2i_nf z7), fnd_2 (p := fun j => isW tp n σ (cw j)) z7]
                  rw [ko_t S.k, kr_t S.r86, bd_t (show f_X12_isHere (x + 107) (x + 107 + 59) h = _ from H 8 (by omega))]
                  by_cases z8 : isW tp n σ (cw 8) = true
                  · rw [if_neg (b2i_nt z8), fnd_1 (p := fun j => isW tp n σ (cw j)) z8]
                    rfl
                  · rw [if_pos (b2i_nf z8), fnd_2 (p := fun j => isW tp n σ (cw j)) z8]
                    rw [ko_t S.k, kr_t S.r87, bd_t (show f_X12_isHere (x + 107) (x + 107 + 60) h = _ from H 9 (by omega))]
                    by_cases z9 : isW tp n σ (cw 9) = true
                    · rw [if_neg (b2i_nt z9), fnd_1 (p := fun j => isW tp n σ (cw j)) z9]
                      rfl
                    · rw [if_pos (b2i_nf z9), fnd_2 (p := fun j => isW tp n σ (cw j)) z9]
                      rw [ko_t S.k, kr_t S.r88, bd_t (show f_X12_isHere (x + 107) (x + 107 + 61) h = _ from H 10 (by omega))]
                      by_cases z10 : isW tp n σ (cw 10) = true
                      · rw [if_neg (b2i_nt z10), fnd_1 (p := fun j => isW tp n σ (cw j)) z10]
                        rfl
                      · rw [if_pos (b2i_nf z10), fnd_2 (p := fun j => isW tp n σ (cw j)) z10]
                        rw [ko_t S.k, kr_t S.r89, bd_t (show f_X12_isHere (x + 107) (x + 107 + 62) h = _ from H 11 (by omega))]
                        by_cases z11 : isW tp n σ (cw 11) = true
                        · rw [if_neg (b2i_nt z11), fnd_1 (p := fun j => isW tp n σ (cw j)) z11]
                          rfl
                        · rw [if_pos (b2i_nf z11), fnd_2 (p := fun j => isW tp n σ (cw j)) z11]
                          rw [ko_t S.k, kr_t S.r90, bd_t (show f_X12_isHere (x + 107) (x + 107 + 63) h = _ from H 12 (by omega))]
                          by_cases z12 : isW tp n σ (cw 12) = true
                          · rw [if_neg (b2i_nt z12), fnd_1 (p := fun j => isW tp n σ (cw j)) z12]
                            rfl
                          · rw [if_pos (b2i_nf z12), fnd_2 (p := fun j => isW tp n σ (cw j)) z12]
                            rfl
theorem m_isAl (S : MS h (x + 107)) (e46 : hI h (x + 107) 46 = nI w) (hw : w < 4) {j : Nat} (hj : j < 13) : f_X12_isAllowed (x + 107) (nI j) h = some (b2i (alW w j), h) := by
  unfold alW
  rcases (show w = 0 ∨ w = 1 ∨ w = 2 ∨ w = 3 by omega) with rfl | rfl | rfl | rfl
  · rw [if_pos rfl]
    by_cases c : j < 3
    · rw [decide_eq_true c, b2i_t]
      simp (disch := omega) only [nm, bd_s, ko_K, ka_K, koK_t, kaK_t, kr_s, kn_s, kn_n, hK_sI, hR_sI, hK_sL, hR_sL, hI_sL, hL_sI, hL_sL, hI_sI, hN_sI, hN_sL, ch_G, ch_T, nb_0, nb_1, zb_G, d_T, d_F, d_eT, d_eF, b2i_t, b2i_f, tn_nI, fa_lit, fa_litL, m1_e, nI_add, pk_mul, pk_sub, nI_leI, nI_ltI, nI_eq, le_T, le_F, lt_T, lt_F, eq_T, eq_F, if_pos, if_neg, m1_le, m1_lt', m1_gt, m1_le', m1_eq, m1_qe, b2i_eq0, in_N, in_n, in_I, ↓reduceIte, Bool.true_eq_false, Bool.false_eq_true, reduceCtorEq, decide_eq_true_eq, decide_eq_false_iff_not, Nat.not_lt, Nat.not_le, not_true_eq_false, not_false_eq_true, true_and, and_true, and_self, false_and, and_false, true_or, or_true, false_or, or_false, f_X12_isAllowed_75, f_X12_isAllowed_65, f_X12_isAllowed_42, f_X12_isAllowed_52, f_X12_isAllowed, S.k, e46]
    · rw [decide_eq_false c, b2i_f]
      simp (disch := omega) only [nm, bd_s, ko_K, ka_K, koK_t, kaK_t, kr_s, kn_s, kn_n, hK_sI, hR_sI, hK_sL, hR_sL, hI_sL, hL_sI, hL_sL, hI_sI, hN_sI, hN_sL, ch_G, ch_T, nb_0, nb_1, zb_G, d_T, d_F, d_eT, d_eF, b2i_t, b2i_f, tn_nI, fa_lit, fa_litL, m1_e, nI_add, pk_mul, pk_sub, nI_leI, nI_ltI, nI_eq, le_T, le_F, lt_T, lt_F, eq_T, eq_F, if_pos, if_neg, m1_le, m1_lt', m1_gt, m1_le', m1_eq, m1_qe, b2i_eq0, in_N, in_n, in_I, ↓reduceIte, Bool.true_eq_false, Bool.false_eq_true, reduceCtorEq, decide_eq_true_eq, decide_eq_false_iff_not, Nat.not_lt, Nat.not_le, not_true_eq_false, not_false_eq_true, true_and, and_true, and_self, false_and, and_false, true_or, or_true, false_or, or_false, f_X12_isAllowed_75, f_X12_isAllowed_65, f_X12_isAllowed_42, f_X12_isAllowed_52, f_X12_isAllowed, S.k, e46]
  · rw [if_neg (by omega), if_pos rfl]
    by_cases c : j = 0
    · rw [decide_eq_true c, b2i_t]
      simp (disch := omega) only [nm, bd_s, ko_K, ka_K, koK_t, kaK_t, kr_s, kn_s, kn_n, hK_sI, hR_sI, hK_sL, hR_sL, hI_sL, hL_sI, hL_sL, hI_sI, hN_sI, hN_sL, ch_G, ch_T, nb_0, nb_1, zb_G, d_T, d_F, d_eT, d_eF, b2i_t, b2i_f, tn_nI, fa_lit, fa_litL, m1_e, nI_add, pk_mul, pk_sub, nI_leI, nI_ltI, nI_eq, le_T, le_F, lt_T, lt_F, eq_T, eq_F, if_pos, if_neg, m1_le, m1_lt', m1_gt, m1_le', m1_eq, m1_qe, b2i_eq0, in_N, in_n, in_I, ↓reduceIte, Bool.true_eq_false, Bool.false_eq_true, reduceCtorEq, decide_eq_true_eq, decide_eq_false_iff_not, Nat.not_lt, Nat.not_le, not_true_eq_false, not_false_eq_true, true_and, and_true, and_self, false_and, and_false, true_or, or_true, false_or, or_false, f_X12_isAllowed_75, f_X12_isAllowed_65, f_X12_isAllowed_42, f_X12_isAllowed_52, f_X12_isAllowed, S.k, e46, c]
    · rw [decide_eq_false c, b2i_f]
      simp (disch := omega) only [nm, bd_s, ko_K, ka_K, koK_t, kaK_t, kr_s, kn_s, kn_n, hK_sI, hR_sI, hK_sL, hR_sL, hI_sL, hL_sI, hL_sL, hI_sI, hN_sI, hN_sL, ch_G, ch_T, nb_0, nb_1, zb_G, d_T, d_F, d_eT, d_eF, b2i_t, b2i_f, tn_nI, fa_lit, fa_litL, m1_e, nI_add, pk_mul, pk_sub, nI_leI, nI_ltI, nI_eq, le_T, le_F, lt_T, lt_F, eq_T, eq_F, if_pos, if_neg, m1_le, m1_lt', m1_gt, m1_le', m1_eq, m1_qe, b2i_eq0, in_N, in_n, in_I, ↓reduceIte, Bool.true_eq_false, Bool.false_eq_true, reduceCtorEq, decide_eq_true_eq, decide_eq_false_iff_not, Nat.not_lt, Nat.not_le, not_true_eq_false, not_false_eq_true, true_and, and_true, and_self, false_and, and_false, true_or, or_true, false_or, or_false, f_X12_isAllowed_75, f_X12_isAllowed_65, f_X12_isAllowed_42, f_X12_isAllowed_52, f_X12_isAllowed, S.k, e46, c]
  · rw [if_neg (by omega), if_neg (by omega), if_pos rfl]
    have ii := in_N (h := h) (k := j) (a := 3) (b := 6) (by omega) (by omega) (by omega)
    by_cases c : 3 ≤ j ∧ j ≤ 6
    · rw [decide_eq_true c.1, decide_eq_true c.2, Bool.and_self, b2i_t]
      rw [decide_eq_true c, b2i_t] at ii
      simp (disch := omega) only [nm, bd_s, ko_K, ka_K, koK_t, kaK_t, kr_s, kn_s, kn_n, hK_sI, hR_sI, hK_sL, hR_sL, hI_sL, hL_sI, hL_sL, hI_sI, hN_sI, hN_sL, ch_G, ch_T, nb_0, nb_1, zb_G, d_T, d_F, d_eT, d_eF, b2i_t, b2i_f, tn_nI, fa_lit, fa_litL, m1_e, nI_add, pk_mul, pk_sub, nI_leI, nI_ltI, nI_eq, le_T, le_F, lt_T, lt_F, eq_T, eq_F, if_pos, if_neg, m1_le, m1_lt', m1_gt, m1_le', m1_eq, m1_qe, b2i_eq0, in_N, in_n, in_I, ↓reduceIte, Bool.true_eq_false, Bool.false_eq_true, reduceCtorEq, decide_eq_true_eq, decide_eq_false_iff_not, Nat.not_lt, Nat.not_le, not_true_eq_false, not_false_eq_true, true_and, and_true, and_self, false_and, and_false, true_or, or_true, false_or, or_false, f_X12_isAllowed_75, f_X12_isAllowed_65, f_X12_isAllowed_42, f_X12_isAllowed_52, f_X12_isAllowed, S.k, e46, ii]
    · have : (decide (3 ≤ j) && decide (j ≤ 6)) = false := by simp; omega
      rw [this, b2i_f]
      rw [decide_eq_false c, b2i_f] at ii
      simp (disch := omega) only [nm, bd_s, ko_K, ka_K, koK_t, kaK_t, kr_s, kn_s, kn_n, hK_sI, hR_sI, hK_sL, hR_sL, hI_sL, hL_sI, hL_sL, hI_sI, hN_sI, hN_sL, ch_G, ch_T, nb_0, nb_1, zb_G, d_T, d_F, d_eT, d_eF, b2i_t, b2i_f, tn_nI, fa_lit, fa_litL, m1_e, nI_add, pk_mul, pk_sub, nI_leI, nI_ltI, nI_eq, le_T, le_F, lt_T, lt_F, eq_T, eq_F, if_pos, if_neg, m1_le, m1_lt', m1_gt, m1_le', m1_eq, m1_qe, b2i_eq0, in_N, in_n, in_I, ↓reduceIte, Bool.true_eq_false, Bool.false_eq_true, reduceCtorEq, decide_eq_true_eq, decide_eq_false_iff_not, Nat.not_lt, Nat.not_le, not_true_eq_false, not_false_eq_true, true_and, and_true, and_self, false_and, and_false, true_or, or_true, false_or, or_false, f_X12_isAllowed_75, f_X12_isAllowed_65, f_X12_isAllowed_42, f_X12_isAllowed_52, f_X12_isAllowed, S.k, e46, ii]
  · rw [if_neg (by omega), if_neg (by omega), if_neg (by omega)]
    by_cases c : 3 ≤ j
    · rw [decide_eq_true c, b2i_t]
      simp (disch := omega) only [nm, bd_s, ko_K, ka_K, koK_t, kaK_t, kr_s, kn_s, kn_n, hK_sI, hR_sI, hK_sL, hR_sL, hI_sL, hL_sI, hL_sL, hI_sI, hN_sI, hN_sL, ch_G, ch_T, nb_0, nb_1, zb_G, d_T, d_F, d_eT, d_eF, b2i_t, b2i_f, tn_nI, fa_lit, fa_litL, m1_e, nI_add, pk_mul, pk_sub, nI_leI, nI_ltI, nI_eq, le_T, le_F, lt_T, lt_F, eq_T, eq_F, if_pos, if_neg, m1_le, m1_lt', m1_gt, m1_le', m1_eq, m1_qe, b2i_eq0, in_N, in_n, in_I, ↓reduceIte, Bool.true_eq_false, Bool.false_eq_true, reduceCtorEq, decide_eq_true_eq, decide_eq_false_iff_not, Nat.not_lt, Nat.not_le, not_true_eq_false, not_false_eq_true, true_and, and_true, and_self, false_and, and_false, true_or, or_true, false_or, or_false, f_X12_isAllowed_75, f_X12_isAllowed_65, f_X12_isAllowed_42, f_X12_isAllowed_52, f_X12_isAllowed, S.k, e46]
    · rw [decide_eq_false c, b2i_f]
      simp (disch := omega) only [nm, bd_s, ko_K, ka_K, koK_t, kaK_t, kr_s, kn_s, kn_n, hK_sI, hR_sI, hK_sL, hR_sL, hI_sL, hL_sI, hL_sL, hI_sI, hN_sI, hN_sL, ch_G, ch_T, nb_0, nb_1, zb_G, d_T, d_F, d_eT, d_eF, b2i_t, b2i_f, tn_nI, fa_lit, fa_litL, m1_e, nI_add, pk_mul, pk_sub, nI_leI, nI_ltI, nI_eq, le_T, le_F, lt_T, lt_F, eq_T, eq_F, if_pos, if_neg, m1_le, m1_lt', m1_gt, m1_le', m1_eq, m1_qe, b2i_eq0, in_N, in_n, in_I, ↓reduceIte, Bool.true_eq_false, Bool.false_eq_true, reduceCtorEq, decide_eq_true_eq, decide_eq_false_iff_not, Nat.not_lt, Nat.not_le, not_true_eq_false, not_false_eq_true, true_and, and_true, and_self, false_and, and_false, true_or, or_true, false_or, or_false, f_X12_isAllowed_75, f_X12_isAllowed_65, f_X12_isAllowed_42, f_X12_isAllowed_52, f_X12_isAllowed, S.k, e46]
/-- the word of formulas here, if it lies between and is allowed -/
def wB2 (tp : Nat → Nat) (n w : Nat) (σ : tyT) (lo hi : Nat) : Option Nat := match wJ tp n σ with
  | none => none
  | some j => if lo ≤ j ∧ j < hi ∧ alW w j = true then some j else none
theorem m_wordOf (T : RA h x tp n σ) (tb : ∀ j, tp j ≤ 255) (hn : n ≤ 1600) (e46 : hI h (x + 107) 46 = nI w) (hw : w < 4) {lo hi : Nat} (h1 : lo ≤ 13) (h2 : hi ≤ 13) : f_X12_qWordOf (x + 107) (nI lo) (nI hi) h = some (opI (wB2 tp n w σ lo hi), h) := by
  have S := T.1.1
  have wh := m_wordHere T tb hn
  unfold wB2
  cases q : wJ tp n σ with
  | none =>
    rw [q] at wh
    have wh : f_X12_qWordHere (x + 107) h = some (-nI 1, h) := wh
    show _ = some (-nI 1, h)
    simp (disch := omega) only [nm, bd_s, ko_K, ka_K, koK_t, kaK_t, kr_s, kn_s, kn_n, hK_sI, hR_sI, hK_sL, hR_sL, hI_sL, hL_sI, hL_sL, hI_sI, hN_sI, hN_sL, ch_G, ch_T, nb_0, nb_1, zb_G, d_T, d_F, d_eT, d_eF, b2i_t, b2i_f, tn_nI, fa_lit, fa_litL, m1_e, nI_add, pk_mul, pk_sub, nI_leI, nI_ltI, nI_eq, le_T, le_F, lt_T, lt_F, eq_T, eq_F, if_pos, if_neg, m1_le, m1_lt', m1_gt, m1_le', m1_eq, m1_qe, b2i_eq0, in_N, in_n, in_I, ↓reduceIte, Bool.true_eq_false, Bool.false_eq_true, reduceCtorEq, decide_eq_true_eq, decide_eq_false_iff_not, Nat.not_lt, Nat.not_le, not_true_eq_false, not_false_eq_true, true_and, and_true, and_self, false_and, and_false, true_or, or_true, false_or, or_false, f_X12_qWordOf_28, f_X12_qWordOf_27, f_X12_qWordOf, S.k, wh]
  | some j =>
    obtain ⟨j13, -⟩ := wJ_t q
    rw [q] at wh
    have wh : f_X12_qWordHere (x + 107) h = some (nI j, h) := wh
    have al := m_isAl S e46 hw j13
    simp only
    by_cases c1 : lo ≤ j
    · by_cases c2 : j < hi
      · by_cases c3 : alW w j = true
        · rw [if_pos ⟨c1, c2, c3⟩]
          rw [c3, b2i_t] at al
          show _ = some (nI j, h)
          simp (disch := omega) only [nm, bd_s, ko_K, ka_K, koK_t, kaK_t, kr_s, kn_s, kn_n, hK_sI, hR_sI, hK_sL, hR_sL, hI_sL, hL_sI, hL_sL, hI_sI, hN_sI, hN_sL, ch_G, ch_T, nb_0, nb_1, zb_G, d_T, d_F, d_eT, d_eF, b2i_t, b2i_f, tn_nI, fa_lit, fa_litL, m1_e, nI_add, pk_mul, pk_sub, nI_leI, nI_ltI, nI_eq, le_T, le_F, lt_T, lt_F, eq_T, eq_F, if_pos, if_neg, m1_le, m1_lt', m1_gt, m1_le', m1_eq, m1_qe, b2i_eq0, in_N, in_n, in_I, ↓reduceIte, Bool.true_eq_false, Bool.false_eq_true, reduceCtorEq, decide_eq_true_eq, decide_eq_false_iff_not, Nat.not_lt, Nat.not_le, not_true_eq_false, not_false_eq_true, true_and, and_true, and_self, false_and, and_false, true_or, or_true, false_or, or_false, f_X12_qWordOf_28, f_X12_qWordOf_27, f_X12_qWordOf, S.k, wh, al]
        · rw [if_neg (fun z => c3 z.2.2)]
          rw [show alW w j = false by cases y : alW w j with | false => rfl | true => exact absurd y c3, b2i_f] at al
          show _ = some (-nI 1, h)
          simp (disch := omega) only [nm, bd_s, ko_K, ka_K, koK_t, kaK_t, kr_s, kn_s, kn_n, hK_sI, hR_sI, hK_sL, hR_sL, hI_sL, hL_sI, hL_sL, hI_sI, hN_sI, hN_sL, ch_G, ch_T, nb_0, nb_1, zb_G, d_T, d_F, d_eT, d_eF, b2i_t, b2i_f, tn_nI, fa_lit, fa_litL, m1_e, nI_add, pk_mul, pk_sub, nI_leI, nI_ltI, nI_eq, le_T, le_F, lt_T, lt_F, eq_T, eq_F, if_pos, if_neg, m1_le, m1_lt', m1_gt, m1_le', m1_eq, m1_qe, b2i_eq0, in_N, in_n, in_I, ↓reduceIte, Bool.true_eq_false, Bool.false_eq_true, reduceCtorEq, decide_eq_true_eq, decide_eq_false_iff_not, Nat.not_lt, Nat.not_le, not_true_eq_false, not_false_eq_true, true_and, and_true, and_self, false_and, and_false, true_or, or_true, false_or, or_false, f_X12_qWordOf_28, f_X12_qWordOf_27, f_X12_qWordOf, S.k, wh, al]
      · rw [if_neg (fun z => c2 z.2.1)]
        show _ = some (-nI 1, h)
        simp (disch := omega) only [nm, bd_s, ko_K, ka_K, koK_t, kaK_t, kr_s, kn_s, kn_n, hK_sI, hR_sI, hK_sL, hR_sL, hI_sL, hL_sI, hL_sL, hI_sI, hN_sI, hN_sL, ch_G, ch_T, nb_0, nb_1, zb_G, d_T, d_F, d_eT, d_eF, b2i_t, b2i_f, tn_nI, fa_lit, fa_litL, m1_e, nI_add, pk_mul, pk_sub, nI_leI, nI_ltI, nI_eq, le_T, le_F, lt_T, lt_F, eq_T, eq_F, if_pos, if_neg, m1_le, m1_lt', m1_gt, m1_le', m1_eq, m1_qe, b2i_eq0, in_N, in_n, in_I, ↓reduceIte, Bool.true_eq_false, Bool.false_eq_true, reduceCtorEq, decide_eq_true_eq, decide_eq_false_iff_not, Nat.not_lt, Nat.not_le, not_true_eq_false, not_false_eq_true, true_and, and_true, and_self, false_and, and_false, true_or, or_true, false_or, or_false, f_X12_qWordOf_28, f_X12_qWordOf_27, f_X12_qWordOf, S.k, wh]
    · rw [if_neg (fun z => c1 z.1)]
      show _ = some (-nI 1, h)
      simp (disch := omega) only [nm, bd_s, ko_K, ka_K, koK_t, kaK_t, kr_s, kn_s, kn_n, hK_sI, hR_sI, hK_sL, hR_sL, hI_sL, hL_sI, hL_sL, hI_sI, hN_sI, hN_sL, ch_G, ch_T, nb_0, nb_1, zb_G, d_T, d_F, d_eT, d_eF, b2i_t, b2i_f, tn_nI, fa_lit, fa_litL, m1_e, nI_add, pk_mul, pk_sub, nI_leI, nI_ltI, nI_eq, le_T, le_F, lt_T, lt_F, eq_T, eq_F, if_pos, if_neg, m1_le, m1_lt', m1_gt, m1_le', m1_eq, m1_qe, b2i_eq0, in_N, in_n, in_I, ↓reduceIte, Bool.true_eq_false, Bool.false_eq_true, reduceCtorEq, decide_eq_true_eq, decide_eq_false_iff_not, Nat.not_lt, Nat.not_le, not_true_eq_false, not_false_eq_true, true_and, and_true, and_self, false_and, and_false, true_or, or_true, false_or, or_false, f_X12_qWordOf_28, f_X12_qWordOf_27, f_X12_qWordOf, S.k, wh]
theorem m_asks1 (T : RA h x tp n σ) (hn : n ≤ 1600) {A i : Nat} (kA : hK h A = some (.inr (.char, (WD i).length))) (hi : i < 31) (is : f_X12_isHere (x + 107) A h = some (b2i (isW tp n σ i), h)) (z : isW tp n σ i = true) : f_X12_asks (x + 107) A h = some ((), tkH h x (rn isL tp n σ.1)) := by
  have S := T.1.1
  have bad := T.2.2.1
  have tk := (m_takes T hn kA hi is).1 z
  generalize tkH h x (rn isL tp n σ.1) = g at *
  simp (disch := omega) only [nm, bd_s, ko_K, ka_K, koK_t, kaK_t, kr_s, kn_s, kn_n, hK_sI, hR_sI, hK_sL, hR_sL, hI_sL, hL_sI, hL_sL, hI_sI, hN_sI, hN_sL, ch_G, ch_T, nb_0, nb_1, zb_G, d_T, d_F, d_eT, d_eF, b2i_t, b2i_f, tn_nI, fa_lit, fa_litL, m1_e, nI_add, pk_mul, pk_sub, nI_leI, nI_ltI, nI_eq, le_T, le_F, lt_T, lt_F, eq_T, eq_F, if_pos, if_neg, m1_le, m1_lt', m1_gt, m1_le', m1_eq, m1_qe, b2i_eq0, in_N, in_n, in_I, ↓reduceIte, Bool.true_eq_false, Bool.false_eq_true, reduceCtorEq, decide_eq_true_eq, decide_eq_false_iff_not, Nat.not_lt, Nat.not_le, not_true_eq_false, not_false_eq_true, true_and, and_true, and_self, false_and, and_false, true_or, or_true, false_or, or_false, f_X12_asks, f_X12_asks_24, S.k, bad, tk]
theorem m_asks0 (T : RA h x tp n σ) (hn : n ≤ 1600) {A i : Nat} (kA : hK h A = some (.inr (.char, (WD i).length))) (hi : i < 31) (is : f_X12_isHere (x + 107) A h = some (b2i (isW tp n σ i), h)) (z : isW tp n σ i = false) : f_X12_asks (x + 107) A h = some ((), flH h x 1 σ.1) := by
  have S := T.1.1
  have bad := T.2.2.1
  have v2 := T.2.2.2.1
  have tk := (m_takes T hn kA hi is).2 z
  have fa := m_fail S bad 1 σ.1
  unfold flH
  simp (disch := omega) only [nm, bd_s, ko_K, ka_K, koK_t, kaK_t, kr_s, kn_s, kn_n, hK_sI, hR_sI, hK_sL, hR_sL, hI_sL, hL_sI, hL_sL, hI_sI, hN_sI, hN_sL, ch_G, ch_T, nb_0, nb_1, zb_G, d_T, d_F, d_eT, d_eF, b2i_t, b2i_f, tn_nI, fa_lit, fa_litL, m1_e, nI_add, pk_mul, pk_sub, nI_leI, nI_ltI, nI_eq, le_T, le_F, lt_T, lt_F, eq_T, eq_F, if_pos, if_neg, m1_le, m1_lt', m1_gt, m1_le', m1_eq, m1_qe, b2i_eq0, in_N, in_n, in_I, ↓reduceIte, Bool.true_eq_false, Bool.false_eq_true, reduceCtorEq, decide_eq_true_eq, decide_eq_false_iff_not, Nat.not_lt, Nat.not_le, not_true_eq_false, not_false_eq_true, true_and, and_true, and_self, false_and, and_false, true_or, or_true, false_or, or_false, f_X12_asks, f_X12_asks_24, S.k, bad, tk, v2, fa]
theorem m_asksW (T : RA h x tp n σ) (tb : ∀ j, tp j ≤ 255) (hn : n ≤ 1600) {j : Nat} (hj : j < 13) (z : isW tp n σ (cw j) = true) : f_X12_qAsksWord (x + 107) (nI j) h = some ((), tkH h x (rn isL tp n σ.1)) := by
  have S := T.1.1
  have as : f_X12_asks (x + 107) (x + 107 + 51 + j) h = some ((), tkH h x (rn isL tp n σ.1)) := by
    have k := (S.aw (12 + j) (by omega)).2
    rw [show x + 107 + 39 + (12 + j) = x + 107 + 51 + j by omega] at k
    exact m_asks1 T hn k (by have := cw_lt j hj; show cw j < 31; omega) (m_hereJ T tb hn hj) z
  generalize tkH h x (rn isL tp n σ.1) = g at *
  rcases (show j = 0 ∨ j = 1 ∨ j = 2 ∨ j = 3 ∨ j = 4 ∨ j = 5 ∨ j = 6 ∨ j = 7 ∨ j = 8 ∨ j = 9 ∨ j = 10 ∨ j = 11 ∨ j = 12 by omega) with rfl | rfl | rfl | rfl | rfl | rfl | rfl | rfl | rfl | rfl | rfl | rfl | rfl
  · have as : f_X12_asks (x + 107) (x + 107 + 51) h = some ((), g) := as
    simp (disch := omega) only [nm, bd_s, ko_K, ka_K, koK_t, kaK_t, kr_s, kn_s, kn_n, hK_sI, hR_sI, hK_sL, hR_sL, hI_sL, hL_sI, hL_sL, hI_sI, hN_sI, hN_sL, ch_G, ch_T, nb_0, nb_1, zb_G, d_T, d_F, d_eT, d_eF, b2i_t, b2i_f, tn_nI, fa_lit, fa_litL, m1_e, nI_add, pk_mul, pk_sub, nI_leI, nI_ltI, nI_eq, le_T, le_F, lt_T, lt_F, eq_T, eq_F, if_pos, if_neg, m1_le, m1_lt', m1_gt, m1_le', m1_eq, m1_qe, b2i_eq0, in_N, in_n, in_I, ↓reduceIte, Bool.true_eq_false, Bool.false_eq_true, reduceCtorEq, decide_eq_true_eq, decide_eq_false_iff_not, Nat.not_lt, Nat.not_le, not_true_eq_false, not_false_eq_true, true_and, and_true, and_self, false_and, and_false, true_or, or_true, false_or, or_false, f_X12_qAsksWord_204, f_X12_qAsksWord_196, f_X12_qAsksWord, S.k, S.r78, as]
  · have as : f_X12_asks (x + 107) (x + 107 + 52) h = some ((), g) := as
    simp (disch := omega) only [nm, bd_s, ko_K, ka_K, koK_t, kaK_t, kr_s, kn_s, kn_n, hK_sI, hR_sI, hK_sL, hR_sL, hI_sL, hL_sI, hL_sL, hI_sI, hN_sI, hN_sL, ch_G, ch_T, nb_0, nb_1, zb_G, d_T, d_F, d_eT, d_eF, b2i_t, b2i_f, tn_nI, fa_lit, fa_litL, m1_e, nI_add, pk_mul, pk_sub, nI_leI, nI_ltI, nI_eq, le_T, le_F, lt_T, lt_F, eq_T, eq_F, if_pos, if_neg, m1_le, m1_lt', m1_gt, m1_le', m1_eq, m1_qe, b2i_eq0, in_N, in_n, in_I, ↓reduceIte, Bool.true_eq_false, Bool.false_eq_true, reduceCtorEq, decide_eq_true_eq, decide_eq_false_iff_not, Nat.not_lt, Nat.not_le, not_true_eq_false, not_false_eq_true, true_and, and_true, and_self, false_and, and_false, true_or, or_true, false_or, or_false, f_X12_qAsksWord_204, f_X12_qAsksWord_196, f_X12_qAsksWord, S.k, S.r79, as]
  · have as : f_X12_asks (x + 107) (x + 107 + 53) h = some ((), g) := as
    simp (disch := omega) only [nm, bd_s, ko_K, ka_K, koK_t, kaK_t, kr_s, kn_s, kn_n, hK_sI, hR_sI, hK_sL, hR_sL, hI_sL, hL_sI, hL_sL, hI_sI, hN_sI, hN_sL, ch_G, ch_T, nb_0, nb_1, zb_G, d_T, d_F, d_eT, d_eF, b2i_t, b2i_f, tn_nI, fa_lit, fa_litL, m1_e, nI_add, pk_mul, pk_sub, nI_leI, nI_ltI, nI_eq, le_T, le_F, lt_T, lt_F, eq_T, eq_F, if_pos, if_neg, m1_le, m1_lt', m1_gt, m1_le', m1_eq, m1_qe, b2i_eq0, in_N, in_n, in_I, ↓reduceIte, Bool.true_eq_false, Bool.false_eq_true, reduceCtorEq, decide_eq_true_eq, decide_eq_false_iff_not, Nat.not_lt, Nat.not_le, not_true_eq_false, not_false_eq_true, true_and, and_true, and_self, false_and, and_false, true_or, or_true, false_or, or_false, f_X12_qAsksWord_204, f_X12_qAsksWord_196, f_X12_qAsksWord, S.k, S.r80, as]
  · have as : f_X12_asks (x + 107) (x + 107 + 54) h = some ((), g) := as
    simp (disch := omega) only [nm, bd_s, ko_K, ka_K, koK_t, kaK_t, kr_s, kn_s, kn_n, hK_sI, hR_sI, hK_sL, hR_sL, hI_sL, hL_sI, hL_sL, hI_sI, hN_sI, hN_sL, ch_G, ch_T, nb_0, nb_1, zb_G, d_T, d_F, d_eT, d_eF, b2i_t, b2i_f, tn_nI, fa_lit, fa_litL, m1_e, nI_add, pk_mul, pk_sub, nI_leI, nI_ltI, nI_eq, le_T, le_F, lt_T, lt_F, eq_T, eq_F, if_pos, if_neg, m1_le, m1_lt', m1_gt, m1_le', m1_eq, m1_qe, b2i_eq0, in_N, in_n, in_I, ↓reduceIte, Bool.true_eq_false, Bool.false_eq_true, reduceCtorEq, decide_eq_true_eq, decide_eq_false_iff_not, Nat.not_lt, Nat.not_le, not_true_eq_false, not_false_eq_true, true_and, and_true, and_self, false_and, and_false, true_or, or_true, false_or, or_false, f_X12_qAsksWord_204, f_X12_qAsksWord_196, f_X12_qAsksWord, S.k, S.r81, as]
  · have as : f_X12_asks (x + 107) (x + 107 + 55) h = some ((), g) := as
    simp (disch := omega) only [nm, bd_s, ko_K, ka_K, koK_t, kaK_t, kr_s, kn_s, kn_n, hK_sI, hR_sI, hK_sL, hR_sL, hI_sL, hL_sI, hL_sL, hI_sI, hN_sI, hN_sL, ch_G, ch_T, nb_0, nb_1, zb_G, d_T, d_F, d_eT, d_eF, b2i_t, b2i_f, tn_nI, fa_lit, fa_litL, m1_e, nI_add, pk_mul, pk_sub, nI_leI, nI_ltI, nI_eq, le_T, le_F, lt_T, lt_F, eq_T, eq_F, if_pos, if_neg, m1_le, m1_lt', m1_gt, m1_le', m1_eq, m1_qe, b2i_eq0, in_N, in_n, in_I, ↓reduceIte, Bool.true_eq_false, Bool.false_eq_true, reduceCtorEq, decide_eq_true_eq, decide_eq_false_iff_not, Nat.not_lt, Nat.not_le, not_true_eq_false, not_false_eq_true, true_and, and_true, and_self, false_and, and_false, true_or, or_true, false_or, or_false, f_X12_qAsksWord_204, f_X12_qAsksWord_196, f_X12_qAsksWord, S.k, S.r82, as]
  · have as : f_X12_asks (x + 107) (x + 107 + 56) h = some ((), g) := as
    simp (disch := omega) only [nm, bd_s, ko_K, ka_K, koK_t, kaK_t, kr_s, kn_s, kn_n, hK_sI, hR_sI, hK_sL, hR_sL, hI_sL, hL_sI, hL_sL, hI_sI, hN_sI, hN_sL, ch_G, ch_T, nb_0, nb_1, zb_G, d_T, d_F, d_eT, d_eF, b2i_t, b2i_f, tn_nI, fa_lit, fa_litL, m1_e, nI_add, pk_mul, pk_sub, nI_leI, nI_ltI, nI_eq, le_T, le_F, lt_T, lt_F, eq_T, eq_F, if_pos, if_neg, m1_le, m1_lt', m1_gt, m1_le', m1_eq, m1_qe, b2i_eq0, in_N, in_n, in_I, ↓reduceIte, Bool.true_eq_false, Bool.false_eq_true, reduceCtorEq, decide_eq_true_eq, decide_eq_false_iff_not, Nat.not_lt, Nat.not_le, not_true_eq_false, not_false_eq_true, true_and, and_true, and_self, false_and, and_false, true_or, or_true, false_or, or_false, f_X12_qAsksWord_204, f_X12_qAsksWord_196, f_X12_qAsksWord, S.k, S.r83, as]
  · have as : f_X12_asks (x + 107) (x + 107 + 57) h = some ((), g) := as
    simp (disch := omega) only [nm, bd_s, ko_K, ka_K, koK_t, kaK_t, kr_s, kn_s, kn_n, hK_sI, hR_sI, hK_sL, hR_sL, hI_sL, hL_sI, hL_sL, hI_sI, hN_sI, hN_sL, ch_G, ch_T, nb_0, nb_1, zb_G, d_T, d_F, d_eT, d_eF, b2i_t, b2i_f, tn_nI, fa_lit, fa_litL, m1_e, nI_add, pk_mul, pk_sub, nI_leI, nI_ltI, nI_eq, le_T, le_F, lt_T, lt_F, eq_T, eq_F, if_pos, if_neg, m1_le, m1_lt', m1_gt, m1_le', m1_eq, m1_qe, b2i_eq0, in_N, in_n, in_I, ↓reduceIte, Bool.true_eq_false, Bool.false_eq_true, reduceCtorEq, decide_eq_true_eq, decide_eq_false_iff_not, Nat.not_lt, Nat.not_le, not_true_eq_false, not_false_eq_true, true_and, and_true, and_self, false_and, and_false, true_or, or_true, false_or, or_false, f_X12_qAsksWord_204, f_X12_qAsksWord_196, f_X12_qAsksWord, S.k, S.r84, as]
  · have as : f_X12_asks (x + 107) (x + 107 + 58) h = some ((), g) := as
    simp (disch := omega) only [nm, bd_s, ko_K, ka_K, koK_t, kaK_t, kr_s, kn_s, kn_n, hK_sI, hR_sI, hK_sL, hR_sL, hI_sL, hL_sI, hL_sL, hI_sI, hN_sI, hN_sL, ch_G, ch_T, nb_0, nb_1, zb_G, d_T, d_F, d_eT, d_eF, b2i_t, b2i_f, tn_nI, fa_lit, fa_litL, m1_e, nI_add, pk_mul, pk_sub, nI_leI, nI_ltI, nI_eq, le_T, le_F, lt_T, lt_F, eq_T, eq_F, if_pos, if_neg, m1_le, m1_lt', m1_gt, m1_le', m1_eq, m1_qe, b2i_eq0, in_N, in_n, in_I, ↓reduceIte, Bool.true_eq_false, Bool.false_eq_true, reduceCtorEq, decide_eq_true_eq, decide_eq_false_iff_not, Nat.not_lt, Nat.not_le, not_true_eq_false, not_false_eq_true, true_and, and_true, and_self, false_and, and_false, true_or, or_true, false_or, or_false, f_X12_qAsksWord_204, f_X12_qAsksWord_196, f_X12_qAsksWord, S.k, S.r85, as]
  · have as : f_X12_asks (x + 107) (x + 107 + 59) h = some ((), g) := as
    simp (disch := omega) only [nm, bd_s, ko_K, ka_K, koK_t, kaK_t, kr_s, kn_s, kn_n, hK_sI, hR_sI, hK_sL, hR_sL, hI_sL, hL_sI, hL_sL, hI_sI, hN_sI, hN_sL, ch_G, ch_T, nb_0, nb_1, zb_G, d_T, d_F, d_eT, d_eF, b2i_t, b2i_f, tn_nI, fa_lit, fa_litL, m1_e, nI_add, pk_mul, pk_sub, nI_leI, nI_ltI, nI_eq, le_T, le_F, lt_T, lt_F, eq_T, eq_F, if_pos, if_neg, m1_le, m1_lt', m1_gt, m1_le', m1_eq, m1_qe, b2i_eq0, in_N, in_n, in_I, ↓reduceIte, Bool.true_eq_false, Bool.false_eq_true, reduceCtorEq, decide_eq_true_eq, decide_eq_false_iff_not, Nat.not_lt, Nat.not_le, not_true_eq_false, not_false_eq_true, true_and, and_true, and_self, false_and, and_false, true_or, or_true, false_or, or_false, f_X12_qAsksWord_204, f_X12_qAsksWord_196, f_X12_qAsksWord, S.k, S.r86, as]
  · have as : f_X12_asks (x + 107) (x + 107 + 60) h = some ((), g) := as
    simp (disch := omega) only [nm, bd_s, ko_K, ka_K, koK_t, kaK_t, kr_s, kn_s, kn_n, hK_sI, hR_sI, hK_sL, hR_sL, hI_sL, hL_sI, hL_sL, hI_sI, hN_sI, hN_sL, ch_G, ch_T, nb_0, nb_1, zb_G, d_T, d_F, d_eT, d_eF, b2i_t, b2i_f, tn_nI, fa_lit, fa_litL, m1_e, nI_add, pk_mul, pk_sub, nI_leI, nI_ltI, nI_eq, le_T, le_F, lt_T, lt_F, eq_T, eq_F, if_pos, if_neg, m1_le, m1_lt', m1_gt, m1_le', m1_eq, m1_qe, b2i_eq0, in_N, in_n, in_I, ↓reduceIte, Bool.true_eq_false, Bool.false_eq_true, reduceCtorEq, decide_eq_true_eq, decide_eq_false_iff_not, Nat.not_lt, Nat.not_le, not_true_eq_false, not_false_eq_true, true_and, and_true, and_self, false_and, and_false, true_or, or_true, false_or, or_false, f_X12_qAsksWord_204, f_X12_qAsksWord_196, f_X12_qAsksWord, S.k, S.r87, as]
  · have as : f_X12_asks (x + 107) (x + 107 + 61) h = some ((), g) := as
    simp (disch := omega) only [nm, bd_s, ko_K, ka_K, koK_t, kaK_t, kr_s, kn_s, kn_n, hK_sI, hR_sI, hK_sL, hR_sL, hI_sL, hL_sI, hL_sL, hI_sI, hN_sI, hN_sL, ch_G, ch_T, nb_0, nb_1, zb_G, d_T, d_F, d_eT, d_eF, b2i_t, b2i_f, tn_nI, fa_lit, fa_litL, m1_e, nI_add, pk_mul, pk_sub, nI_leI, nI_ltI, nI_eq, le_T, le_F, lt_T, lt_F, eq_T, eq_F, if_pos, if_neg, m1_le, m1_lt', m1_gt, m1_le', m1_eq, m1_qe, b2i_eq0, in_N, in_n, in_I, ↓reduceIte, Bool.true_eq_false, Bool.false_eq_true, reduceCtorEq, decide_eq_true_eq, decide_eq_false_iff_not, Nat.not_lt, Nat.not_le, not_true_eq_false, not_false_eq_true, true_and, and_true, and_self, false_and, and_false, true_or, or_true, false_or, or_false, f_X12_qAsksWord_204, f_X12_qAsksWord_196, f_X12_qAsksWord, S.k, S.r88, as]
  · have as : f_X12_asks (x + 107) (x + 107 + 62) h = some ((), g) := as
    simp (disch := omega) only [nm, bd_s, ko_K, ka_K, koK_t, kaK_t, kr_s, kn_s, kn_n, hK_sI, hR_sI, hK_sL, hR_sL, hI_sL, hL_sI, hL_sL, hI_sI, hN_sI, hN_sL, ch_G, ch_T, nb_0, nb_1, zb_G, d_T, d_F, d_eT, d_eF, b2i_t, b2i_f, tn_nI, fa_lit, fa_litL, m1_e, nI_add, pk_mul, pk_sub, nI_leI, nI_ltI, nI_eq, le_T, le_F, lt_T, lt_F, eq_T, eq_F, if_pos, if_neg, m1_le, m1_lt', m1_gt, m1_le', m1_eq, m1_qe, b2i_eq0, in_N, in_n, in_I, ↓reduceIte, Bool.true_eq_false, Bool.false_eq_true, reduceCtorEq, decide_eq_true_eq, decide_eq_false_iff_not, Nat.not_lt, Nat.not_le, not_true_eq_false, not_false_eq_true, true_and, and_true, and_self, false_and, and_false, true_or, or_true, false_or, or_false, f_X12_qAsksWord_204, f_X12_qAsksWord_196, f_X12_qAsksWord, S.k, S.r89, as]
  · have as : f_X12_asks (x + 107) (x + 107 + 63) h = some ((), g) := as
    simp (disch := omega) only [nm, bd_s, ko_K, ka_K, koK_t, kaK_t, kr_s, kn_s, kn_n, hK_sI, hR_sI, hK_sL, hR_sL, hI_sL, hL_sI, hL_sL, hI_sI, hN_sI, hN_sL, ch_G, ch_T, nb_0, nb_1, zb_G, d_T, d_F, d_eT, d_eF, b2i_t, b2i_f, tn_nI, fa_lit, fa_litL, m1_e, nI_add, pk_mul, pk_sub, nI_leI, nI_ltI, nI_eq, le_T, le_F, lt_T, lt_F, eq_T, eq_F, if_pos, if_neg, m1_le, m1_lt', m1_gt, m1_le', m1_eq, m1_qe, b2i_eq0, in_N, in_n, in_I, ↓reduceIte, Bool.true_eq_false, Bool.false_eq_true, reduceCtorEq, decide_eq_true_eq, decide_eq_false_iff_not, Nat.not_lt, Nat.not_le, not_true_eq_false, not_false_eq_true, true_and, and_true, and_self, false_and, and_false, true_or, or_true, false_or, or_false, f_X12_qAsksWord_204, f_X12_qAsksWord_196, f_X12_qAsksWord, S.k, S.r90, as]
end Qw
