section Iv3
variable {h : aH} {x r tl : Nat} {tp : Nat → Nat} {rf : Nat → Int32} {ft fp : Int32} {sd : Nat} {M mem sh : Nat} {ns : Nat → List Nat} {kd : Nat → Nat} {cd : Nat → List Nat} {N : tyN} {sl : Nat → tyN} {nx c cr : Nat} {rn : Nat} {rw_ : Nat → Nat} {on_ : Nat} {ob : Nat → Nat}
/-- one cell, the reference -/
theorem CM.iv (Q : CM h (x + 107) (r, tl, tp, rf, ft, fp, sd) (M, mem, sh, ns, kd, cd) N (sl, nx, c, cr) (rn, rw_) (on_, ob)) (okp : ∀ k, k < 32 → okP M N (8 * k)) (h4 : 4 ≤ M) (h8 : M ≤ 8) {b l k n i : Nat} (hb : b + l ≤ 1024) (l1 : 1 ≤ l) (hk : k < 32) : ∃ h1, f_X12_frees_46 (n + 1) (x + 107) (nI i) (nI b) (nI l) (nI (8 * k)) h = f_X12_frees_46 n (x + 107) (nI i) (nI b) (nI l) (nI (8 * (k + 1))) h1 ∧ CM h1 (x + 107) (r, tl, tp, rf, ft, fp, sd) (M, mem, sh, ns, kd, cd) (ivS M b l k N) (sl, nx, c, cr) (rn, rw_) (on_, ob) ∧ FM x h h1 := by
  have T := Q.1
  obtain ⟨o0, o1, o2, o3, o4, o5, o6, o7⟩ := okp k hk
  rw [show 8 * (k + 1) = 8 * k + 8 by omega]
  by_cases z : N (8 * k) = 1
  · obtain ⟨q0, q1, q2, q3, q4, q5, q6⟩ := Q.q hk (by omega)
    rw [z] at q0
    have m1 : hI h (x + 107 + 28) 4 = nI M := Q.2.2.1.2.1
    have pb := m_baseOf T (k := 8 * k) (by omega)
    rw [m1, q1, q2, q3, bas_nI h4 h8 o2 o3 (by omega)] at pb
    have bl := basN_lt M (N (8 * k + 2)) (N (8 * k + 3)) (N (8 * k + 1))
    unfold ivS
    generalize basN M (N (8 * k + 2)) (N (8 * k + 3)) (N (8 * k + 1)) = w at *
    have x1 : (nI w).toInt64 = vL (w : Int) := by rw [nI_l (by omega), vL_n]
    have x2 : (nI b).toInt64 = vL (b : Int) := by rw [nI_l (by omega), vL_n]
    have x3 : (nI (b + l - 1)).toInt64 = vL ((b + l - 1 : Nat) : Int) := by rw [nI_l (by omega), vL_n]
    have y1 : (lg_cmp (vL (w : Int)) (vL (b : Int)) < nI 0) = ((w : Int) < (b : Int)) := by rw [← vL_lt (a := (w : Int)) (b := (b : Int)) (by omega) (by omega) (by omega) (by omega)]; exact propext (lg_cmp_lt _ _)
    have y2 : (nI 0 < lg_cmp (vL (w : Int)) (vL ((b + l - 1 : Nat) : Int))) = (((b + l - 1 : Nat) : Int) < (w : Int)) := by rw [← vL_lt (a := ((b + l - 1 : Nat) : Int)) (b := (w : Int)) (by omega) (by omega) (by omega) (by omega)]; exact propext (lg_cmp_gt _ _)
    by_cases c1 : b ≤ w ∧ w < b + l
    · rw [if_pos ⟨z, c1⟩]
      have y1 := y1.trans (eq_false (by omega))
      have y2 := y2.trans (eq_false (by omega))
      obtain ⟨Q1, F1⟩ := Q.u1 (a := 8 * k) (v := 0) (by omega) (by omega)
      refine ⟨_, ?_, Q1, F1⟩
      simp (disch := omega) only [nm, bd_s, ko_K, ka_K, koK_t, kaK_t, kr_s, kn_s, kn_n, hK_sI, hR_sI, hK_sL, hR_sL, hI_sL, hL_sI, hL_sL, hI_sI, hN_sI, hN_sL, ch_G, ch_T, nb_0, nb_1, zb_G, d_T, d_F, d_eT, d_eF, b2i_t, b2i_f, tn_nI, fa_lit, fa_litL, m1_e, nI_add, pk_mul, pk_sub, nI_leI, nI_ltI, nI_eq, le_T, le_F, lt_T, lt_F, eq_T, eq_F, if_pos, if_neg, m1_le, m1_lt', m1_gt, m1_le', m1_eq, m1_qe, b2i_eq0, in_N, in_n, in_I, ↓reduceIte, Bool.true_eq_false, Bool.false_eq_true, reduceCtorEq, decide_eq_true_eq, decide_eq_false_iff_not, Nat.not_lt, Nat.not_le, not_true_eq_false, not_false_eq_true, true_and, and_true, and_self, false_and, and_false, true_or, or_true, false_or, or_false, f_X12_frees_46, b_X12_frees_46, f_X12_frees_94, f_X12_isIn_18, f_X12_isIn_17, f_X12_isIn, T.k, T.r47, T.k47, q0, pb, x1, x2, x3, y1, y2]
    · rw [if_neg (fun q => c1 q.2)]
      refine ⟨h, ?_, Q, FM.refl x h⟩
      by_cases c2 : w < b
      · have y1 := y1.trans (eq_true (by omega))
        simp (disch := omega) only [nm, bd_s, ko_K, ka_K, koK_t, kaK_t, kr_s, kn_s, kn_n, hK_sI, hR_sI, hK_sL, hR_sL, hI_sL, hL_sI, hL_sL, hI_sI, hN_sI, hN_sL, ch_G, ch_T, nb_0, nb_1, zb_G, d_T, d_F, d_eT, d_eF, b2i_t, b2i_f, tn_nI, fa_lit, fa_litL, m1_e, nI_add, pk_mul, pk_sub, nI_leI, nI_ltI, nI_eq, le_T, le_F, lt_T, lt_F, eq_T, eq_F, if_pos, if_neg, m1_le, m1_lt', m1_gt, m1_le', m1_eq, m1_qe, b2i_eq0, in_N, in_n, in_I, ↓reduceIte, Bool.true_eq_false, Bool.false_eq_true, reduceCtorEq, decide_eq_true_eq, decide_eq_false_iff_not, Nat.not_lt, Nat.not_le, not_true_eq_false, not_false_eq_true, true_and, and_true, and_self, false_and, and_false, true_or, or_true, false_or, or_false, f_X12_frees_46, b_X12_frees_46, f_X12_frees_94, f_X12_isIn_18, f_X12_isIn_17, f_X12_isIn, T.k, T.r47, T.k47, q0, pb, x1, x2, x3, y1]
      · have y1 := y1.trans (eq_false (by omega))
        have y2 := y2.trans (eq_true (by omega))
        simp (disch := omega) only [nm, bd_s, ko_K, ka_K, koK_t, kaK_t, kr_s, kn_s, kn_n, hK_sI, hR_sI, hK_sL, hR_sL, hI_sL, hL_sI, hL_sL, hI_sI, hN_sI, hN_sL, ch_G, ch_T, nb_0, nb_1, zb_G, d_T, d_F, d_eT, d_eF, b2i_t, b2i_f, tn_nI, fa_lit, fa_litL, m1_e, nI_add, pk_mul, pk_sub, nI_leI, nI_ltI, nI_eq, le_T, le_F, lt_T, lt_F, eq_T, eq_F, if_pos, if_neg, m1_le, m1_lt', m1_gt, m1_le', m1_eq, m1_qe, b2i_eq0, in_N, in_n, in_I, ↓reduceIte, Bool.true_eq_false, Bool.false_eq_true, reduceCtorEq, decide_eq_true_eq, decide_eq_false_iff_not, Nat.not_lt, Nat.not_le, not_true_eq_false, not_false_eq_true, true_and, and_true, and_self, false_and, and_false, true_or, or_true, false_or, or_false, f_X12_frees_46, b_X12_frees_46, f_X12_frees_94, f_X12_isIn_18, f_X12_isIn_17, f_X12_isIn, T.k, T.r47, T.k47, q0, pb, x1, x2, x3, y1, y2]
  · have iv : ivS M b l k N = N := if_neg (fun q => z q.1)
    rw [iv]
    refine ⟨h, ?_, Q, FM.refl x h⟩
    have q0 : (hI h (x + 107 + 34) (8 * k) = nI 1) = False := eq_false (by
      rw [Q.2.2.2.1 _ (by omega)]
      rcases (show N (8 * k) = 0 ∨ N (8 * k) = 2 by omega) with y | y
      · rw [mN_f (by omega), y]; decide
      · rw [mN_2 y (by omega) (by omega)]; decide)
    simp (disch := omega) only [nm, bd_s, ko_K, ka_K, koK_t, kaK_t, kr_s, kn_s, kn_n, hK_sI, hR_sI, hK_sL, hR_sL, hI_sL, hL_sI, hL_sL, hI_sI, hN_sI, hN_sL, ch_G, ch_T, nb_0, nb_1, zb_G, d_T, d_F, d_eT, d_eF, b2i_t, b2i_f, tn_nI, fa_lit, fa_litL, m1_e, nI_add, pk_mul, pk_sub, nI_leI, nI_ltI, nI_eq, le_T, le_F, lt_T, lt_F, eq_T, eq_F, if_pos, if_neg, m1_le, m1_lt', m1_gt, m1_le', m1_eq, m1_qe, b2i_eq0, in_N, in_n, in_I, ↓reduceIte, Bool.true_eq_false, Bool.false_eq_true, reduceCtorEq, decide_eq_true_eq, decide_eq_false_iff_not, Nat.not_lt, Nat.not_le, not_true_eq_false, not_false_eq_true, true_and, and_true, and_self, false_and, and_false, true_or, or_true, false_or, or_false, f_X12_frees_46, b_X12_frees_46, f_X12_frees_94, T.k, T.r47, T.k47, q0]
end Iv3
