section Iv2
variable {h : aH} {x r tl : Nat} {tp : Nat → Nat} {rf : Nat → Int32} {ft fp : Int32} {sd : Nat} {M mem sh : Nat} {ns : Nat → List Nat} {kd : Nat → Nat} {cd : Nat → List Nat} {N : tyN} {sl : Nat → tyN} {nx c cr : Nat} {rn : Nat} {rw_ : Nat → Nat} {on_ : Nat} {ob : Nat → Nat}
/-- one cell, the class -/
theorem CX.iv (C : CX h x (r, tl, tp, rf, ft, fp, sd) (M, mem, sh, ns, kd, cd) N (sl, nx, c, cr) (rn, rw_) (on_, ob)) (okp : ∀ k, k < 32 → okP M N (8 * k)) (h4 : 4 ≤ M) (h8 : M ≤ 8) {b l k n : Nat} (hb : b + l ≤ 1024) (hk : k < 32) : ∃ h1, f_X9_removeObject_129 (n + 1) (x + 3) (nI M) (nI b) (nI l) (nI k) h = f_X9_removeObject_129 n (x + 3) (nI M) (nI b) (nI l) (nI (k + 1)) h1 ∧ CX h1 x (r, tl, tp, rf, ft, fp, sd) (M, mem, sh, ns, kd, cd) (ivS M b l k N) (sl, nx, c, cr) (rn, rw_) (on_, ob) ∧ FC x h h1 ∧ hR h1 = hR h := by
  have S := C.1
  have W := S.now
  have kp := W.kp (k := k) hk
  have pb := p_base kp (nI M)
  obtain ⟨o0, o1, o2, o3, o4, o5, o6, o7⟩ := okp k hk
  by_cases z : N (8 * k) = 2
  · have iv : ivS M b l k N = N := if_neg (by omega)
    rw [iv]
    generalize basI (nI M) (hI h (x + 3 + 7 + k) 3) (hI h (x + 3 + 7 + k) 4) (hI h (x + 3 + 7 + k) 2) = w at pb
    by_cases c1 : w < nI b
    · refine ⟨h, ?_, C, FC.refl x h, rfl⟩
      simp (disch := omega) only [nm, bd_s, ko_K, ka_K, koK_t, kaK_t, kr_s, kn_s, kn_n, hK_sI, hR_sI, hK_sL, hR_sL, hI_sL, hL_sI, hL_sL, hI_sI, hN_sI, hN_sL, ch_G, ch_T, nb_0, nb_1, zb_G, d_T, d_F, d_eT, d_eF, b2i_t, b2i_f, tn_nI, fa_lit, fa_litL, m1_e, nI_add, pk_mul, pk_sub, nI_leI, nI_ltI, nI_eq, le_T, le_F, lt_T, lt_F, eq_T, eq_F, if_pos, if_neg, m1_le, m1_lt', m1_gt, m1_le', m1_eq, m1_qe, b2i_eq0, in_N, in_n, in_I, ↓reduceIte, Bool.true_eq_false, Bool.false_eq_true, reduceCtorEq, decide_eq_true_eq, decide_eq_false_iff_not, Nat.not_lt, Nat.not_le, not_true_eq_false, not_false_eq_true, true_and, and_true, and_self, false_and, and_false, true_or, or_true, false_or, or_false, f_X9_removeObject_129, b_X9_removeObject_129, f_X9_removeObject_175, W.k, W.r0, W.k1, W.rp, kp, pb, eq_true c1]
    · by_cases c2 : nI (b + l) ≤ w
      · refine ⟨h, ?_, C, FC.refl x h, rfl⟩
        simp (disch := omega) only [nm, bd_s, ko_K, ka_K, koK_t, kaK_t, kr_s, kn_s, kn_n, hK_sI, hR_sI, hK_sL, hR_sL, hI_sL, hL_sI, hL_sL, hI_sI, hN_sI, hN_sL, ch_G, ch_T, nb_0, nb_1, zb_G, d_T, d_F, d_eT, d_eF, b2i_t, b2i_f, tn_nI, fa_lit, fa_litL, m1_e, nI_add, pk_mul, pk_sub, nI_leI, nI_ltI, nI_eq, le_T, le_F, lt_T, lt_F, eq_T, eq_F, if_pos, if_neg, m1_le, m1_lt', m1_gt, m1_le', m1_eq, m1_qe, b2i_eq0, in_N, in_n, in_I, ↓reduceIte, Bool.true_eq_false, Bool.false_eq_true, reduceCtorEq, decide_eq_true_eq, decide_eq_false_iff_not, Nat.not_lt, Nat.not_le, not_true_eq_false, not_false_eq_true, true_and, and_true, and_self, false_and, and_false, true_or, or_true, false_or, or_false, f_X9_removeObject_129, b_X9_removeObject_129, f_X9_removeObject_175, W.k, W.r0, W.k1, W.rp, kp, pb, eq_false c1, eq_true c2]
      · obtain ⟨C1, F1⟩ := C.gone hk z
        refine ⟨_, ?_, C1, F1, rfl⟩
        simp (disch := omega) only [nm, bd_s, ko_K, ka_K, koK_t, kaK_t, kr_s, kn_s, kn_n, hK_sI, hR_sI, hK_sL, hR_sL, hI_sL, hL_sI, hL_sL, hI_sI, hN_sI, hN_sL, ch_G, ch_T, nb_0, nb_1, zb_G, d_T, d_F, d_eT, d_eF, b2i_t, b2i_f, tn_nI, fa_lit, fa_litL, m1_e, nI_add, pk_mul, pk_sub, nI_leI, nI_ltI, nI_eq, le_T, le_F, lt_T, lt_F, eq_T, eq_F, if_pos, if_neg, m1_le, m1_lt', m1_gt, m1_le', m1_eq, m1_qe, b2i_eq0, in_N, in_n, in_I, ↓reduceIte, Bool.true_eq_false, Bool.false_eq_true, reduceCtorEq, decide_eq_true_eq, decide_eq_false_iff_not, Nat.not_lt, Nat.not_le, not_true_eq_false, not_false_eq_true, true_and, and_true, and_self, false_and, and_false, true_or, or_true, false_or, or_false, f_X9_removeObject_129, b_X9_removeObject_129, f_X9_removeObject_175, W.k, W.r0, W.k1, W.rp, kp, pb, eq_false c1, eq_false c2]
  · have fl : N (8 * k) ≤ 1 := by omega
    obtain ⟨p0, p1, p2, p3, p4, p5, p6, p7⟩ := C.2.2.2.1.cl hk fl
    rw [p3, p4, p2, bas_nI h4 h8 o2 o3 (by omega)] at pb
    have bl := basN_lt M (N (8 * k + 2)) (N (8 * k + 3)) (N (8 * k + 1))
    unfold ivS
    generalize basN M (N (8 * k + 2)) (N (8 * k + 3)) (N (8 * k + 1)) = w at *
    by_cases c1 : b ≤ w ∧ w < b + l
    · obtain ⟨C1, F1⟩ := C.u1 (k := k) (i := 0) (v := 0) hk fl (by omega) (by omega)
      rw [Nat.add_zero (8 * k), Nat.zero_add 1] at C1
      rw [Nat.zero_add 1] at F1
      have e : (if N (8 * k) = 1 ∧ b ≤ w ∧ w < b + l then updN N (8 * k) 0 else N) = updN N (8 * k) 0 := by
        by_cases y : N (8 * k) = 1
        · rw [if_pos ⟨y, c1⟩]
        · rw [if_neg (fun q => y q.1), updN_id (by omega)]
      rw [e]
      refine ⟨_, ?_, C1, F1, rfl⟩
      simp (disch := omega) only [nm, bd_s, ko_K, ka_K, koK_t, kaK_t, kr_s, kn_s, kn_n, hK_sI, hR_sI, hK_sL, hR_sL, hI_sL, hL_sI, hL_sL, hI_sI, hN_sI, hN_sL, ch_G, ch_T, nb_0, nb_1, zb_G, d_T, d_F, d_eT, d_eF, b2i_t, b2i_f, tn_nI, fa_lit, fa_litL, m1_e, nI_add, pk_mul, pk_sub, nI_leI, nI_ltI, nI_eq, le_T, le_F, lt_T, lt_F, eq_T, eq_F, if_pos, if_neg, m1_le, m1_lt', m1_gt, m1_le', m1_eq, m1_qe, b2i_eq0, in_N, in_n, in_I, ↓reduceIte, Bool.true_eq_false, Bool.false_eq_true, reduceCtorEq, decide_eq_true_eq, decide_eq_false_iff_not, Nat.not_lt, Nat.not_le, not_true_eq_false, not_false_eq_true, true_and, and_true, and_self, false_and, and_false, true_or, or_true, false_or, or_false, f_X9_removeObject_129, b_X9_removeObject_129, f_X9_removeObject_175, W.k, W.r0, W.k1, W.rp, kp, pb]
    · rw [if_neg (fun q => c1 q.2)]
      refine ⟨h, ?_, C, FC.refl x h, rfl⟩
      by_cases c2 : w < b
      · simp (disch := omega) only [nm, bd_s, ko_K, ka_K, koK_t, kaK_t, kr_s, kn_s, kn_n, hK_sI, hR_sI, hK_sL, hR_sL, hI_sL, hL_sI, hL_sL, hI_sI, hN_sI, hN_sL, ch_G, ch_T, nb_0, nb_1, zb_G, d_T, d_F, d_eT, d_eF, b2i_t, b2i_f, tn_nI, fa_lit, fa_litL, m1_e, nI_add, pk_mul, pk_sub, nI_leI, nI_ltI, nI_eq, le_T, le_F, lt_T, lt_F, eq_T, eq_F, if_pos, if_neg, m1_le, m1_lt', m1_gt, m1_le', m1_eq, m1_qe, b2i_eq0, in_N, in_n, in_I, ↓reduceIte, Bool.true_eq_false, Bool.false_eq_true, reduceCtorEq, decide_eq_true_eq, decide_eq_false_iff_not, Nat.not_lt, Nat.not_le, not_true_eq_false, not_false_eq_true, true_and, and_true, and_self, false_and, and_false, true_or, or_true, false_or, or_false, f_X9_removeObject_129, b_X9_removeObject_129, f_X9_removeObject_175, W.k, W.r0, W.k1, W.rp, kp, pb]
      · have c3 : b + l ≤ w := by omega
        simp (disch := omega) only [nm, bd_s, ko_K, ka_K, koK_t, kaK_t, kr_s, kn_s, kn_n, hK_sI, hR_sI, hK_sL, hR_sL, hI_sL, hL_sI, hL_sL, hI_sI, hN_sI, hN_sL, ch_G, ch_T, nb_0, nb_1, zb_G, d_T, d_F, d_eT, d_eF, b2i_t, b2i_f, tn_nI, fa_lit, fa_litL, m1_e, nI_add, pk_mul, pk_sub, nI_leI, nI_ltI, nI_eq, le_T, le_F, lt_T, lt_F, eq_T, eq_F, if_pos, if_neg, m1_le, m1_lt', m1_gt, m1_le', m1_eq, m1_qe, b2i_eq0, in_N, in_n, in_I, ↓reduceIte, Bool.true_eq_false, Bool.false_eq_true, reduceCtorEq, decide_eq_true_eq, decide_eq_false_iff_not, Nat.not_lt, Nat.not_le, not_true_eq_false, not_false_eq_true, true_and, and_true, and_self, false_and, and_false, true_or, or_true, false_or, or_false, f_X9_removeObject_129, b_X9_removeObject_129, f_X9_removeObject_175, W.k, W.r0, W.k1, W.rp, kp, pb]
end Iv2
