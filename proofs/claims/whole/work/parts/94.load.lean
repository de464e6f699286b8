/-! load, store -/
section Ld
variable {h : aH} {x r tl : Nat} {tp : Nat → Nat} {rf : Nat → Int32} {ft fp : Int32} {sd : Nat} {M mem sh : Nat} {ns : Nat → List Nat} {kd : Nat → Nat} {cd : Nat → List Nat} {N : tyN} {sl : Nat → tyN} {nx c cr : Nat} {rn : Nat} {rw_ : Nat → Nat} {on_ : Nat} {ob : Nat → Nat}
theorem c_follow (C : CX h x (r, tl, tp, rf, ft, fp, sd) (M, mem, sh, ns, kd, cd) N (sl, nx, c, cr) (rn, rw_) (on_, ob)) (O : Ok (r, tl, tp, rf, ft, fp, sd) (M, mem, sh, ns, kd, cd) N (sl, nx, c, cr) (rn, rw_) (on_, ob)) (hr : r = 1) {k b : Nat} (hk : k < 16) (hb : b = 1 ∨ b = 2) : ∃ h1, f_X11_canFollow x (nI k) (nI b) h = some (b2i (foB M mem N cd k b), h1) ∧ CX h1 x (r, tl, tp, rf, ft, fp, sd) (M, mem, sh, ns, kd, cd) N (sl, nx, c, cr) (rn, rw_) (on_, ob) ∧ FC x h h1 := by
  have S := C.1
  have W := S.now
  have okn := O.okn hr
  have okb := O.okb hr
  obtain ⟨a, ha, h9, A, B⟩ := C.run hr
  have b1 : hI h a 1 = nI mem := B.1
  have b2 : hI h a 2 = nI M := B.2.1
  have c1 := C.ip hr hk
  have us := c_usable C okn hk
  have kp := W.kp (k := k) (by omega)
  obtain ⟨p0, p1, p2, p3, p4, p5, p6, p7⟩ := C.2.2.2.1.cl (show k < 32 by omega) (okn.fl hk)
  have okp := okn.2.1 k (by omega)
  have a4 := okp.2.1
  have o5 := okp.2.2.2.2.2.2.1
  have mm := okb.2.2.2.1
  have an : nI (N (8 * k + 5)) &&& nI b = nI (N (8 * k + 5) &&& b) := fa_and _ _
  have al : N (8 * k + 5) &&& b ≤ 7 := Nat.le_trans Nat.and_le_left o5
  have cv := c_covers C okn hk (nI (N (8 * k + 1)))
  obtain ⟨h1, t1, t2, t3, t4⟩ := c_trap C O hr ha A B hk
  unfold foB
  by_cases uz : (decide (N (8 * k) = 1) && decide (N (8 * k + 6) = 0)) = true
  · rw [uz, b2i_t] at us
    rw [uz, Bool.true_and]
    by_cases pz : N (8 * k + 5) &&& b = 0
    · rw [decide_eq_false (by simpa using pz), Bool.false_and, b2i_f]
      refine ⟨h, ?_, C, FC.refl x h⟩
      simp (disch := omega) only [nm, bd_s, ko_K, ka_K, koK_t, kaK_t, kr_s, kn_s, kn_n, hK_sI, hR_sI, hK_sL, hR_sL, hI_sL, hL_sI, hL_sL, hI_sI, hN_sI, hN_sL, ch_G, ch_T, nb_0, nb_1, zb_G, d_T, d_F, d_eT, d_eF, b2i_t, b2i_f, tn_nI, fa_lit, fa_litL, m1_e, nI_add, pk_mul, pk_sub, nI_leI, nI_ltI, nI_eq, le_T, le_F, lt_T, lt_F, eq_T, eq_F, if_pos, if_neg, m1_le, m1_lt', m1_gt, m1_le', m1_eq, m1_qe, b2i_eq0, in_N, in_n, in_I, ↓reduceIte, Bool.true_eq_false, Bool.false_eq_true, reduceCtorEq, decide_eq_true_eq, decide_eq_false_iff_not, Nat.not_lt, Nat.not_le, not_true_eq_false, not_false_eq_true, true_and, and_true, and_self, false_and, and_false, true_or, or_true, false_or, or_false, f_X11_canFollow_88, f_X11_canFollow_87, f_X11_canFollow, S.k0, S.r0_2, W.k, W.r0, W.k1, W.rp, W.kp, c1, us, p6, an, pz]
    · rw [decide_eq_true pz, Bool.true_and]
      by_cases mz : N (8 * k + 1) < mem
      · rw [decide_eq_true mz, Bool.true_and]
        by_cases cz : covI (nI M) (nI (N (8 * k + 2))) (nI (N (8 * k + 3))) (nI (N (8 * k + 4))) (nI (N (8 * k + 1))) (nI (N (8 * k + 1))) = true
        · rw [cz, b2i_t] at cv
          rw [cz, Bool.true_and]
          refine ⟨h1, ?_, C.sc1 t2 t3 t4⟩
          generalize trB M N cd k = z1 at *
          cases z1
          · have t1 : f_X0_isTrapped (x + 83) a (x + 3 + 7 + k) h = some (nI 0, h1) := t1
            show _ = some (nI 1, h1)
            simp (disch := omega) only [nm, bd_s, ko_K, ka_K, koK_t, kaK_t, kr_s, kn_s, kn_n, hK_sI, hR_sI, hK_sL, hR_sL, hI_sL, hL_sI, hL_sL, hI_sI, hN_sI, hN_sL, ch_G, ch_T, nb_0, nb_1, zb_G, d_T, d_F, d_eT, d_eF, b2i_t, b2i_f, tn_nI, fa_lit, fa_litL, m1_e, nI_add, pk_mul, pk_sub, nI_leI, nI_ltI, nI_eq, le_T, le_F, lt_T, lt_F, eq_T, eq_F, if_pos, if_neg, m1_le, m1_lt', m1_gt, m1_le', m1_eq, m1_qe, b2i_eq0, in_N, in_n, in_I, ↓reduceIte, Bool.true_eq_false, Bool.false_eq_true, reduceCtorEq, decide_eq_true_eq, decide_eq_false_iff_not, Nat.not_lt, Nat.not_le, not_true_eq_false, not_false_eq_true, true_and, and_true, and_self, false_and, and_false, true_or, or_true, false_or, or_false, f_X11_canFollow_88, f_X11_canFollow_87, f_X11_canFollow, S.k0, S.r0_2, S.r0_5, S.k83, W.k, W.r0, W.k1, W.rp, W.kp, c1, us, p6, an, pz, h9, A.k, b1, b2, p2, cv, t1]
          · have t1 : f_X0_isTrapped (x + 83) a (x + 3 + 7 + k) h = some (nI 1, h1) := t1
            show _ = some (nI 0, h1)
            simp (disch := omega) only [nm, bd_s, ko_K, ka_K, koK_t, kaK_t, kr_s, kn_s, kn_n, hK_sI, hR_sI, hK_sL, hR_sL, hI_sL, hL_sI, hL_sL, hI_sI, hN_sI, hN_sL, ch_G, ch_T, nb_0, nb_1, zb_G, d_T, d_F, d_eT, d_eF, b2i_t, b2i_f, tn_nI, fa_lit, fa_litL, m1_e, nI_add, pk_mul, pk_sub, nI_leI, nI_ltI, nI_eq, le_T, le_F, lt_T, lt_F, eq_T, eq_F, if_pos, if_neg, m1_le, m1_lt', m1_gt, m1_le', m1_eq, m1_qe, b2i_eq0, in_N, in_n, in_I, ↓reduceIte, Bool.true_eq_false, Bool.false_eq_true, reduceCtorEq, decide_eq_true_eq, decide_eq_false_iff_not, Nat.not_lt, Nat.not_le, not_true_eq_false, not_false_eq_true, true_and, and_true, and_self, false_and, and_false, true_or, or_true, false_or, or_false, f_X11_canFollow_88, f_X11_canFollow_87, f_X11_canFollow, S.k0, S.r0_2, S.r0_5, S.k83, W.k, W.r0, W.k1, W.rp, W.kp, c1, us, p6, an, pz, h9, A.k, b1, b2, p2, cv, t1]
        · rw [ts_nt cz, b2i_f] at cv
          rw [ts_nt cz, Bool.false_and, b2i_f]
          refine ⟨h, ?_, C, FC.refl x h⟩
          simp (disch := omega) only [nm, bd_s, ko_K, ka_K, koK_t, kaK_t, kr_s, kn_s, kn_n, hK_sI, hR_sI, hK_sL, hR_sL, hI_sL, hL_sI, hL_sL, hI_sI, hN_sI, hN_sL, ch_G, ch_T, nb_0, nb_1, zb_G, d_T, d_F, d_eT, d_eF, b2i_t, b2i_f, tn_nI, fa_lit, fa_litL, m1_e, nI_add, pk_mul, pk_sub, nI_leI, nI_ltI, nI_eq, le_T, le_F, lt_T, lt_F, eq_T, eq_F, if_pos, if_neg, m1_le, m1_lt', m1_gt, m1_le', m1_eq, m1_qe, b2i_eq0, in_N, in_n, in_I, ↓reduceIte, Bool.true_eq_false, Bool.false_eq_true, reduceCtorEq, decide_eq_true_eq, decide_eq_false_iff_not, Nat.not_lt, Nat.not_le, not_true_eq_false, not_false_eq_true, true_and, and_true, and_self, false_and, and_false, true_or, or_true, false_or, or_false, f_X11_canFollow_88, f_X11_canFollow_87, f_X11_canFollow, S.k0, S.r0_2, W.k, W.r0, W.k1, W.rp, W.kp, c1, us, p6, an, pz, h9, A.k, b1, b2, p2, cv]
      · rw [decide_eq_false mz, Bool.false_and, b2i_f]
        refine ⟨h, ?_, C, FC.refl x h⟩
        simp (disch := omega) only [nm, bd_s, ko_K, ka_K, koK_t, kaK_t, kr_s, kn_s, kn_n, hK_sI, hR_sI, hK_sL, hR_sL, hI_sL, hL_sI, hL_sL, hI_sI, hN_sI, hN_sL, ch_G, ch_T, nb_0, nb_1, zb_G, d_T, d_F, d_eT, d_eF, b2i_t, b2i_f, tn_nI, fa_lit, fa_litL, m1_e, nI_add, pk_mul, pk_sub, nI_leI, nI_ltI, nI_eq, le_T, le_F, lt_T, lt_F, eq_T, eq_F, if_pos, if_neg, m1_le, m1_lt', m1_gt, m1_le', m1_eq, m1_qe, b2i_eq0, in_N, in_n, in_I, ↓reduceIte, Bool.true_eq_false, Bool.false_eq_true, reduceCtorEq, decide_eq_true_eq, decide_eq_false_iff_not, Nat.not_lt, Nat.not_le, not_true_eq_false, not_false_eq_true, true_and, and_true, and_self, false_and, and_false, true_or, or_true, false_or, or_false, f_X11_canFollow_88, f_X11_canFollow_87, f_X11_canFollow, S.k0, S.r0_2, W.k, W.r0, W.k1, W.rp, W.kp, c1, us, p6, an, pz, h9, A.k, b1, p2]
  · rw [ts_nt uz, b2i_f] at us
    rw [ts_nt uz, Bool.false_and, b2i_f]
    refine ⟨h, ?_, C, FC.refl x h⟩
    simp (disch := omega) only [nm, bd_s, ko_K, ka_K, koK_t, kaK_t, kr_s, kn_s, kn_n, hK_sI, hR_sI, hK_sL, hR_sL, hI_sL, hL_sI, hL_sL, hI_sI, hN_sI, hN_sL, ch_G, ch_T, nb_0, nb_1, zb_G, d_T, d_F, d_eT, d_eF, b2i_t, b2i_f, tn_nI, fa_lit, fa_litL, m1_e, nI_add, pk_mul, pk_sub, nI_leI, nI_ltI, nI_eq, le_T, le_F, lt_T, lt_F, eq_T, eq_F, if_pos, if_neg, m1_le, m1_lt', m1_gt, m1_le', m1_eq, m1_qe, b2i_eq0, in_N, in_n, in_I, ↓reduceIte, Bool.true_eq_false, Bool.false_eq_true, reduceCtorEq, decide_eq_true_eq, decide_eq_false_iff_not, Nat.not_lt, Nat.not_le, not_true_eq_false, not_false_eq_true, true_and, and_true, and_self, false_and, and_false, true_or, or_true, false_or, or_false, f_X11_canFollow_88, f_X11_canFollow_87, f_X11_canFollow, S.k0, S.r0_2, W.k, W.r0, W.k1, W.rp, W.kp, c1, us]
theorem m_part (Q : CM h (x + 107) (r, tl, tp, rf, ft, fp, sd) (M, mem, sh, ns, kd, cd) N (sl, nx, c, cr) (rn, rw_) (on_, ob)) (q : okN M mem sh N) (h4 : 4 ≤ M) (h8 : M ≤ 8) {k c' : Nat} (hk : k < 16) (h3 : 43 ≤ c' ∧ c' ≤ 46) (e48 : hI h (x + 107) 48 = nI k) : f_X12_qPartOf (x + 107) (nI (c' - 40)) (nI 0) h = some (vL (fgT M N k c'), h) := by
  have T := Q.1
  obtain ⟨q0, q1, q2, q3, q4, q5, q6⟩ := Q.q (show k < 32 by omega) (q.fl hk)
  have okp := q.2.1 k (by omega)
  have m1 : hI h (x + 107 + 28) 4 = nI M := Q.2.2.1.2.1
  have g1 := m_baseOf T (k := 8 * k) (by omega)
  have g2 := m_lengthOf T (k := 8 * k) (by omega)
  have a4 := okp.2.1
  have o5 := okp.2.2.2.2.2.2.1
  rw [m1, q1, q2, q3, bas_nI h4 h8 okp.2.2.1 okp.2.2.2.1 (by omega)] at g1
  rw [m1, q2, q3, q4, len_nI h4 h8 okp.2.2.1 okp.2.2.2.1] at g2
  have g2 : f_X12_lengthOf (x + 107) (nI (8 * k)) h = some (nI (lnN M (N (8 * k + 2)) (N (8 * k + 3)) (N (8 * k + 4))), h) := g2
  have l1 := lnN_le h4 h8 okp.2.2.1 okp.2.2.2.2.2.1
  have l2 := basN_lt M (N (8 * k + 2)) (N (8 * k + 3)) (N (8 * k + 1))
  have s1 : ∀ n, n ≤ 4096 → (nI n).toInt64 = vL (n : Int) := fun n hn => by rw [nI_l (by omega), vL_n]
  rcases (show c' = 43 ∨ c' = 44 ∨ c' = 45 ∨ c' = 46 by omega) with rfl | rfl | rfl | rfl
  · have s := s1 (N (8 * k + 1)) (by omega)
    show f_X12_qPartOf (x + 107) (nI 3) (nI 0) h = some (vL (N (8 * k + 1) : Int), h)
    simp (disch := omega) only [nm, bd_s, ko_K, ka_K, koK_t, kaK_t, kr_s, kn_s, kn_n, hK_sI, hR_sI, hK_sL, hR_sL, hI_sL, hL_sI, hL_sL, hI_sI, hN_sI, hN_sL, ch_G, ch_T, nb_0, nb_1, zb_G, d_T, d_F, d_eT, d_eF, b2i_t, b2i_f, tn_nI, fa_lit, fa_litL, m1_e, nI_add, pk_mul, pk_sub, nI_leI, nI_ltI, nI_eq, le_T, le_F, lt_T, lt_F, eq_T, eq_F, if_pos, if_neg, m1_le, m1_lt', m1_gt, m1_le', m1_eq, m1_qe, b2i_eq0, in_N, in_n, in_I, ↓reduceIte, Bool.true_eq_false, Bool.false_eq_true, reduceCtorEq, decide_eq_true_eq, decide_eq_false_iff_not, Nat.not_lt, Nat.not_le, not_true_eq_false, not_false_eq_true, true_and, and_true, and_self, false_and, and_false, true_or, or_true, false_or, or_false, f_X12_qPartOf_192, f_X12_qPartOf_171, f_X12_qPartOf, T.k, T.r47, T.k47, e48, q1, s]
  · have s := s1 _ (Nat.le_of_lt l2)
    show f_X12_qPartOf (x + 107) (nI 4) (nI 0) h = some (vL (basN M (N (8 * k + 2)) (N (8 * k + 3)) (N (8 * k + 1)) : Int), h)
    simp (disch := omega) only [nm, bd_s, ko_K, ka_K, koK_t, kaK_t, kr_s, kn_s, kn_n, hK_sI, hR_sI, hK_sL, hR_sL, hI_sL, hL_sI, hL_sL, hI_sI, hN_sI, hN_sL, ch_G, ch_T, nb_0, nb_1, zb_G, d_T, d_F, d_eT, d_eF, b2i_t, b2i_f, tn_nI, fa_lit, fa_litL, m1_e, nI_add, pk_mul, pk_sub, nI_leI, nI_ltI, nI_eq, le_T, le_F, lt_T, lt_F, eq_T, eq_F, if_pos, if_neg, m1_le, m1_lt', m1_gt, m1_le', m1_eq, m1_qe, b2i_eq0, in_N, in_n, in_I, ↓reduceIte, Bool.true_eq_false, Bool.false_eq_true, reduceCtorEq, decide_eq_true_eq, decide_eq_false_iff_not, Nat.not_lt, Nat.not_le, not_true_eq_false, not_false_eq_true, true_and, and_true, and_self, false_and, and_false, true_or, or_true, false_or, or_false, f_X12_qPartOf_192, f_X12_qPartOf_171, f_X12_qPartOf, T.k, e48, g1, s]
  · have s := s1 _ l1
    show f_X12_qPartOf (x + 107) (nI 5) (nI 0) h = some (vL (lnN M (N (8 * k + 2)) (N (8 * k + 3)) (N (8 * k + 4)) : Int), h)
    simp (disch := omega) only [nm, bd_s, ko_K, ka_K, koK_t, kaK_t, kr_s, kn_s, kn_n, hK_sI, hR_sI, hK_sL, hR_sL, hI_sL, hL_sI, hL_sL, hI_sI, hN_sI, hN_sL, ch_G, ch_T, nb_0, nb_1, zb_G, d_T, d_F, d_eT, d_eF, b2i_t, b2i_f, tn_nI, fa_lit, fa_litL, m1_e, nI_add, pk_mul, pk_sub, nI_leI, nI_ltI, nI_eq, le_T, le_F, lt_T, lt_F, eq_T, eq_F, if_pos, if_neg, m1_le, m1_lt', m1_gt, m1_le', m1_eq, m1_qe, b2i_eq0, in_N, in_n, in_I, ↓reduceIte, Bool.true_eq_false, Bool.false_eq_true, reduceCtorEq, decide_eq_true_eq, decide_eq_false_iff_not, Nat.not_lt, Nat.not_le, not_true_eq_false, not_false_eq_true, true_and, and_true, and_self, false_and, and_false, true_or, or_true, false_or, or_false, f_X12_qPartOf_192, f_X12_qPartOf_171, f_X12_qPartOf, T.k, e48, g2, s]
  · have s := s1 (N (8 * k + 5)) (by omega)
    show f_X12_qPartOf (x + 107) (nI 6) (nI 0) h = some (vL (N (8 * k + 5) : Int), h)
    simp (disch := omega) only [nm, bd_s, ko_K, ka_K, koK_t, kaK_t, kr_s, kn_s, kn_n, hK_sI, hR_sI, hK_sL, hR_sL, hI_sL, hL_sI, hL_sL, hI_sI, hN_sI, hN_sL, ch_G, ch_T, nb_0, nb_1, zb_G, d_T, d_F, d_eT, d_eF, b2i_t, b2i_f, tn_nI, fa_lit, fa_litL, m1_e, nI_add, pk_mul, pk_sub, nI_leI, nI_ltI, nI_eq, le_T, le_F, lt_T, lt_F, eq_T, eq_F, if_pos, if_neg, m1_le, m1_lt', m1_gt, m1_le', m1_eq, m1_qe, b2i_eq0, in_N, in_n, in_I, ↓reduceIte, Bool.true_eq_false, Bool.false_eq_true, reduceCtorEq, decide_eq_true_eq, decide_eq_false_iff_not, Nat.not_lt, Nat.not_le, not_true_eq_false, not_false_eq_true, true_and, and_true, and_self, false_and, and_false, true_or, or_true, false_or, or_false, f_X12_qPartOf_192, f_X12_qPartOf_171, f_X12_qPartOf, T.k, T.r47, T.k47, e48, q5, s]
theorem m_follow (Q : CM h (x + 107) (r, tl, tp, rf, ft, fp, sd) (M, mem, sh, ns, kd, cd) N (sl, nx, c, cr) (rn, rw_) (on_, ob)) (O : Ok (r, tl, tp, rf, ft, fp, sd) (M, mem, sh, ns, kd, cd) N (sl, nx, c, cr) (rn, rw_) (on_, ob)) (hr : r = 1) {k b : Nat} (hk : k < 16) (hb : b = 1 ∨ b = 2) : ∃ h1, f_X12_canFollow (x + 107) (nI k) (nI b) h = some (b2i (foB M mem N cd k b), h1) ∧ CM h1 (x + 107) (r, tl, tp, rf, ft, fp, sd) (M, mem, sh, ns, kd, cd) N (sl, nx, c, cr) (rn, rw_) (on_, ob) ∧ FM x h h1 := by
  have T := Q.1
  have okn := O.okn hr
  have okb := O.okb hr
  have um := m_isOpen Q okn hr hk
  obtain ⟨q0, q1, q2, q3, q4, q5, q6⟩ := Q.q (show k < 32 by omega) (okn.fl hk)
  have okp := okn.2.1 k (by omega)
  have a4 := okp.2.1
  have o5 := okp.2.2.2.2.2.2.1
  have mm := okb.2.2.2.1
  have m3 : hI h (x + 107 + 28) 3 = nI mem := Q.2.2.1.1
  have an : nI (N (8 * k + 5)) &&& nI b = nI (N (8 * k + 5) &&& b) := fa_and _ _
  have al : N (8 * k + 5) &&& b ≤ 7 := Nat.le_trans Nat.and_le_left o5
  have cv := m_within Q okn hk (nI (N (8 * k + 1)))
  unfold foB
  by_cases uz : (decide (N (8 * k) = 1) && decide (N (8 * k + 6) = 0)) = true
  · rw [uz, b2i_t] at um
    rw [uz, Bool.true_and]
    by_cases pz : N (8 * k + 5) &&& b = 0
    · rw [decide_eq_false (by simpa using pz), Bool.false_and, b2i_f]
      refine ⟨h, ?_, Q, FM.refl x h⟩
      simp (disch := omega) only [nm, bd_s, ko_K, ka_K, koK_t, kaK_t, kr_s, kn_s, kn_n, hK_sI, hR_sI, hK_sL, hR_sL, hI_sL, hL_sI, hL_sL, hI_sI, hN_sI, hN_sL, ch_G, ch_T, nb_0, nb_1, zb_G, d_T, d_F, d_eT, d_eF, b2i_t, b2i_f, tn_nI, fa_lit, fa_litL, m1_e, nI_add, pk_mul, pk_sub, nI_leI, nI_ltI, nI_eq, le_T, le_F, lt_T, lt_F, eq_T, eq_F, if_pos, if_neg, m1_le, m1_lt', m1_gt, m1_le', m1_eq, m1_qe, b2i_eq0, in_N, in_n, in_I, ↓reduceIte, Bool.true_eq_false, Bool.false_eq_true, reduceCtorEq, decide_eq_true_eq, decide_eq_false_iff_not, Nat.not_lt, Nat.not_le, not_true_eq_false, not_false_eq_true, true_and, and_true, and_self, false_and, and_false, true_or, or_true, false_or, or_false, f_X12_canFollow_24, f_X12_canFollow_60, f_X12_canFollow_90, f_X12_canFollow_85, f_X12_canFollow, T.k, T.r47, T.k47, um, q5, an, pz]
    · rw [decide_eq_true pz, Bool.true_and]
      by_cases mz : N (8 * k + 1) < mem
      · rw [decide_eq_true mz, Bool.true_and]
        by_cases cz : covI (nI M) (nI (N (8 * k + 2))) (nI (N (8 * k + 3))) (nI (N (8 * k + 4))) (nI (N (8 * k + 1))) (nI (N (8 * k + 1))) = true
        · rw [cz, b2i_t] at cv
          rw [cz, Bool.true_and]
          have Q1 : CM (sI h (x + 107) 48 (nI k)) (x + 107) (r, tl, tp, rf, ft, fp, sd) (M, mem, sh, ns, kd, cd) N (sl, nx, c, cr) (rn, rw_) (on_, ob) := Q.sc rfl rfl (fun b j z => by unfold LM at z; rw [hI_sI, if_neg (by omega)]) rfl (fun _ _ => rfl)
          have F1 : FM x h (sI h (x + 107) 48 (nI k)) := FM.sI (by omega) (by omega)
          have ic := m_has Q1 (show 2 < 3 by omega)
          have T1 := Q1.1
          rcases okb.2.2.2.2.2.2.2 2 (by omega) with c1 | ty
          · rw [c1] at ic
            have ic : f_X12_isCoded (x + 107) (nI 2) (sI h (x + 107) 48 (nI k)) = some (nI 0, sI h (x + 107) 48 (nI k)) := ic
            have tr : trB M N cd k = false := by unfold trB; rw [c1]; rfl
            rw [tr]
            show ∃ h1, _ = some (nI 1, h1) ∧ _
            refine ⟨_, ?_, Q1, F1⟩
            simp (disch := omega) only [nm, bd_s, ko_K, ka_K, koK_t, kaK_t, kr_s, kn_s, kn_n, hK_sI, hR_sI, hK_sL, hR_sL, hI_sL, hL_sI, hL_sL, hI_sI, hN_sI, hN_sL, ch_G, ch_T, nb_0, nb_1, zb_G, d_T, d_F, d_eT, d_eF, b2i_t, b2i_f, tn_nI, fa_lit, fa_litL, m1_e, nI_add, pk_mul, pk_sub, nI_leI, nI_ltI, nI_eq, le_T, le_F, lt_T, lt_F, eq_T, eq_F, if_pos, if_neg, m1_le, m1_lt', m1_gt, m1_le', m1_eq, m1_qe, b2i_eq0, in_N, in_n, in_I, ↓reduceIte, Bool.true_eq_false, Bool.false_eq_true, reduceCtorEq, decide_eq_true_eq, decide_eq_false_iff_not, Nat.not_lt, Nat.not_le, not_true_eq_false, not_false_eq_true, true_and, and_true, and_self, false_and, and_false, true_or, or_true, false_or, or_false, f_X12_canFollow_24, f_X12_canFollow_60, f_X12_canFollow_90, f_X12_canFollow_85, f_X12_canFollow, T.k, T.r47, T.k47, T.r37, T.k37, um, q5, an, pz, q1, m3, cv, ic]
          · have c1 : ¬ cd 2 = [] := by intro z; rw [z] at ty; cases ty
            have e0 : (cd 2).isEmpty = false := by cases q : cd 2 with | nil => exact absurd q c1 | cons _ _ => rfl
            rw [e0] at ic
            have ic : f_X12_isCoded (x + 107) (nI 2) (sI h (x + 107) 48 (nI k)) = some (nI 1, sI h (x + 107) 48 (nI k)) := ic
            obtain ⟨d', f', v, r1, r2, r3⟩ := m_run (fg := fgT M N k) Q1 (show 2 < 3 by omega) ty (fun c _ _ => fgT_ok okn okb.1 okb.2.1 hk c) ⟨rfl, rfl⟩ (fun c d f z _ _ => m_part (PL.sc Q1).1 okn okb.1 okb.2.1 hk (alC_2 z) (by rw [PL_o (by omega), hI_sI, if_neg (by omega), hI_sI, if_pos ⟨rfl, rfl⟩]))
            obtain ⟨Q2, F2⟩ := PL.sc Q1 (w := 2) (d := d') (f := f')
            have tr : trB M N cd k = decide (v = 1) := by unfold trB; rw [r2]; simp
            rw [tr]
            have z1 : lN 1 = vL 1 := rfl
            generalize PL (sI (sI h (x + 107) 48 (nI k)) (x + 107) 46 (nI 2)) (x + 107) d' f' = g2 at *
            rcases r3.2.2 rfl with rfl | rfl
            · show ∃ h1, _ = some (nI 1, h1) ∧ _
              refine ⟨_, ?_, Q2, F1.trans F2⟩
              have lc : (lg_cmp (vL 0) (lN 1) = nI 0) = False := eq_false (by decide)
              simp (disch := omega) only [nm, bd_s, ko_K, ka_K, koK_t, kaK_t, kr_s, kn_s, kn_n, hK_sI, hR_sI, hK_sL, hR_sL, hI_sL, hL_sI, hL_sL, hI_sI, hN_sI, hN_sL, ch_G, ch_T, nb_0, nb_1, zb_G, d_T, d_F, d_eT, d_eF, b2i_t, b2i_f, tn_nI, fa_lit, fa_litL, m1_e, nI_add, pk_mul, pk_sub, nI_leI, nI_ltI, nI_eq, le_T, le_F, lt_T, lt_F, eq_T, eq_F, if_pos, if_neg, m1_le, m1_lt', m1_gt, m1_le', m1_eq, m1_qe, b2i_eq0, in_N, in_n, in_I, ↓reduceIte, Bool.true_eq_false, Bool.false_eq_true, reduceCtorEq, decide_eq_true_eq, decide_eq_false_iff_not, Nat.not_lt, Nat.not_le, not_true_eq_false, not_false_eq_true, true_and, and_true, and_self, false_and, and_false, true_or, or_true, false_or, or_false, f_X12_canFollow_24, f_X12_canFollow_60, f_X12_canFollow_90, f_X12_canFollow_85, f_X12_canFollow, T.k, T.r47, T.k47, T.r37, T.k37, um, q5, an, pz, q1, m3, cv, ic, r1, lc]
            · show ∃ h1, _ = some (nI 0, h1) ∧ _
              refine ⟨_, ?_, Q2, F1.trans F2⟩
              have lc : (lg_cmp (vL 1) (lN 1) = nI 0) = True := eq_true (by decide)
              simp (disch := omega) only [nm, bd_s, ko_K, ka_K, koK_t, kaK_t, kr_s, kn_s, kn_n, hK_sI, hR_sI, hK_sL, hR_sL, hI_sL, hL_sI, hL_sL, hI_sI, hN_sI, hN_sL, ch_G, ch_T, nb_0, nb_1, zb_G, d_T, d_F, d_eT, d_eF, b2i_t, b2i_f, tn_nI, fa_lit, fa_litL, m1_e, nI_add, pk_mul, pk_sub, nI_leI, nI_ltI, nI_eq, le_T, le_F, lt_T, lt_F, eq_T, eq_F, if_pos, if_neg, m1_le, m1_lt', m1_gt, m1_le', m1_eq, m1_qe, b2i_eq0, in_N, in_n, in_I, ↓reduceIte, Bool.true_eq_false, Bool.false_eq_true, reduceCtorEq, decide_eq_true_eq, decide_eq_false_iff_not, Nat.not_lt, Nat.not_le, not_true_eq_false, not_false_eq_true, true_and, and_true, and_self, false_and, and_false, true_or, or_true, false_or, or_false, f_X12_canFollow_24, f_X12_canFollow_60, f_X12_canFollow_90, f_X12_canFollow_85, f_X12_canFollow, T.k, T.r47, T.k47, T.r37, T.k37, um, q5, an, pz, q1, m3, cv, ic, r1, lc]
        · rw [ts_nt cz, b2i_f] at cv
          rw [ts_nt cz, Bool.false_and, b2i_f]
          refine ⟨h, ?_, Q, FM.refl x h⟩
          simp (disch := omega) only [nm, bd_s, ko_K, ka_K, koK_t, kaK_t, kr_s, kn_s, kn_n, hK_sI, hR_sI, hK_sL, hR_sL, hI_sL, hL_sI, hL_sL, hI_sI, hN_sI, hN_sL, ch_G, ch_T, nb_0, nb_1, zb_G, d_T, d_F, d_eT, d_eF, b2i_t, b2i_f, tn_nI, fa_lit, fa_litL, m1_e, nI_add, pk_mul, pk_sub, nI_leI, nI_ltI, nI_eq, le_T, le_F, lt_T, lt_F, eq_T, eq_F, if_pos, if_neg, m1_le, m1_lt', m1_gt, m1_le', m1_eq, m1_qe, b2i_eq0, in_N, in_n, in_I, ↓reduceIte, Bool.true_eq_false, Bool.false_eq_true, reduceCtorEq, decide_eq_true_eq, decide_eq_false_iff_not, Nat.not_lt, Nat.not_le, not_true_eq_false, not_false_eq_true, true_and, and_true, and_self, false_and, and_false, true_or, or_true, false_or, or_false, f_X12_canFollow_24, f_X12_canFollow_60, f_X12_canFollow_90, f_X12_canFollow_85, f_X12_canFollow, T.k, T.r47, T.k47, T.r37, T.k37, um, q5, an, pz, q1, m3, cv]
      · rw [decide_eq_false mz, Bool.false_and, b2i_f]
        refine ⟨h, ?_, Q, FM.refl x h⟩
        simp (disch := omega) only [nm, bd_s, ko_K, ka_K, koK_t, kaK_t, kr_s, kn_s, kn_n, hK_sI, hR_sI, hK_sL, hR_sL, hI_sL, hL_sI, hL_sL, hI_sI, hN_sI, hN_sL, ch_G, ch_T, nb_0, nb_1, zb_G, d_T, d_F, d_eT, d_eF, b2i_t, b2i_f, tn_nI, fa_lit, fa_litL, m1_e, nI_add, pk_mul, pk_sub, nI_leI, nI_ltI, nI_eq, le_T, le_F, lt_T, lt_F, eq_T, eq_F, if_pos, if_neg, m1_le, m1_lt', m1_gt, m1_le', m1_eq, m1_qe, b2i_eq0, in_N, in_n, in_I, ↓reduceIte, Bool.true_eq_false, Bool.false_eq_true, reduceCtorEq, decide_eq_true_eq, decide_eq_false_iff_not, Nat.not_lt, Nat.not_le, not_true_eq_false, not_false_eq_true, true_and, and_true, and_self, false_and, and_false, true_or, or_true, false_or, or_false, f_X12_canFollow_24, f_X12_canFollow_60, f_X12_canFollow_90, f_X12_canFollow_85, f_X12_canFollow, T.k, T.r47, T.k47, T.r37, T.k37, um, q5, an, pz, q1, m3]
  · rw [ts_nt uz, b2i_f] at um
    rw [ts_nt uz, Bool.false_and, b2i_f]
    refine ⟨h, ?_, Q, FM.refl x h⟩
    simp (disch := omega) only [nm, bd_s, ko_K, ka_K, koK_t, kaK_t, kr_s, kn_s, kn_n, hK_sI, hR_sI, hK_sL, hR_sL, hI_sL, hL_sI, hL_sL, hI_sI, hN_sI, hN_sL, ch_G, ch_T, nb_0, nb_1, zb_G, d_T, d_F, d_eT, d_eF, b2i_t, b2i_f, tn_nI, fa_lit, fa_litL, m1_e, nI_add, pk_mul, pk_sub, nI_leI, nI_ltI, nI_eq, le_T, le_F, lt_T, lt_F, eq_T, eq_F, if_pos, if_neg, m1_le, m1_lt', m1_gt, m1_le', m1_eq, m1_qe, b2i_eq0, in_N, in_n, in_I, ↓reduceIte, Bool.true_eq_false, Bool.false_eq_true, reduceCtorEq, decide_eq_true_eq, decide_eq_false_iff_not, Nat.not_lt, Nat.not_le, not_true_eq_false, not_false_eq_true, true_and, and_true, and_self, false_and, and_false, true_or, or_true, false_or, or_false, f_X12_canFollow_24, f_X12_canFollow_60, f_X12_canFollow_90, f_X12_canFollow_85, f_X12_canFollow, T.k, um]
theorem S_load (C : CX h x (r, tl, tp, rf, ft, fp, sd) (M, mem, sh, ns, kd, cd) N (sl, nx, c, cr) (rn, rw_) (on_, ob)) (Q : CM h (x + 107) (r, tl, tp, rf, ft, fp, sd) (M, mem, sh, ns, kd, cd) N (sl, nx, c, cr) (rn, rw_) (on_, ob)) (O : Ok (r, tl, tp, rf, ft, fp, sd) (M, mem, sh, ns, kd, cd) N (sl, nx, c, cr) (rn, rw_) (on_, ob)) (p : Int32) : SM Int32 x h (f_X11_load x p) (f_X12_load (x + 107) p) := by
  have S := C.1
  by_cases hp : r = 1 ∧ ∃ k, k < 16 ∧ p = nI k
  · obtain ⟨hr, k, hk, rfl⟩ := hp
    obtain ⟨h1, e1, C1, F1⟩ := c_follow C O hr hk (Or.inl rfl)
    have S1 := C1.1
    have W1 := S1.now
    by_cases fz : foB M mem N cd k 1 = true
    · rw [fz, b2i_t] at e1
      have am : N (8 * k + 1) < mem := by
        unfold foB at fz
        simp only [Bool.and_eq_true, decide_eq_true_eq] at fz
        exact fz.2.2.1
      have mm := (O.okb hr).2.2.2.1
      have fl := (O.okn hr).fl hk
      refine glue Q (v := nI (N (353 + N (8 * k + 1)))) ⟨h1, ?_, C1, F1⟩ (fun g Q0 => ?_) O
      · have p2 := (C1.2.2.2.1.cl (show k < 32 by omega) fl).2.2.1
        have t1 : (hI h1 (x + 3 + 6) (N (8 * k + 1) / 2 ^ 2) >>> (nI (8 * (N (8 * k + 1) % 4)) &&& nI 31)) &&& nI 255 = nI (N (353 + N (8 * k + 1))) := C1.2.2.2.1.2.2.2.2.2 _ (by omega)
        simp (disch := omega) only [nm, bd_s, ko_K, ka_K, koK_t, kaK_t, kr_s, kn_s, kn_n, hK_sI, hR_sI, hK_sL, hR_sL, hI_sL, hL_sI, hL_sL, hI_sI, hN_sI, hN_sL, ch_G, ch_T, nb_0, nb_1, zb_G, d_T, d_F, d_eT, d_eF, b2i_t, b2i_f, tn_nI, fa_lit, fa_litL, m1_e, nI_add, pk_mul, pk_sub, nI_leI, nI_ltI, nI_eq, le_T, le_F, lt_T, lt_F, eq_T, eq_F, if_pos, if_neg, m1_le, m1_lt', m1_gt, m1_le', m1_eq, m1_qe, b2i_eq0, in_N, in_n, in_I, ↓reduceIte, Bool.true_eq_false, Bool.false_eq_true, reduceCtorEq, decide_eq_true_eq, decide_eq_false_iff_not, Nat.not_lt, Nat.not_le, not_true_eq_false, not_false_eq_true, true_and, and_true, and_self, false_and, and_false, true_or, or_true, false_or, or_false, f_X11_load, f_X9_byteAt_11, f_X9_byteAt, S.k0, e1, S1.k0, S1.r0_2, W1.k, W1.r0, W1.k1, W1.rp, W1.kp, W1.r5, W1.k6, p2, sr_nI, an_3, t1]
      · obtain ⟨g1, e2, Q1, F2⟩ := m_follow Q0 O hr hk (Or.inl rfl)
        rw [fz, b2i_t] at e2
        have T0 := Q0.1
        have T1 := Q1.1
        have q1 := (Q1.q (show k < 32 by omega) fl).2.1
        have t2 : hI g1 (x + 107 + 34) (353 + N (8 * k + 1)) = nI (N (353 + N (8 * k + 1))) := Q1.n (by omega) (by omega)
        refine ⟨g1, ?_, Q1, F2⟩
        simp (disch := omega) only [nm, bd_s, ko_K, ka_K, koK_t, kaK_t, kr_s, kn_s, kn_n, hK_sI, hR_sI, hK_sL, hR_sL, hI_sL, hL_sI, hL_sL, hI_sI, hN_sI, hN_sL, ch_G, ch_T, nb_0, nb_1, zb_G, d_T, d_F, d_eT, d_eF, b2i_t, b2i_f, tn_nI, fa_lit, fa_litL, m1_e, nI_add, pk_mul, pk_sub, nI_leI, nI_ltI, nI_eq, le_T, le_F, lt_T, lt_F, eq_T, eq_F, if_pos, if_neg, m1_le, m1_lt', m1_gt, m1_le', m1_eq, m1_qe, b2i_eq0, in_N, in_n, in_I, ↓reduceIte, Bool.true_eq_false, Bool.false_eq_true, reduceCtorEq, decide_eq_true_eq, decide_eq_false_iff_not, Nat.not_lt, Nat.not_le, not_true_eq_false, not_false_eq_true, true_and, and_true, and_self, false_and, and_false, true_or, or_true, false_or, or_false, f_X12_load_37, f_X12_load, T0.k, e2, T1.k, T1.r47, T1.k47, q1, t2]
    · rw [ts_nt fz, b2i_f] at e1
      obtain ⟨C2, F2⟩ := C1.rfd (k := 5) (by omega)
      have rfx := c_refuse (k := 5) S1 (by omega)
      refine glue Q (v := -nI 1) ⟨_, ?_, C2, F1.trans F2⟩ (fun g Q0 => ?_) O.rfd
      · simp (disch := omega) only [nm, bd_s, ko_K, ka_K, koK_t, kaK_t, kr_s, kn_s, kn_n, hK_sI, hR_sI, hK_sL, hR_sL, hI_sL, hL_sI, hL_sL, hI_sI, hN_sI, hN_sL, ch_G, ch_T, nb_0, nb_1, zb_G, d_T, d_F, d_eT, d_eF, b2i_t, b2i_f, tn_nI, fa_lit, fa_litL, m1_e, nI_add, pk_mul, pk_sub, nI_leI, nI_ltI, nI_eq, le_T, le_F, lt_T, lt_F, eq_T, eq_F, if_pos, if_neg, m1_le, m1_lt', m1_gt, m1_le', m1_eq, m1_qe, b2i_eq0, in_N, in_n, in_I, ↓reduceIte, Bool.true_eq_false, Bool.false_eq_true, reduceCtorEq, decide_eq_true_eq, decide_eq_false_iff_not, Nat.not_lt, Nat.not_le, not_true_eq_false, not_false_eq_true, true_and, and_true, and_self, false_and, and_false, true_or, or_true, false_or, or_false, f_X11_load, S.k0, e1, S1.k0, rfx]
      · obtain ⟨g1, e2, Q1, F3⟩ := m_follow Q0 O hr hk (Or.inl rfl)
        rw [ts_nt fz, b2i_f] at e2
        have T0 := Q0.1
        have T1 := Q1.1
        have rfm := m_refuses (k := 5) T1 (by omega)
        obtain ⟨Q2, F4⟩ := Q1.rfd (k := 5) (by omega)
        refine ⟨_, ?_, Q2, F3.trans F4⟩
        simp (disch := omega) only [nm, bd_s, ko_K, ka_K, koK_t, kaK_t, kr_s, kn_s, kn_n, hK_sI, hR_sI, hK_sL, hR_sL, hI_sL, hL_sI, hL_sL, hI_sI, hN_sI, hN_sL, ch_G, ch_T, nb_0, nb_1, zb_G, d_T, d_F, d_eT, d_eF, b2i_t, b2i_f, tn_nI, fa_lit, fa_litL, m1_e, nI_add, pk_mul, pk_sub, nI_leI, nI_ltI, nI_eq, le_T, le_F, lt_T, lt_F, eq_T, eq_F, if_pos, if_neg, m1_le, m1_lt', m1_gt, m1_le', m1_eq, m1_qe, b2i_eq0, in_N, in_n, in_I, ↓reduceIte, Bool.true_eq_false, Bool.false_eq_true, reduceCtorEq, decide_eq_true_eq, decide_eq_false_iff_not, Nat.not_lt, Nat.not_le, not_true_eq_false, not_false_eq_true, true_and, and_true, and_self, false_and, and_false, true_or, or_true, false_or, or_false, f_X12_load_37, f_X12_load, T0.k, e2, T1.k, rfm]
  · have c1 := C.np O hp
    have rfx := c_refuse (k := 5) S (by omega)
    refine glueR (k := 5) (v := -nI 1) C Q O (by omega) ?_ (fun g1 Q1 => ?_)
    · simp (disch := omega) only [nm, bd_s, ko_K, ka_K, koK_t, kaK_t, kr_s, kn_s, kn_n, hK_sI, hR_sI, hK_sL, hR_sL, hI_sL, hL_sI, hL_sL, hI_sI, hN_sI, hN_sL, ch_G, ch_T, nb_0, nb_1, zb_G, d_T, d_F, d_eT, d_eF, b2i_t, b2i_f, tn_nI, fa_lit, fa_litL, m1_e, nI_add, pk_mul, pk_sub, nI_leI, nI_ltI, nI_eq, le_T, le_F, lt_T, lt_F, eq_T, eq_F, if_pos, if_neg, m1_le, m1_lt', m1_gt, m1_le', m1_eq, m1_qe, b2i_eq0, in_N, in_n, in_I, ↓reduceIte, Bool.true_eq_false, Bool.false_eq_true, reduceCtorEq, decide_eq_true_eq, decide_eq_false_iff_not, Nat.not_lt, Nat.not_le, not_true_eq_false, not_false_eq_true, true_and, and_true, and_self, false_and, and_false, true_or, or_true, false_or, or_false, f_X11_load, f_X11_canFollow_88, f_X11_canFollow_87, f_X11_canFollow, S.k0, c1, rfx]
    · have T1 := Q1.1
      have um := Q1.no O hp
      have rfm := m_refuses (k := 5) T1 (by omega)
      simp (disch := omega) only [nm, bd_s, ko_K, ka_K, koK_t, kaK_t, kr_s, kn_s, kn_n, hK_sI, hR_sI, hK_sL, hR_sL, hI_sL, hL_sI, hL_sL, hI_sI, hN_sI, hN_sL, ch_G, ch_T, nb_0, nb_1, zb_G, d_T, d_F, d_eT, d_eF, b2i_t, b2i_f, tn_nI, fa_lit, fa_litL, m1_e, nI_add, pk_mul, pk_sub, nI_leI, nI_ltI, nI_eq, le_T, le_F, lt_T, lt_F, eq_T, eq_F, if_pos, if_neg, m1_le, m1_lt', m1_gt, m1_le', m1_eq, m1_qe, b2i_eq0, in_N, in_n, in_I, ↓reduceIte, Bool.true_eq_false, Bool.false_eq_true, reduceCtorEq, decide_eq_true_eq, decide_eq_false_iff_not, Nat.not_lt, Nat.not_le, not_true_eq_false, not_false_eq_true, true_and, and_true, and_self, false_and, and_false, true_or, or_true, false_or, or_false, f_X12_load_37, f_X12_load, f_X12_canFollow_24, f_X12_canFollow_60, f_X12_canFollow_90, f_X12_canFollow_85, f_X12_canFollow, T1.k, um, rfm]
end Ld
