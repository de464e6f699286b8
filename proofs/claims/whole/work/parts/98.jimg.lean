section Ij
variable {h : aH} {x r tl : Nat} {tp : Nat → Nat} {rf : Nat → Int32} {ft fp : Int32} {sd : Nat} {M mem sh : Nat} {ns : Nat → List Nat} {kd : Nat → Nat} {cd : Nat → List Nat} {N : tyN} {sl : Nat → tyN} {nx c cr : Nat} {rn : Nat} {rw_ : Nat → Nat} {on_ : Nat} {ob : Nat → Nat}
theorem S_image (C : CX h x (r, tl, tp, rf, ft, fp, sd) (M, mem, sh, ns, kd, cd) N (sl, nx, c, cr) (rn, rw_) (on_, ob)) (Q : CM h (x + 107) (r, tl, tp, rf, ft, fp, sd) (M, mem, sh, ns, kd, cd) N (sl, nx, c, cr) (rn, rw_) (on_, ob)) (O : Ok (r, tl, tp, rf, ft, fp, sd) (M, mem, sh, ns, kd, cd) N (sl, nx, c, cr) (rn, rw_) (on_, ob)) : SM Int32 x h (f_X11_image x) (f_X12_image (x + 107)) := by
  have S := C.1
  have e0 : hI h x 12 = nI r := C.2.1.1
  rcases O.r01 with hr | hr
  · refine glue0 C Q O (v := -nI 1) ?_ ?_
    · rw [hr] at e0
      simp (disch := omega) only [nm, bd_s, ko_K, ka_K, koK_t, kaK_t, kr_s, kn_s, kn_n, hK_sI, hR_sI, hK_sL, hR_sL, hI_sL, hL_sI, hL_sL, hI_sI, hN_sI, hN_sL, ch_G, ch_T, nb_0, nb_1, zb_G, d_T, d_F, d_eT, d_eF, b2i_t, b2i_f, tn_nI, fa_lit, fa_litL, m1_e, nI_add, pk_mul, pk_sub, nI_leI, nI_ltI, nI_eq, le_T, le_F, lt_T, lt_F, eq_T, eq_F, if_pos, if_neg, m1_le, m1_lt', m1_gt, m1_le', m1_eq, m1_qe, b2i_eq0, in_N, in_n, in_I, ↓reduceIte, Bool.true_eq_false, Bool.false_eq_true, reduceCtorEq, decide_eq_true_eq, decide_eq_false_iff_not, Nat.not_lt, Nat.not_le, not_true_eq_false, not_false_eq_true, true_and, and_true, and_self, false_and, and_false, true_or, or_true, false_or, or_false, f_X11_image, S.k0, e0]
    · have T := Q.1
      have e1 : hI h (x + 107) 45 = nI r := Q.2.1.1
      rw [hr] at e1
      simp (disch := omega) only [nm, bd_s, ko_K, ka_K, koK_t, kaK_t, kr_s, kn_s, kn_n, hK_sI, hR_sI, hK_sL, hR_sL, hI_sL, hL_sI, hL_sL, hI_sI, hN_sI, hN_sL, ch_G, ch_T, nb_0, nb_1, zb_G, d_T, d_F, d_eT, d_eF, b2i_t, b2i_f, tn_nI, fa_lit, fa_litL, m1_e, nI_add, pk_mul, pk_sub, nI_leI, nI_ltI, nI_eq, le_T, le_F, lt_T, lt_F, eq_T, eq_F, if_pos, if_neg, m1_le, m1_lt', m1_gt, m1_le', m1_eq, m1_qe, b2i_eq0, in_N, in_n, in_I, ↓reduceIte, Bool.true_eq_false, Bool.false_eq_true, reduceCtorEq, decide_eq_true_eq, decide_eq_false_iff_not, Nat.not_lt, Nat.not_le, not_true_eq_false, not_false_eq_true, true_and, and_true, and_self, false_and, and_false, true_or, or_true, false_or, or_false, f_X12_image, T.k, e1]
  · rw [hr] at e0
    have okn := O.okn hr
    have okb := O.okb hr
    have s4 : sh ≤ 4 := okb.2.2.2.2.1
    have n32 := okn.2.2.2.2.1
    have ob255 : ∀ j, ob j ≤ 255 := O.2.2.1.2
    have f1 := ceF_1 N (16 + 4 * sh) 0 (0, ob)
    have g1 := ceF_255 okn okb.2.1 (16 + 4 * sh) 0 (0, ob) (by omega) ob255
    have cells := fun (a n : Nat) hh q1 q2 => c_cells (x := x) (tl := tl) (tp := tp) (rf := rf) (ft := ft) (fp := fp) (sd := sd) O hr (a := a) (16 + 4 * sh) 0 n (0, ob) hh (by omega) q1 q2 rfl
    have mells := fun (n : Nat) hh q1 => m_cells (x := x) (tl := tl) (tp := tp) (rf := rf) (ft := ft) (fp := fp) (sd := sd) O hr (16 + 4 * sh) 0 n (0, ob) hh (by omega) q1 rfl
    generalize ceF N (16 + 4 * sh) 0 (0, ob) = Fa at *
    obtain ⟨on1, ob1⟩ := Fa
    have f1 : on1 = 0 + 8 * (16 + 4 * sh) := f1
    have g1 : ∀ j, ob1 j ≤ 255 := g1
    have g2 : ∀ j, (adF (on1, ob1) (N 256)).2 j ≤ 255 := fun j => by
      show updN ob1 on1 (N 256) j ≤ 255
      unfold updN
      split
      · omega
      · exact g1 j
    have f3 := obF_1 N (N 256) 0 (adF (on1, ob1) (N 256))
    have g3 := obF_255 okn (N 256) 0 (adF (on1, ob1) (N 256)) g2
    have objs := fun (n : Nat) hh q1 => c_objs (x := x) (tl := tl) (tp := tp) (rf := rf) (ft := ft) (fp := fp) (sd := sd) O hr (N 256) 0 n (adF (on1, ob1) (N 256)) hh (by omega) q1 (by show on1 + 1 + 6 * N 256 < 450; omega)
    have mbjs := fun (n : Nat) hh q1 => m_objs (x := x) (tl := tl) (tp := tp) (rf := rf) (ft := ft) (fp := fp) (sd := sd) O hr (N 256) 0 n (adF (on1, ob1) (N 256)) hh (by omega) q1 (by show on1 + 1 + 6 * N 256 < 450; omega)
    generalize obF N (N 256) 0 (adF (on1, ob1) (N 256)) = Fb at *
    obtain ⟨on3, ob3⟩ := Fb
    have f3 : on3 = on1 + 1 + 6 * N 256 := f3
    have g3 : ∀ j, ob3 j ≤ 255 := g3
    obtain ⟨na, hna⟩ : ∃ m, FU = m + 1 + (16 + 4 * sh) := ⟨FU - 17 - 4 * sh, by have := FU_gt (k := 64) (by omega); omega⟩
    obtain ⟨nb, hnb⟩ : ∃ m, FU = m + 1 + N 256 := ⟨FU - 1 - N 256, by have := FU_gt (k := 64) (by omega); omega⟩
    obtain ⟨nc, hnc⟩ : ∃ m, FU = m + 1 + 3 * N 256 := ⟨FU - 1 - 3 * N 256, by have := FU_gt (k := 128) (by omega); omega⟩
    obtain ⟨a, ha, h9, A, B⟩ := C.run hr
    obtain ⟨C0, F0⟩ := C.im (h1 := sI h (x + 90) 1 (nI 0)) (n := 0) (b := ob) (FX.sI (by unfold IM; omega)) rfl rfl ⟨by rw [hI_sI, if_pos ⟨rfl, rfl⟩], by omega, fun j hj => absurd hj (Nat.not_lt_zero _)⟩
    obtain ⟨h1, e1, C1, F1, G1⟩ := cells a na _ C0 h9
    have S1 := C1.1
    have W1 := S1.now
    obtain ⟨a', ha', h9', A1, B1⟩ := C1.run hr
    rw [G1] at h9'
    cases h9'
    have b3 : hI h1 a 3 = nI sh := B1.2.2.1
    have ce : f_X3_cells a h1 = some (nI (16 + 4 * sh), h1) := by
      by_cases z : 16 + 4 * sh < 32
      · simp (disch := omega) only [nm, bd_s, ko_K, ka_K, koK_t, kaK_t, kr_s, kn_s, kn_n, hK_sI, hR_sI, hK_sL, hR_sL, hI_sL, hL_sI, hL_sL, hI_sI, hN_sI, hN_sL, ch_G, ch_T, nb_0, nb_1, zb_G, d_T, d_F, d_eT, d_eF, b2i_t, b2i_f, tn_nI, fa_lit, fa_litL, m1_e, nI_add, pk_mul, pk_sub, nI_leI, nI_ltI, nI_eq, le_T, le_F, lt_T, lt_F, eq_T, eq_F, if_pos, if_neg, m1_le, m1_lt', m1_gt, m1_le', m1_eq, m1_qe, b2i_eq0, in_N, in_n, in_I, ↓reduceIte, Bool.true_eq_false, Bool.false_eq_true, reduceCtorEq, decide_eq_true_eq, decide_eq_false_iff_not, Nat.not_lt, Nat.not_le, not_true_eq_false, not_false_eq_true, true_and, and_true, and_self, false_and, and_false, true_or, or_true, false_or, or_false, f_X3_cells, A1.k, b3, j_min]
      · have z : sh = 4 := by omega
        rw [z] at b3
        rw [z]
        simp (disch := omega) only [nm, bd_s, ko_K, ka_K, koK_t, kaK_t, kr_s, kn_s, kn_n, hK_sI, hR_sI, hK_sL, hR_sL, hI_sL, hL_sI, hL_sL, hI_sI, hN_sI, hN_sL, ch_G, ch_T, nb_0, nb_1, zb_G, d_T, d_F, d_eT, d_eF, b2i_t, b2i_f, tn_nI, fa_lit, fa_litL, m1_e, nI_add, pk_mul, pk_sub, nI_leI, nI_ltI, nI_eq, le_T, le_F, lt_T, lt_F, eq_T, eq_F, if_pos, if_neg, m1_le, m1_lt', m1_gt, m1_le', m1_eq, m1_qe, b2i_eq0, in_N, in_n, in_I, ↓reduceIte, Bool.true_eq_false, Bool.false_eq_true, reduceCtorEq, decide_eq_true_eq, decide_eq_false_iff_not, Nat.not_lt, Nat.not_le, not_true_eq_false, not_false_eq_true, true_and, and_true, and_self, false_and, and_false, true_or, or_true, false_or, or_false, f_X3_cells, A1.k, b3, j_min]
    have e61 : hI h1 (x + 3) 6 = nI (N 256) := C1.2.2.2.1.2.1
    obtain ⟨h2, e2, C2, F2, G2⟩ := CX.ad1 (on_ := on1) C1 (v := N 256) (by omega)
    obtain ⟨h3, e3, C3, F3⟩ := objs nb h2 C2
    have S3 := C3.1
    have W3 := S3.now
    have e63 : hI h3 (x + 3) 6 = nI (N 256) := C3.2.2.2.1.2.1
    have e93 : hI h3 (x + 90) 1 = nI on3 := C3.2.2.2.2.2.2.1.1
    have ck := c_check S3 C3.2.2.2.2.2.2.1.2.2 g3 (show on3 ≤ 450 by omega)
    obtain ⟨h4, e4, C4, F4, G4⟩ := CX.ad1 (on_ := on3) C3 (v := ckN ob3 on3) (by omega)
    have S4 := C4.1
    have e94 : hI h4 (x + 90) 1 = nI (on3 + 1) := C4.2.2.2.2.2.2.1.1
    have wr : f_X3_write (x + 90) (x + 3) a h = some ((), h4) := by
      have s1 : f_X3_write (x + 90) (x + 3) a h = f_X3_write_7 FU (x + 90) (x + 3) a (nI 0) (sI h (x + 90) 1 (nI 0)) := by simp (disch := omega) only [nm, bd_s, ko_K, ka_K, koK_t, kaK_t, kr_s, kn_s, kn_n, hK_sI, hR_sI, hK_sL, hR_sL, hI_sL, hL_sI, hL_sL, hI_sI, hN_sI, hN_sL, ch_G, ch_T, nb_0, nb_1, zb_G, d_T, d_F, d_eT, d_eF, b2i_t, b2i_f, tn_nI, fa_lit, fa_litL, m1_e, nI_add, pk_mul, pk_sub, nI_leI, nI_ltI, nI_eq, le_T, le_F, lt_T, lt_F, eq_T, eq_F, if_pos, if_neg, m1_le, m1_lt', m1_gt, m1_le', m1_eq, m1_qe, b2i_eq0, in_N, in_n, in_I, ↓reduceIte, Bool.true_eq_false, Bool.false_eq_true, reduceCtorEq, decide_eq_true_eq, decide_eq_false_iff_not, Nat.not_lt, Nat.not_le, not_true_eq_false, not_false_eq_true, true_and, and_true, and_self, false_and, and_false, true_or, or_true, false_or, or_false, f_X3_write, S.k90]
      have s2 : f_X3_write_7 (na + 1) (x + 90) (x + 3) a (nI (16 + 4 * sh)) h1 = f_X3_write_41 FU (x + 90) (x + 3) (nI 0) h2 := by simp (disch := omega) only [nm, bd_s, ko_K, ka_K, koK_t, kaK_t, kr_s, kn_s, kn_n, hK_sI, hR_sI, hK_sL, hR_sL, hI_sL, hL_sI, hL_sL, hI_sI, hN_sI, hN_sL, ch_G, ch_T, nb_0, nb_1, zb_G, d_T, d_F, d_eT, d_eF, b2i_t, b2i_f, tn_nI, fa_lit, fa_litL, m1_e, nI_add, pk_mul, pk_sub, nI_leI, nI_ltI, nI_eq, le_T, le_F, lt_T, lt_F, eq_T, eq_F, if_pos, if_neg, m1_le, m1_lt', m1_gt, m1_le', m1_eq, m1_qe, b2i_eq0, in_N, in_n, in_I, ↓reduceIte, Bool.true_eq_false, Bool.false_eq_true, reduceCtorEq, decide_eq_true_eq, decide_eq_false_iff_not, Nat.not_lt, Nat.not_le, not_true_eq_false, not_false_eq_true, true_and, and_true, and_self, false_and, and_false, true_or, or_true, false_or, or_false, f_X3_write_7, b_X3_write_7, ce, W1.k, S1.k90, e61, e2]
      have s3 : f_X3_write_41 (nb + 1) (x + 90) (x + 3) (nI (N 256)) h3 = some ((), h4) := by
        have ck1 := ck.1
        simp (disch := omega) only [nm, bd_s, ko_K, ka_K, koK_t, kaK_t, kr_s, kn_s, kn_n, hK_sI, hR_sI, hK_sL, hR_sL, hI_sL, hL_sI, hL_sL, hI_sI, hN_sI, hN_sL, ch_G, ch_T, nb_0, nb_1, zb_G, d_T, d_F, d_eT, d_eF, b2i_t, b2i_f, tn_nI, fa_lit, fa_litL, m1_e, nI_add, pk_mul, pk_sub, nI_leI, nI_ltI, nI_eq, le_T, le_F, lt_T, lt_F, eq_T, eq_F, if_pos, if_neg, m1_le, m1_lt', m1_gt, m1_le', m1_eq, m1_qe, b2i_eq0, in_N, in_n, in_I, ↓reduceIte, Bool.true_eq_false, Bool.false_eq_true, reduceCtorEq, decide_eq_true_eq, decide_eq_false_iff_not, Nat.not_lt, Nat.not_le, not_true_eq_false, not_false_eq_true, true_and, and_true, and_self, false_and, and_false, true_or, or_true, false_or, or_false, f_X3_write_41, b_X3_write_41, W3.k, e63, S3.k90, S3.r90_0, e93, ck1, e4]
      rw [s1, hna, e1, s2, hnb, e3, s3]
    refine glue Q (v := nI (on3 + 1)) ⟨h4, ?_, C4, ((((F0.trans F1).trans F2).trans F3).trans F4)⟩ (fun g Q0 => ?_) ?_
    · simp (disch := omega) only [nm, bd_s, ko_K, ka_K, koK_t, kaK_t, kr_s, kn_s, kn_n, hK_sI, hR_sI, hK_sL, hR_sL, hI_sL, hL_sI, hL_sL, hI_sI, hN_sI, hN_sL, ch_G, ch_T, nb_0, nb_1, zb_G, d_T, d_F, d_eT, d_eF, b2i_t, b2i_f, tn_nI, fa_lit, fa_litL, m1_e, nI_add, pk_mul, pk_sub, nI_leI, nI_ltI, nI_eq, le_T, le_F, lt_T, lt_F, eq_T, eq_F, if_pos, if_neg, m1_le, m1_lt', m1_gt, m1_le', m1_eq, m1_qe, b2i_eq0, in_N, in_n, in_I, ↓reduceIte, Bool.true_eq_false, Bool.false_eq_true, reduceCtorEq, decide_eq_true_eq, decide_eq_false_iff_not, Nat.not_lt, Nat.not_le, not_true_eq_false, not_false_eq_true, true_and, and_true, and_self, false_and, and_false, true_or, or_true, false_or, or_false, f_X11_image, S.k0, S.r0_8, S.r0_2, h9, S.k90, e0, wr, S4.k0, S4.r0_8, S4.k90, e94]
    · have T0 := Q0.1
      have m0 : hI g (x + 107) 45 = nI r := Q0.2.1.1
      rw [hr] at m0
      have Qa : CM (sI g (x + 107) 102 (nI 0)) (x + 107) (r, tl, tp, rf, ft, fp, sd) (M, mem, sh, ns, kd, cd) N (sl, nx, c, cr) (rn, rw_) (0, ob) := Q0.im rfl rfl (fun b j q => by rw [hI_sI, if_neg (by omega)]) rfl ⟨by rw [hI_sI, if_pos ⟨rfl, rfl⟩], fun j hj => absurd hj (Nat.not_lt_zero _)⟩
      have Fa : FM x g (sI g (x + 107) 102 (nI 0)) := FM.sI (by omega) (by omega)
      obtain ⟨g1, d1, Q1, K1⟩ := mells na _ Qa
      have T1 := Q1.1
      have m5 : hI g1 (x + 107 + 28) 5 = nI sh := Q1.2.2.1.2.2.1
      have n61 := Q1.n (j := 256) (by omega) (by omega)
      obtain ⟨g2, d2, Q2, K2⟩ := CM.ad1 (on_ := on1) Q1 (v := N 256) (by omega)
      obtain ⟨g3', d3, Q3, K3⟩ := mbjs nc g2 Q2
      have T3 := Q3.1
      have n63 := Q3.n (j := 256) (by omega) (by omega)
      have n93 : hI g3' (x + 107) 102 = nI on3 := Q3.2.2.2.2.2.2.1.1
      have mk := m_check T3 Q3.2.2.2.2.2.2.1.2 g3 (show on3 ≤ 450 by omega)
      obtain ⟨g4, d4, Q4, K4⟩ := CM.ad1 (on_ := on3) Q3 (v := ckN ob3 on3) (by omega)
      have T4 := Q4.1
      have n94 : hI g4 (x + 107) 102 = nI (on3 + 1) := Q4.2.2.2.2.2.2.1.1
      refine ⟨g4, ?_, Q4, ((((Fa.trans K1).trans K2).trans K3).trans K4)⟩
      have s1 : f_X12_image (x + 107) g = f_X12_image_16 FU (x + 107) (nI 0) (sI g (x + 107) 102 (nI 0)) := by simp (disch := omega) only [nm, bd_s, ko_K, ka_K, koK_t, kaK_t, kr_s, kn_s, kn_n, hK_sI, hR_sI, hK_sL, hR_sL, hI_sL, hL_sI, hL_sL, hI_sI, hN_sI, hN_sL, ch_G, ch_T, nb_0, nb_1, zb_G, d_T, d_F, d_eT, d_eF, b2i_t, b2i_f, tn_nI, fa_lit, fa_litL, m1_e, nI_add, pk_mul, pk_sub, nI_leI, nI_ltI, nI_eq, le_T, le_F, lt_T, lt_F, eq_T, eq_F, if_pos, if_neg, m1_le, m1_lt', m1_gt, m1_le', m1_eq, m1_qe, b2i_eq0, in_N, in_n, in_I, ↓reduceIte, Bool.true_eq_false, Bool.false_eq_true, reduceCtorEq, decide_eq_true_eq, decide_eq_false_iff_not, Nat.not_lt, Nat.not_le, not_true_eq_false, not_false_eq_true, true_and, and_true, and_self, false_and, and_false, true_or, or_true, false_or, or_false, f_X12_image, T0.k, m0]
      have s2 : f_X12_image_16 (na + 1) (x + 107) (nI (16 + 4 * sh)) g1 = f_X12_image_53 FU (x + 107) (nI (3 * 0)) g2 := by simp (disch := omega) only [nm, bd_s, ko_K, ka_K, koK_t, kaK_t, kr_s, kn_s, kn_n, hK_sI, hR_sI, hK_sL, hR_sL, hI_sL, hL_sI, hL_sL, hI_sI, hN_sI, hN_sL, ch_G, ch_T, nb_0, nb_1, zb_G, d_T, d_F, d_eT, d_eF, b2i_t, b2i_f, tn_nI, fa_lit, fa_litL, m1_e, nI_add, pk_mul, pk_sub, nI_leI, nI_ltI, nI_eq, le_T, le_F, lt_T, lt_F, eq_T, eq_F, if_pos, if_neg, m1_le, m1_lt', m1_gt, m1_le', m1_eq, m1_qe, b2i_eq0, in_N, in_n, in_I, ↓reduceIte, Bool.true_eq_false, Bool.false_eq_true, reduceCtorEq, decide_eq_true_eq, decide_eq_false_iff_not, Nat.not_lt, Nat.not_le, not_true_eq_false, not_false_eq_true, true_and, and_true, and_self, false_and, and_false, true_or, or_true, false_or, or_false, f_X12_image_16, b_X12_image_16, f_X12_shelfMany, f_X12_objectMany, T1.k, T1.r37, T1.k37, m5, T1.r47, T1.k47, n61, d2, Nat.mul_zero]
      have s3 : f_X12_image_53 (nc + 1) (x + 107) (nI (3 * N 256)) g3' = some (nI (on3 + 1), g4) := by simp (disch := omega) only [nm, bd_s, ko_K, ka_K, koK_t, kaK_t, kr_s, kn_s, kn_n, hK_sI, hR_sI, hK_sL, hR_sL, hI_sL, hL_sI, hL_sL, hI_sI, hN_sI, hN_sL, ch_G, ch_T, nb_0, nb_1, zb_G, d_T, d_F, d_eT, d_eF, b2i_t, b2i_f, tn_nI, fa_lit, fa_litL, m1_e, nI_add, pk_mul, pk_sub, nI_leI, nI_ltI, nI_eq, le_T, le_F, lt_T, lt_F, eq_T, eq_F, if_pos, if_neg, m1_le, m1_lt', m1_gt, m1_le', m1_eq, m1_qe, b2i_eq0, in_N, in_n, in_I, ↓reduceIte, Bool.true_eq_false, Bool.false_eq_true, reduceCtorEq, decide_eq_true_eq, decide_eq_false_iff_not, Nat.not_lt, Nat.not_le, not_true_eq_false, not_false_eq_true, true_and, and_true, and_self, false_and, and_false, true_or, or_true, false_or, or_false, f_X12_image_53, b_X12_image_53, f_X12_objectMany, T3.k, T3.r47, T3.k47, n63, T3.r101, n93, mk, d4, T4.k, n94]
      rw [s1, hna, d1, s2, hnc, d3, s3]
    · obtain ⟨o1, o2, o3, o4⟩ := O
      refine ⟨o1, o2, ⟨by show on3 + 1 ≤ 450; omega, fun j => ?_⟩, o4⟩
      show updN ob3 on3 (ckN ob3 on3) j ≤ 255
      have ck2 : ckN ob3 on3 < 251 := ck.2
      unfold updN
      split
      · omega
      · exact g3 j
end Ij
