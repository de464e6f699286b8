/-! narrow -/
theorem nw_len {b t e M : Nat} (h4 : 4 ≤ M) (hb : b ≤ t) (hd : (t + 2 ^ e - 1) / 2 ^ e - b / 2 ^ e ≤ 2 ^ (M - 1)) : (topN t e M + 2 ^ M - botN b e M) % 2 ^ M ≤ 2 ^ (M - 1) ∧ (topN t e M + 2 ^ M - botN b e M) % 2 ^ M * 2 ^ e = upN t e - dnN b e := by
  have pe : 0 < 2 ^ e := Nat.two_pow_pos e
  have pM : 2 ^ M = 2 * 2 ^ (M - 1) := by rw [← Nat.pow_succ', show (M - 1).succ = M by omega]
  have pm : 0 < 2 ^ (M - 1) := Nat.two_pow_pos _
  unfold topN botN upN dnN
  rw [Nat.mul_div_cancel _ pe, Nat.mul_div_cancel _ pe, ← Nat.mul_sub_right_distrib]
  have bt : b / 2 ^ e ≤ (t + 2 ^ e - 1) / 2 ^ e := Nat.div_le_div_right (by omega)
  generalize b / 2 ^ e = B at *
  generalize (t + 2 ^ e - 1) / 2 ^ e = T at *
  generalize 2 ^ (M - 1) = m at *
  obtain ⟨d, rfl⟩ : ∃ d, T = B + d := ⟨T - B, by omega⟩
  have dd : B + d - B = d := by omega
  rw [dd] at hd ⊢
  have key : ((B + d) % 2 ^ M + 2 ^ M - B % 2 ^ M) % 2 ^ M = d := by
    rw [pM]
    have r1 : B % (2 * m) < 2 * m := Nat.mod_lt _ (by omega)
    rw [← Nat.mod_add_mod B (2 * m) d]
    generalize B % (2 * m) = R at *
    by_cases c : R + d < 2 * m
    · rw [Nat.mod_eq_of_lt c, show R + d + 2 * m - R = d + 2 * m by omega, Nat.add_mod_right, Nat.mod_eq_of_lt (by omega)]
    · rw [Nat.mod_eq_sub_mod (show R + d ≥ 2 * m by omega), Nat.mod_eq_of_lt (show R + d - 2 * m < 2 * m by omega), show R + d - 2 * m + 2 * m - R = d by omega, Nat.mod_eq_of_lt (by omega)]
  rw [key]
  exact ⟨hd, rfl⟩
def lnN (M e b t : Nat) : Nat := (t + 2 ^ M - b) % 2 ^ M * 2 ^ e
theorem lnN_le {M e b t : Nat} (h4 : 4 ≤ M) (h8 : M ≤ 8) (he : e ≤ 13 - M) (h : (t + 2 ^ M - b) % 2 ^ M ≤ 2 ^ (M - 1)) : lnN M e b t ≤ 4096 := by
  unfold lnN
  refine Nat.le_trans (Nat.mul_le_mul h (p2_le he)) ?_
  rw [← Nat.pow_add, show M - 1 + (13 - M) = 12 by omega]
  exact Nat.le_refl _
def bdN (N : tyN) (k e b t : Nat) : tyN := updN (updN (updN N (8 * k + 2) e) (8 * k + 3) b) (8 * k + 4) t
section Nw
variable {h : aH} {x r tl : Nat} {tp : Nat → Nat} {rf : Nat → Int32} {ft fp : Int32} {sd : Nat} {M mem sh : Nat} {ns : Nat → List Nat} {kd : Nat → Nat} {cd : Nat → List Nat} {N : tyN} {sl : Nat → tyN} {nx c cr : Nat} {rn : Nat} {rw_ : Nat → Nat} {on_ : Nat} {ob : Nat → Nat}
theorem bdN_o {k e b t j : Nat} (h2 : ¬ j = 8 * k + 2) (h3 : ¬ j = 8 * k + 3) (h4 : ¬ j = 8 * k + 4) : bdN N k e b t j = N j := by unfold bdN; rw [updN_o h4, updN_o h3, updN_o h2]
theorem bdN_2 {k e b t : Nat} : bdN N k e b t (8 * k + 2) = e := by unfold bdN; rw [updN_o (by omega), updN_o (by omega), updN_s]
theorem bdN_3 {k e b t : Nat} : bdN N k e b t (8 * k + 3) = b := by unfold bdN; rw [updN_o (by omega), updN_s]
theorem bdN_4 {k e b t : Nat} : bdN N k e b t (8 * k + 4) = t := by unfold bdN; rw [updN_s]
theorem okN.bd (okn : okN M mem sh N) (h8 : M ≤ 8) {k e b t : Nat} (hk : k < 16) (h1 : e ≤ 13 - M) (h2 : b < 2 ^ M) (h3 : t < 2 ^ M) (h5 : (t + 2 ^ M - b) % 2 ^ M ≤ 2 ^ (M - 1)) : okN M mem sh (bdN N k e b t) := by
  have okp := okn.2.1 k (by omega)
  refine okn.cell h8 (show k < 32 by omega) (fun j q => bdN_o (by omega) (by omega) (by omega)) ?_ ?_ ?_ ?_
  · unfold okP
    rw [bdN_o (by omega) (by omega) (by omega), bdN_o (by omega) (by omega) (by omega), bdN_2, bdN_3, bdN_4, bdN_o (by omega) (by omega) (by omega), bdN_o (by omega) (by omega) (by omega)]
    exact ⟨okp.1, okp.2.1, h1, h2, h3, h5, okp.2.2.2.2.2.2.1, okp.2.2.2.2.2.2.2⟩
  · rw [bdN_o (by omega) (by omega) (by omega)]; exact okn.1 _
  · intro _; rw [bdN_o (by omega) (by omega) (by omega)]; exact okn.fl hk
  · intro z; omega
theorem CX.bd (C : CX h x (r, tl, tp, rf, ft, fp, sd) (M, mem, sh, ns, kd, cd) N (sl, nx, c, cr) (rn, rw_) (on_, ob)) {k a t : Nat} (hk : k < 32) (fl : N (8 * k) ≤ 1) : CX (carX h (x + 3 + 7 + k) M a t) x (r, tl, tp, rf, ft, fp, sd) (M, mem, sh, ns, kd, cd) (bdN N k (lexN a t M) (botN a (lexN a t M) M) (topN t (lexN a t M) M)) (sl, nx, c, cr) (rn, rw_) (on_, ob) ∧ FC x h (carX h (x + 3 + 7 + k) M a t) := by
  obtain ⟨C1, F1⟩ := C.u1 (k := k) (i := 2) (v := lexN a t M) hk fl (by omega) (by omega)
  obtain ⟨C2, F2⟩ := C1.u1 (k := k) (i := 3) (v := botN a (lexN a t M) M) hk (by rw [updN_o (by omega)]; exact fl) (by omega) (by omega)
  obtain ⟨C3, F3⟩ := C2.u1 (k := k) (i := 4) (v := topN t (lexN a t M) M) hk (by rw [updN_o (by omega), updN_o (by omega)]; exact fl) (by omega) (by omega)
  exact ⟨C3, (F1.trans F2).trans F3⟩
theorem CM.bd (Q : CM h (x + 107) (r, tl, tp, rf, ft, fp, sd) (M, mem, sh, ns, kd, cd) N (sl, nx, c, cr) (rn, rw_) (on_, ob)) {k e b t : Nat} (hk : k < 32) : CM (layM h (x + 107) (8 * k) e b t M) (x + 107) (r, tl, tp, rf, ft, fp, sd) (M, mem, sh, ns, kd, cd) (bdN N k e (botN b e M) (topN t e M)) (sl, nx, c, cr) (rn, rw_) (on_, ob) ∧ FM x h (layM h (x + 107) (8 * k) e b t M) := by
  obtain ⟨C1, F1⟩ := Q.u1 (a := 8 * k + 2) (v := e) (by omega) (by omega)
  obtain ⟨C2, F2⟩ := C1.u1 (a := 8 * k + 3) (v := botN b e M) (by omega) (by omega)
  obtain ⟨C3, F3⟩ := C2.u1 (a := 8 * k + 4) (v := topN t e M) (by omega) (by omega)
  exact ⟨C3, (F1.trans F2).trans F3⟩
/-- what may be narrowed -/
theorem c_canN (C : CX h x (r, tl, tp, rf, ft, fp, sd) (M, mem, sh, ns, kd, cd) N (sl, nx, c, cr) (rn, rw_) (on_, ob)) (q : okN M mem sh N) (h4 : 4 ≤ M) (h8 : M ≤ 8) {k l : Nat} (hk : k < 16) (us : (decide (N (8 * k) = 1) && decide (N (8 * k + 6) = 0)) = true) (hl : N (8 * k + 1) + l ≤ 4096) : f_X6_canNarrow (x + 3 + 7 + k) (nI l) (nI M) h = some (b2i (decide (basN M (N (8 * k + 2)) (N (8 * k + 3)) (N (8 * k + 1)) ≤ dnN (N (8 * k + 1)) (lexN (N (8 * k + 1)) (N (8 * k + 1) + l) M)) && decide (upN (N (8 * k + 1) + l) (lexN (N (8 * k + 1)) (N (8 * k + 1) + l) M) ≤ basN M (N (8 * k + 2)) (N (8 * k + 3)) (N (8 * k + 1)) + lnN M (N (8 * k + 2)) (N (8 * k + 3)) (N (8 * k + 4)))), h) := by
  have S := C.1
  have W := S.now
  have fl := q.fl hk
  have kp := W.kp (k := k) (by omega)
  obtain ⟨p0, p1, p2, p3, p4, p5, p6, p7⟩ := C.2.2.2.1.cl (show k < 32 by omega) fl
  have okp := q.2.1 k (by omega)
  have u := c_usable C q hk
  rw [us, b2i_t] at u
  have L := c_least (h := h) (b := N (8 * k + 1)) (t := N (8 * k + 1) + l) (M := M) (by omega) hl h4 h8
  have pb := p_base kp (nI M)
  rw [p3, p4, p2, bas_nI h4 h8 okp.2.2.1 okp.2.2.2.1 (by have := okp.2.1; omega)] at pb
  have px := p_extent kp (nI M)
  rw [p3, p4, p5, len_nI h4 h8 okp.2.2.1 okp.2.2.2.1] at px
  have ex := lexN_le (N (8 * k + 1)) (N (8 * k + 1) + l) M
  have ll := lnN_le h4 h8 okp.2.2.1 okp.2.2.2.2.2.1
  have bl := basN_lt M (N (8 * k + 2)) (N (8 * k + 3)) (N (8 * k + 1))
  rw [show (N (8 * k + 4) + 2 ^ M - N (8 * k + 3)) % 2 ^ M * 2 ^ N (8 * k + 2) = lnN M (N (8 * k + 2)) (N (8 * k + 3)) (N (8 * k + 4)) from rfl] at px
  generalize lnN M (N (8 * k + 2)) (N (8 * k + 3)) (N (8 * k + 4)) = ln at *
  generalize basN M (N (8 * k + 2)) (N (8 * k + 3)) (N (8 * k + 1)) = bs at *
  generalize lexN (N (8 * k + 1)) (N (8 * k + 1) + l) M = e at *
  have a4 := okp.2.1
  generalize N (8 * k + 1) = a at *
  have q1 := dnN_le a e
  have q2 := upN_le (a + l) e
  have q3 := p2_le (show e ≤ 13 by omega)
  have dn := dn_nI (n := a) (e := e) (by omega) (by omega)
  have up := up_nI (t := a + l) (e := e) (by omega) (by omega)
  generalize upN (a + l) e = U at *
  generalize dnN a e = D at *
  clear p0 p1 p3 p4 p5 p6 p7 okp us fl q
  by_cases c1 : bs ≤ D
  · rw [decide_eq_true c1, Bool.true_and]
    by_cases c2 : U ≤ bs + ln
    · rw [decide_eq_true c2, b2i_t]
      simp (disch := omega) only [nm, bd_s, ko_K, ka_K, koK_t, kaK_t, kr_s, kn_s, kn_n, hK_sI, hR_sI, hK_sL, hR_sL, hI_sL, hL_sI, hL_sL, hI_sI, hN_sI, hN_sL, ch_G, ch_T, nb_0, nb_1, zb_G, d_T, d_F, d_eT, d_eF, b2i_t, b2i_f, tn_nI, fa_lit, fa_litL, m1_e, nI_add, pk_mul, pk_sub, nI_leI, nI_ltI, nI_eq, le_T, le_F, lt_T, lt_F, eq_T, eq_F, if_pos, if_neg, m1_le, m1_lt', m1_gt, m1_le', m1_eq, m1_qe, b2i_eq0, in_N, in_n, in_I, ↓reduceIte, Bool.true_eq_false, Bool.false_eq_true, reduceCtorEq, decide_eq_true_eq, decide_eq_false_iff_not, Nat.not_lt, Nat.not_le, not_true_eq_false, not_false_eq_true, true_and, and_true, and_self, false_and, and_false, true_or, or_true, false_or, or_false, f_X6_canNarrow_23, f_X6_canNarrow_86, f_X6_canNarrow_85, f_X6_canNarrow, kp, u, p2, L, pb, px, p_down, p_up, dn, up]
    · rw [decide_eq_false c2, b2i_f]
      simp (disch := omega) only [nm, bd_s, ko_K, ka_K, koK_t, kaK_t, kr_s, kn_s, kn_n, hK_sI, hR_sI, hK_sL, hR_sL, hI_sL, hL_sI, hL_sL, hI_sI, hN_sI, hN_sL, ch_G, ch_T, nb_0, nb_1, zb_G, d_T, d_F, d_eT, d_eF, b2i_t, b2i_f, tn_nI, fa_lit, fa_litL, m1_e, nI_add, pk_mul, pk_sub, nI_leI, nI_ltI, nI_eq, le_T, le_F, lt_T, lt_F, eq_T, eq_F, if_pos, if_neg, m1_le, m1_lt', m1_gt, m1_le', m1_eq, m1_qe, b2i_eq0, in_N, in_n, in_I, ↓reduceIte, Bool.true_eq_false, Bool.false_eq_true, reduceCtorEq, decide_eq_true_eq, decide_eq_false_iff_not, Nat.not_lt, Nat.not_le, not_true_eq_false, not_false_eq_true, true_and, and_true, and_self, false_and, and_false, true_or, or_true, false_or, or_false, f_X6_canNarrow_23, f_X6_canNarrow_86, f_X6_canNarrow_85, f_X6_canNarrow, kp, u, p2, L, pb, px, p_down, p_up, dn, up]
  · rw [decide_eq_false c1, Bool.false_and, b2i_f]
    simp (disch := omega) only [nm, bd_s, ko_K, ka_K, koK_t, kaK_t, kr_s, kn_s, kn_n, hK_sI, hR_sI, hK_sL, hR_sL, hI_sL, hL_sI, hL_sL, hI_sI, hN_sI, hN_sL, ch_G, ch_T, nb_0, nb_1, zb_G, d_T, d_F, d_eT, d_eF, b2i_t, b2i_f, tn_nI, fa_lit, fa_litL, m1_e, nI_add, pk_mul, pk_sub, nI_leI, nI_ltI, nI_eq, le_T, le_F, lt_T, lt_F, eq_T, eq_F, if_pos, if_neg, m1_le, m1_lt', m1_gt, m1_le', m1_eq, m1_qe, b2i_eq0, in_N, in_n, in_I, ↓reduceIte, Bool.true_eq_false, Bool.false_eq_true, reduceCtorEq, decide_eq_true_eq, decide_eq_false_iff_not, Nat.not_lt, Nat.not_le, not_true_eq_false, not_false_eq_true, true_and, and_true, and_self, false_and, and_false, true_or, or_true, false_or, or_false, f_X6_canNarrow_23, f_X6_canNarrow_86, f_X6_canNarrow_85, f_X6_canNarrow, kp, u, p2, L, pb, p_down, dn]
theorem c_canN_f (C : CX h x (r, tl, tp, rf, ft, fp, sd) (M, mem, sh, ns, kd, cd) N (sl, nx, c, cr) (rn, rw_) (on_, ob)) (q : okN M mem sh N) {k : Nat} {w : Int32} (hk : k < 16) (hw : (decide (N (8 * k) = 1) && decide (N (8 * k + 6) = 0)) = false ∨ ¬ ∃ l, N (8 * k + 1) + l ≤ 4096 ∧ w = nI l) : f_X6_canNarrow (x + 3 + 7 + k) w (nI M) h = some (nI 0, h) := by
  have kp := C.1.now.kp (k := k) (by omega)
  have p2 := (C.2.2.2.1.cl (show k < 32 by omega) (q.fl hk)).2.2.1
  have u := c_usable C q hk
  have a4 := (q.2.1 k (by omega)).2.1
  by_cases us : (decide (N (8 * k) = 1) && decide (N (8 * k + 6) = 0)) = true
  · have hw := hw.resolve_left (by rw [us]; decide)
    rw [us, b2i_t] at u
    rcases pk_ix w (n := 4097) (by omega) with z | z | ⟨j, hj, rfl⟩
    · simp (disch := omega) only [nm, bd_s, ko_K, ka_K, koK_t, kaK_t, kr_s, kn_s, kn_n, hK_sI, hR_sI, hK_sL, hR_sL, hI_sL, hL_sI, hL_sL, hI_sI, hN_sI, hN_sL, ch_G, ch_T, nb_0, nb_1, zb_G, d_T, d_F, d_eT, d_eF, b2i_t, b2i_f, tn_nI, fa_lit, fa_litL, m1_e, nI_add, pk_mul, pk_sub, nI_leI, nI_ltI, nI_eq, le_T, le_F, lt_T, lt_F, eq_T, eq_F, if_pos, if_neg, m1_le, m1_lt', m1_gt, m1_le', m1_eq, m1_qe, b2i_eq0, in_N, in_n, in_I, ↓reduceIte, Bool.true_eq_false, Bool.false_eq_true, reduceCtorEq, decide_eq_true_eq, decide_eq_false_iff_not, Nat.not_lt, Nat.not_le, not_true_eq_false, not_false_eq_true, true_and, and_true, and_self, false_and, and_false, true_or, or_true, false_or, or_false, f_X6_canNarrow_23, f_X6_canNarrow_86, f_X6_canNarrow_85, f_X6_canNarrow, kp, u, ng_lt' z, ng_le' z, ng_le z, ng_lt z, ng_eq z, ng_qe z, in_g z, in_gN z]
    · have z1 : (w ≤ nI (4096 - N (8 * k + 1))) = False := eq_false (fun y => by
        have := Int32.le_trans (Int32.le_trans z y) ((nI_leI (by omega) (by omega)).mpr (show 4096 - N (8 * k + 1) ≤ 4096 by omega))
        rw [nI_leI (by omega) (by omega)] at this; omega)
      simp (disch := omega) only [nm, bd_s, ko_K, ka_K, koK_t, kaK_t, kr_s, kn_s, kn_n, hK_sI, hR_sI, hK_sL, hR_sL, hI_sL, hL_sI, hL_sL, hI_sI, hN_sI, hN_sL, ch_G, ch_T, nb_0, nb_1, zb_G, d_T, d_F, d_eT, d_eF, b2i_t, b2i_f, tn_nI, fa_lit, fa_litL, m1_e, nI_add, pk_mul, pk_sub, nI_leI, nI_ltI, nI_eq, le_T, le_F, lt_T, lt_F, eq_T, eq_F, if_pos, if_neg, m1_le, m1_lt', m1_gt, m1_le', m1_eq, m1_qe, b2i_eq0, in_N, in_n, in_I, ↓reduceIte, Bool.true_eq_false, Bool.false_eq_true, reduceCtorEq, decide_eq_true_eq, decide_eq_false_iff_not, Nat.not_lt, Nat.not_le, not_true_eq_false, not_false_eq_true, true_and, and_true, and_self, false_and, and_false, true_or, or_true, false_or, or_false, f_X6_canNarrow_23, f_X6_canNarrow_86, f_X6_canNarrow_85, f_X6_canNarrow, kp, u, bg_lt z, bg_gt z, p2, z1]
    · have z1 : ¬ j ≤ 4096 - N (8 * k + 1) := fun y => hw ⟨j, by omega, rfl⟩
      simp (disch := omega) only [nm, bd_s, ko_K, ka_K, koK_t, kaK_t, kr_s, kn_s, kn_n, hK_sI, hR_sI, hK_sL, hR_sL, hI_sL, hL_sI, hL_sL, hI_sI, hN_sI, hN_sL, ch_G, ch_T, nb_0, nb_1, zb_G, d_T, d_F, d_eT, d_eF, b2i_t, b2i_f, tn_nI, fa_lit, fa_litL, m1_e, nI_add, pk_mul, pk_sub, nI_leI, nI_ltI, nI_eq, le_T, le_F, lt_T, lt_F, eq_T, eq_F, if_pos, if_neg, m1_le, m1_lt', m1_gt, m1_le', m1_eq, m1_qe, b2i_eq0, in_N, in_n, in_I, ↓reduceIte, Bool.true_eq_false, Bool.false_eq_true, reduceCtorEq, decide_eq_true_eq, decide_eq_false_iff_not, Nat.not_lt, Nat.not_le, not_true_eq_false, not_false_eq_true, true_and, and_true, and_self, false_and, and_false, true_or, or_true, false_or, or_false, f_X6_canNarrow_23, f_X6_canNarrow_86, f_X6_canNarrow_85, f_X6_canNarrow, kp, u, p2, z1]
  · rw [ts_nt us, b2i_f] at u
    simp (disch := omega) only [nm, bd_s, ko_K, ka_K, koK_t, kaK_t, kr_s, kn_s, kn_n, hK_sI, hR_sI, hK_sL, hR_sL, hI_sL, hL_sI, hL_sL, hI_sI, hN_sI, hN_sL, ch_G, ch_T, nb_0, nb_1, zb_G, d_T, d_F, d_eT, d_eF, b2i_t, b2i_f, tn_nI, fa_lit, fa_litL, m1_e, nI_add, pk_mul, pk_sub, nI_leI, nI_ltI, nI_eq, le_T, le_F, lt_T, lt_F, eq_T, eq_F, if_pos, if_neg, m1_le, m1_lt', m1_gt, m1_le', m1_eq, m1_qe, b2i_eq0, in_N, in_n, in_I, ↓reduceIte, Bool.true_eq_false, Bool.false_eq_true, reduceCtorEq, decide_eq_true_eq, decide_eq_false_iff_not, Nat.not_lt, Nat.not_le, not_true_eq_false, not_false_eq_true, true_and, and_true, and_self, false_and, and_false, true_or, or_true, false_or, or_false, f_X6_canNarrow_23, f_X6_canNarrow_86, f_X6_canNarrow_85, f_X6_canNarrow, kp, u]
end Nw
