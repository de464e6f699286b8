/-! move -/
section Mv
variable {h : aH} {x r tl : Nat} {tp : Nat → Nat} {rf : Nat → Int32} {ft fp : Int32} {sd : Nat} {M mem sh : Nat} {ns : Nat → List Nat} {kd : Nat → Nat} {cd : Nat → List Nat} {N : tyN} {sl : Nat → tyN} {nx c cr : Nat} {rn : Nat} {rw_ : Nat → Nat} {on_ : Nat} {ob : Nat → Nat}
theorem okN.u1 (okn : okN M mem sh N) (h8 : M ≤ 8) {k v : Nat} (hk : k < 16) (hv : v < 4096) : okN M mem sh (updN N (8 * k + 1) v) := by
  have okp := okn.2.1 k (by omega)
  refine okn.cell h8 (show k < 32 by omega) (fun j q => updN_o (by omega)) ?_ ?_ ?_ ?_
  · unfold okP
    rw [updN_o (by omega), updN_s, updN_o (by omega), updN_o (by omega), updN_o (by omega), updN_o (by omega), updN_o (by omega)]
    exact ⟨okp.1, hv, okp.2.2.1, okp.2.2.2.1, okp.2.2.2.2.1, okp.2.2.2.2.2.1, okp.2.2.2.2.2.2.1, okp.2.2.2.2.2.2.2⟩
  · rw [updN_o (by omega)]; exact okn.1 _
  · intro _; rw [updN_o (by omega)]; exact okn.fl hk
  · intro z; omega
theorem okN.u0 (okn : okN M mem sh N) (h8 : M ≤ 8) {k : Nat} (hk : k < 32) (hs : k < 16 + 4 * sh) : okN M mem sh (updN N (8 * k) 0) := by
  have okp := okn.2.1 k (by omega)
  refine okn.cell h8 (show k < 32 by omega) (fun j q => updN_o (by omega)) ?_ ?_ ?_ ?_
  · unfold okP
    rw [updN_s, updN_o (by omega), updN_o (by omega), updN_o (by omega), updN_o (by omega), updN_o (by omega), updN_o (by omega)]
    exact ⟨by omega, okp.2⟩
  · rw [updN_o (by omega)]; exact okn.1 _
  · intro _; rw [updN_s]; omega
  · intro z; omega
theorem S_move (C : CX h x (r, tl, tp, rf, ft, fp, sd) (M, mem, sh, ns, kd, cd) N (sl, nx, c, cr) (rn, rw_) (on_, ob)) (Q : CM h (x + 107) (r, tl, tp, rf, ft, fp, sd) (M, mem, sh, ns, kd, cd) N (sl, nx, c, cr) (rn, rw_) (on_, ob)) (O : Ok (r, tl, tp, rf, ft, fp, sd) (M, mem, sh, ns, kd, cd) N (sl, nx, c, cr) (rn, rw_) (on_, ob)) (p w : Int32) : SM Int32 x h (f_X11_move x p w) (f_X12_move (x + 107) p w) := by
  have S := C.1
  have W := S.now
  have dn := c_deny (k := 3) S (by omega)
  by_cases hp : r = 1 ∧ ∃ k, k < 16 ∧ p = nI k
  · obtain ⟨hr, k, hk, rfl⟩ := hp
    have c1 := C.ip hr hk
    have okn := O.okn hr
    have h8 := (O.okb hr).2.1
    have fl := okn.fl hk
    have b6 : N (8 * k + 6) ≤ 7 := (okn.2.1 k (by omega)).2.2.2.2.2.2.2
    have p7 := (C.2.2.2.1.cl (show k < 32 by omega) fl).2.2.2.2.2.2.2
    by_cases hs : -4095 ≤ w ∧ w ≤ 4095
    · by_cases k0 : N (8 * k + 6) = 0
      · obtain ⟨j, hj, ej⟩ := pk_andE (nI (N (8 * k + 1)) + w) (m := nI 4095) 12 (by decide)
        have hj : j < 4096 := hj
        have ok1 := okn.u1 h8 hk hj
        by_cases hf : basI (nI M) (nI (N (8 * k + 2))) (nI (N (8 * k + 3))) ((nI (N (8 * k + 1)) + w) &&& nI 4095) = basI (nI M) (nI (N (8 * k + 2))) (nI (N (8 * k + 3))) (nI (N (8 * k + 1)))
        · refine glueA (N' := updN N (8 * k + 1) j) (v := nI (N (8 * k))) C Q O hr ok1 (fun h1 e1 C1 => ?_) (fun g g1 Q0 e1 Q1 => ?_)
          · have S1 := C1.1
            have W1 := S1.now
            obtain ⟨a, ha, h9, A, B⟩ := C1.run hr
            have b2 : hI h1 a 2 = nI M := B.2.1
            obtain ⟨p0, p1, p2, p3, p4, p5, p6, -⟩ := C1.2.2.2.1.cl (show k < 32 by omega) fl
            have t1 := p_keeps (W1.kp (k := k) (by omega)) w (nI M)
            rw [p2, p3, p4, show (4095 : Int32) = nI 4095 from rfl, b2i_d hf] at t1
            refine ⟨_, ?_, C1.u1 (k := k) (i := 1) (v := j) (by omega) fl (by omega) (by omega)⟩
            rcases (show N (8 * k) = 0 ∨ N (8 * k) = 1 by omega) with z | z <;> rw [z] at p1 ⊢
            · simp (disch := omega) only [nm, bd_s, ko_K, ka_K, koK_t, kaK_t, kr_s, kn_s, kn_n, hK_sI, hR_sI, hK_sL, hR_sL, hI_sL, hL_sI, hL_sL, hI_sI, hN_sI, hN_sL, ch_G, ch_T, nb_0, nb_1, zb_G, d_T, d_F, d_eT, d_eF, b2i_t, b2i_f, tn_nI, fa_lit, fa_litL, m1_e, nI_add, pk_mul, pk_sub, nI_leI, nI_ltI, nI_eq, le_T, le_F, lt_T, lt_F, eq_T, eq_F, if_pos, if_neg, m1_le, m1_lt', m1_gt, m1_le', m1_eq, m1_qe, b2i_eq0, in_N, in_n, in_I, ↓reduceIte, Bool.true_eq_false, Bool.false_eq_true, reduceCtorEq, decide_eq_true_eq, decide_eq_false_iff_not, Nat.not_lt, Nat.not_le, not_true_eq_false, not_false_eq_true, true_and, and_true, and_self, false_and, and_false, true_or, or_true, false_or, or_false, f_X11_move_30, f_X11_move_123, f_X11_move_84, f_X11_move_83, f_X11_move, S.k0, S.r0_2, S.r0_4, S.k81, W.k, W.r0, W.k1, W.rp, W.kp, c1, c_isStep_t hs, p7, k0, e1, S1.k0, S1.r0_2, W1.k, W1.r0, W1.k1, W1.rp, W1.kp, p1, p2, ej]
            · simp (disch := omega) only [nm, bd_s, ko_K, ka_K, koK_t, kaK_t, kr_s, kn_s, kn_n, hK_sI, hR_sI, hK_sL, hR_sL, hI_sL, hL_sI, hL_sL, hI_sI, hN_sI, hN_sL, ch_G, ch_T, nb_0, nb_1, zb_G, d_T, d_F, d_eT, d_eF, b2i_t, b2i_f, tn_nI, fa_lit, fa_litL, m1_e, nI_add, pk_mul, pk_sub, nI_leI, nI_ltI, nI_eq, le_T, le_F, lt_T, lt_F, eq_T, eq_F, if_pos, if_neg, m1_le, m1_lt', m1_gt, m1_le', m1_eq, m1_qe, b2i_eq0, in_N, in_n, in_I, ↓reduceIte, Bool.true_eq_false, Bool.false_eq_true, reduceCtorEq, decide_eq_true_eq, decide_eq_false_iff_not, Nat.not_lt, Nat.not_le, not_true_eq_false, not_false_eq_true, true_and, and_true, and_self, false_and, and_false, true_or, or_true, false_or, or_false, f_X11_move_30, f_X11_move_123, f_X11_move_84, f_X11_move_83, f_X11_move, S.k0, S.r0_2, S.r0_4, S.k81, W.k, W.r0, W.k1, W.rp, W.kp, c1, c_isStep_t hs, p7, k0, e1, S1.k0, S1.r0_2, W1.k, W1.r0, W1.k1, W1.rp, W1.kp, p1, h9, A.k, b2, t1, p2, ej]
          · have T0 := Q0.1
            have T1 := Q1.1
            have c2 := Q0.ip hr hk
            have s6 := (Q0.q (show k < 32 by omega) fl).2.2.2.2.2.2
            have m1 : hI g1 (x + 107 + 28) 4 = nI M := Q1.2.2.1.2.1
            obtain ⟨q0, q1, q2, q3, q4, q5, q6⟩ := Q1.q (show k < 32 by omega) fl
            have t2 := m_doesFit T1 (k := 8 * k) (by omega) w
            rw [m1, q1, q2, q3, show (4095 : Int32) = nI 4095 from rfl, b2i_d hf] at t2
            refine ⟨_, ?_, Q1.u1 (a := 8 * k + 1) (v := j) (by omega) (by omega)⟩
            rcases (show N (8 * k) = 0 ∨ N (8 * k) = 1 by omega) with z | z <;> rw [z] at q0 ⊢
            · simp (disch := omega) only [nm, bd_s, ko_K, ka_K, koK_t, kaK_t, kr_s, kn_s, kn_n, hK_sI, hR_sI, hK_sL, hR_sL, hI_sL, hL_sI, hL_sL, hI_sI, hN_sI, hN_sL, ch_G, ch_T, nb_0, nb_1, zb_G, d_T, d_F, d_eT, d_eF, b2i_t, b2i_f, tn_nI, fa_lit, fa_litL, m1_e, nI_add, pk_mul, pk_sub, nI_leI, nI_ltI, nI_eq, le_T, le_F, lt_T, lt_F, eq_T, eq_F, if_pos, if_neg, m1_le, m1_lt', m1_gt, m1_le', m1_eq, m1_qe, b2i_eq0, in_N, in_n, in_I, ↓reduceIte, Bool.true_eq_false, Bool.false_eq_true, reduceCtorEq, decide_eq_true_eq, decide_eq_false_iff_not, Nat.not_lt, Nat.not_le, not_true_eq_false, not_false_eq_true, true_and, and_true, and_self, false_and, and_false, true_or, or_true, false_or, or_false, f_X12_move_38, f_X12_move_134, f_X12_move_119, f_X12_move, T0.k, T0.r47, T0.k47, c2, s6, k0, m_isStep_t hs, e1, T1.k, T1.r47, T1.k47, t2, q0, q1, ej]
            · simp (disch := omega) only [nm, bd_s, ko_K, ka_K, koK_t, kaK_t, kr_s, kn_s, kn_n, hK_sI, hR_sI, hK_sL, hR_sL, hI_sL, hL_sI, hL_sL, hI_sI, hN_sI, hN_sL, ch_G, ch_T, nb_0, nb_1, zb_G, d_T, d_F, d_eT, d_eF, b2i_t, b2i_f, tn_nI, fa_lit, fa_litL, m1_e, nI_add, pk_mul, pk_sub, nI_leI, nI_ltI, nI_eq, le_T, le_F, lt_T, lt_F, eq_T, eq_F, if_pos, if_neg, m1_le, m1_lt', m1_gt, m1_le', m1_eq, m1_qe, b2i_eq0, in_N, in_n, in_I, ↓reduceIte, Bool.true_eq_false, Bool.false_eq_true, reduceCtorEq, decide_eq_true_eq, decide_eq_false_iff_not, Nat.not_lt, Nat.not_le, not_true_eq_false, not_false_eq_true, true_and, and_true, and_self, false_and, and_false, true_or, or_true, false_or, or_false, f_X12_move_38, f_X12_move_134, f_X12_move_119, f_X12_move, T0.k, T0.r47, T0.k47, c2, s6, k0, m_isStep_t hs, e1, T1.k, T1.r47, T1.k47, t2, q0, q1, ej]
        · by_cases z : N (8 * k) = 0
          · refine glueA (N' := updN N (8 * k + 1) j) (v := nI 0) C Q O hr ok1 (fun h1 e1 C1 => ?_) (fun g g1 Q0 e1 Q1 => ?_)
            · have S1 := C1.1
              have W1 := S1.now
              obtain ⟨p0, p1, p2, p3, p4, p5, p6, -⟩ := C1.2.2.2.1.cl (show k < 32 by omega) fl
              rw [z] at p1
              refine ⟨_, ?_, C1.u1 (k := k) (i := 1) (v := j) (by omega) fl (by omega) (by omega)⟩
              simp (disch := omega) only [nm, bd_s, ko_K, ka_K, koK_t, kaK_t, kr_s, kn_s, kn_n, hK_sI, hR_sI, hK_sL, hR_sL, hI_sL, hL_sI, hL_sL, hI_sI, hN_sI, hN_sL, ch_G, ch_T, nb_0, nb_1, zb_G, d_T, d_F, d_eT, d_eF, b2i_t, b2i_f, tn_nI, fa_lit, fa_litL, m1_e, nI_add, pk_mul, pk_sub, nI_leI, nI_ltI, nI_eq, le_T, le_F, lt_T, lt_F, eq_T, eq_F, if_pos, if_neg, m1_le, m1_lt', m1_gt, m1_le', m1_eq, m1_qe, b2i_eq0, in_N, in_n, in_I, ↓reduceIte, Bool.true_eq_false, Bool.false_eq_true, reduceCtorEq, decide_eq_true_eq, decide_eq_false_iff_not, Nat.not_lt, Nat.not_le, not_true_eq_false, not_false_eq_true, true_and, and_true, and_self, false_and, and_false, true_or, or_true, false_or, or_false, f_X11_move_30, f_X11_move_123, f_X11_move_84, f_X11_move_83, f_X11_move, S.k0, S.r0_2, S.r0_4, S.k81, W.k, W.r0, W.k1, W.rp, W.kp, c1, c_isStep_t hs, p7, k0, e1, S1.k0, S1.r0_2, W1.k, W1.r0, W1.k1, W1.rp, W1.kp, p1, p2, ej]
            · have T0 := Q0.1
              have T1 := Q1.1
              have c2 := Q0.ip hr hk
              have s6 := (Q0.q (show k < 32 by omega) fl).2.2.2.2.2.2
              have m1 : hI g1 (x + 107 + 28) 4 = nI M := Q1.2.2.1.2.1
              obtain ⟨q0, q1, q2, q3, q4, q5, q6⟩ := Q1.q (show k < 32 by omega) fl
              have t2 := m_doesFit T1 (k := 8 * k) (by omega) w
              rw [m1, q1, q2, q3, show (4095 : Int32) = nI 4095 from rfl, b2i_n hf] at t2
              refine ⟨_, ?_, Q1.u1 (a := 8 * k + 1) (v := j) (by omega) (by omega)⟩
              rw [z] at q0
              simp (disch := omega) only [nm, bd_s, ko_K, ka_K, koK_t, kaK_t, kr_s, kn_s, kn_n, hK_sI, hR_sI, hK_sL, hR_sL, hI_sL, hL_sI, hL_sL, hI_sI, hN_sI, hN_sL, ch_G, ch_T, nb_0, nb_1, zb_G, d_T, d_F, d_eT, d_eF, b2i_t, b2i_f, tn_nI, fa_lit, fa_litL, m1_e, nI_add, pk_mul, pk_sub, nI_leI, nI_ltI, nI_eq, le_T, le_F, lt_T, lt_F, eq_T, eq_F, if_pos, if_neg, m1_le, m1_lt', m1_gt, m1_le', m1_eq, m1_qe, b2i_eq0, in_N, in_n, in_I, ↓reduceIte, Bool.true_eq_false, Bool.false_eq_true, reduceCtorEq, decide_eq_true_eq, decide_eq_false_iff_not, Nat.not_lt, Nat.not_le, not_true_eq_false, not_false_eq_true, true_and, and_true, and_self, false_and, and_false, true_or, or_true, false_or, or_false, f_X12_move_38, f_X12_move_134, f_X12_move_119, f_X12_move, T0.k, T0.r47, T0.k47, c2, s6, k0, m_isStep_t hs, e1, T1.k, T1.r47, T1.k47, t2, q0, q1, ej]
          · have z : N (8 * k) = 1 := by omega
            have ok2 := (ok1.u0 h8 (k := k) (by omega) (by omega)).nt (w := 2) (a := k) (b := j) (by omega) (by omega) (by omega)
            have n1 : updN (updN N (8 * k + 1) j) (8 * k) 0 1377 = N 1377 := by rw [updN_o (by omega), updN_o (by omega)]
            have n2 : updN (updN N (8 * k + 1) j) (8 * k) 0 256 = N 256 := by rw [updN_o (by omega), updN_o (by omega)]
            refine glueA (N' := ntN (updN (updN N (8 * k + 1) j) (8 * k) 0) 2 k j) (v := nI 0) C Q O hr ok2 (fun h1 e1 C1 => ?_) (fun g g1 Q0 e1 Q1 => ?_)
            · have S1 := C1.1
              have W1 := S1.now
              obtain ⟨a, ha, h9, A, B⟩ := C1.run hr
              have b2 : hI h1 a 2 = nI M := B.2.1
              obtain ⟨p0, p1, p2, p3, p4, p5, p6, -⟩ := C1.2.2.2.1.cl (show k < 32 by omega) fl
              have t1 := p_keeps (W1.kp (k := k) (by omega)) w (nI M)
              rw [p2, p3, p4, show (4095 : Int32) = nI 4095 from rfl, b2i_n hf] at t1
              rw [z] at p1
              obtain ⟨C2, F2⟩ := C1.u1 (k := k) (i := 1) (v := j) (by omega) fl (by omega) (by omega)
              obtain ⟨C3, F3⟩ := C2.u1 (k := k) (i := 0) (v := 0) (by omega) (by rw [updN_o (by omega)]; exact fl) (by omega) (by omega)
              rw [Nat.add_zero (8 * k), Nat.zero_add 1] at C3
              rw [Nat.zero_add 1] at F3
              obtain ⟨h4, e4, C4, F4⟩ := C3.nt (by rw [n2]; exact okn.2.2.2.2.1) (by rw [n1]; exact okn.2.2.2.2.2.2.2.1) 2 k j
              have v4 := C4.2.2.2.1.cl (show k < 32 by omega) (by rw [ntN_lo (by omega), updN_s]; omega)
              have p41 := v4.2.1
              rw [ntN_lo (by omega), updN_s] at p41
              have W4 := C4.1.now
              refine ⟨h4, ?_, C4, (F2.trans F3).trans F4⟩
              simp (disch := omega) only [nm, bd_s, ko_K, ka_K, koK_t, kaK_t, kr_s, kn_s, kn_n, hK_sI, hR_sI, hK_sL, hR_sL, hI_sL, hL_sI, hL_sL, hI_sI, hN_sI, hN_sL, ch_G, ch_T, nb_0, nb_1, zb_G, d_T, d_F, d_eT, d_eF, b2i_t, b2i_f, tn_nI, fa_lit, fa_litL, m1_e, nI_add, pk_mul, pk_sub, nI_leI, nI_ltI, nI_eq, le_T, le_F, lt_T, lt_F, eq_T, eq_F, if_pos, if_neg, m1_le, m1_lt', m1_gt, m1_le', m1_eq, m1_qe, b2i_eq0, in_N, in_n, in_I, ↓reduceIte, Bool.true_eq_false, Bool.false_eq_true, reduceCtorEq, decide_eq_true_eq, decide_eq_false_iff_not, Nat.not_lt, Nat.not_le, not_true_eq_false, not_false_eq_true, true_and, and_true, and_self, false_and, and_false, true_or, or_true, false_or, or_false, f_X11_move_30, f_X11_move_123, f_X11_move_84, f_X11_move_83, f_X11_move, S.k0, S.r0_2, S.r0_4, S.k81, W.k, W.r0, W.k1, W.rp, W.kp, c1, c_isStep_t hs, p7, k0, e1, S1.k0, S1.r0_2, W1.k, W1.r0, W1.k1, W1.rp, W1.kp, p1, h9, A.k, b2, t1, p2, ej, e4, W4.kp, p41]
            · have T0 := Q0.1
              have T1 := Q1.1
              have c2 := Q0.ip hr hk
              have s6 := (Q0.q (show k < 32 by omega) fl).2.2.2.2.2.2
              have m1 : hI g1 (x + 107 + 28) 4 = nI M := Q1.2.2.1.2.1
              obtain ⟨q0, q1, q2, q3, q4, q5, q6⟩ := Q1.q (show k < 32 by omega) fl
              have t2 := m_doesFit T1 (k := 8 * k) (by omega) w
              rw [m1, q1, q2, q3, show (4095 : Int32) = nI 4095 from rfl, b2i_n hf] at t2
              rw [z] at q0
              obtain ⟨Q2, F2⟩ := Q1.u1 (a := 8 * k + 1) (v := j) (by omega) (by omega)
              obtain ⟨Q3, F3⟩ := Q2.u1 (a := 8 * k) (v := 0) (by omega) (by omega)
              obtain ⟨g4, e4, Q4, F4⟩ := Q3.nt (by rw [n1]; exact okn.2.2.2.2.2.2.2.1) 2 k j
              have q40 := (Q4.q (show k < 32 by omega) (by rw [ntN_lo (by omega), updN_s]; omega)).1
              rw [ntN_lo (by omega), updN_s] at q40
              have T4 := Q4.1
              refine ⟨g4, ?_, Q4, (F2.trans F3).trans F4⟩
              simp (disch := omega) only [nm, bd_s, ko_K, ka_K, koK_t, kaK_t, kr_s, kn_s, kn_n, hK_sI, hR_sI, hK_sL, hR_sL, hI_sL, hL_sI, hL_sL, hI_sI, hN_sI, hN_sL, ch_G, ch_T, nb_0, nb_1, zb_G, d_T, d_F, d_eT, d_eF, b2i_t, b2i_f, tn_nI, fa_lit, fa_litL, m1_e, nI_add, pk_mul, pk_sub, nI_leI, nI_ltI, nI_eq, le_T, le_F, lt_T, lt_F, eq_T, eq_F, if_pos, if_neg, m1_le, m1_lt', m1_gt, m1_le', m1_eq, m1_qe, b2i_eq0, in_N, in_n, in_I, ↓reduceIte, Bool.true_eq_false, Bool.false_eq_true, reduceCtorEq, decide_eq_true_eq, decide_eq_false_iff_not, Nat.not_lt, Nat.not_le, not_true_eq_false, not_false_eq_true, true_and, and_true, and_self, false_and, and_false, true_or, or_true, false_or, or_false, f_X12_move_38, f_X12_move_134, f_X12_move_119, f_X12_move, T0.k, T0.r47, T0.k47, c2, s6, k0, m_isStep_t hs, e1, T1.k, T1.r47, T1.k47, t2, q0, q1, ej, e4, T4.k, T4.r47, T4.k47, q40]
      · refine glueR (k := 3) (v := nI 0) C Q O (by omega) ?_ (fun g1 Q1 => ?_)
        · simp (disch := omega) only [nm, bd_s, ko_K, ka_K, koK_t, kaK_t, kr_s, kn_s, kn_n, hK_sI, hR_sI, hK_sL, hR_sL, hI_sL, hL_sI, hL_sL, hI_sI, hN_sI, hN_sL, ch_G, ch_T, nb_0, nb_1, zb_G, d_T, d_F, d_eT, d_eF, b2i_t, b2i_f, tn_nI, fa_lit, fa_litL, m1_e, nI_add, pk_mul, pk_sub, nI_leI, nI_ltI, nI_eq, le_T, le_F, lt_T, lt_F, eq_T, eq_F, if_pos, if_neg, m1_le, m1_lt', m1_gt, m1_le', m1_eq, m1_qe, b2i_eq0, in_N, in_n, in_I, ↓reduceIte, Bool.true_eq_false, Bool.false_eq_true, reduceCtorEq, decide_eq_true_eq, decide_eq_false_iff_not, Nat.not_lt, Nat.not_le, not_true_eq_false, not_false_eq_true, true_and, and_true, and_self, false_and, and_false, true_or, or_true, false_or, or_false, f_X11_move_30, f_X11_move_123, f_X11_move_84, f_X11_move_83, f_X11_move, S.k0, S.r0_2, W.k, W.r0, W.k1, W.rp, W.kp, c1, c_isStep_t hs, p7, k0, dn]
        · have T1 := Q1.1
          have c2 := Q1.ip hr hk
          have s6 := (Q1.q (show k < 32 by omega) fl).2.2.2.2.2.2
          have rfm := m_isRefused (k := 3) T1 (by omega)
          simp (disch := omega) only [nm, bd_s, ko_K, ka_K, koK_t, kaK_t, kr_s, kn_s, kn_n, hK_sI, hR_sI, hK_sL, hR_sL, hI_sL, hL_sI, hL_sL, hI_sI, hN_sI, hN_sL, ch_G, ch_T, nb_0, nb_1, zb_G, d_T, d_F, d_eT, d_eF, b2i_t, b2i_f, tn_nI, fa_lit, fa_litL, m1_e, nI_add, pk_mul, pk_sub, nI_leI, nI_ltI, nI_eq, le_T, le_F, lt_T, lt_F, eq_T, eq_F, if_pos, if_neg, m1_le, m1_lt', m1_gt, m1_le', m1_eq, m1_qe, b2i_eq0, in_N, in_n, in_I, ↓reduceIte, Bool.true_eq_false, Bool.false_eq_true, reduceCtorEq, decide_eq_true_eq, decide_eq_false_iff_not, Nat.not_lt, Nat.not_le, not_true_eq_false, not_false_eq_true, true_and, and_true, and_self, false_and, and_false, true_or, or_true, false_or, or_false, f_X12_move_38, f_X12_move_134, f_X12_move_119, f_X12_move, T1.k, T1.r47, T1.k47, c2, s6, k0, rfm]
    · refine glueR (k := 3) (v := nI 0) C Q O (by omega) ?_ (fun g1 Q1 => ?_)
      · simp (disch := omega) only [nm, bd_s, ko_K, ka_K, koK_t, kaK_t, kr_s, kn_s, kn_n, hK_sI, hR_sI, hK_sL, hR_sL, hI_sL, hL_sI, hL_sL, hI_sI, hN_sI, hN_sL, ch_G, ch_T, nb_0, nb_1, zb_G, d_T, d_F, d_eT, d_eF, b2i_t, b2i_f, tn_nI, fa_lit, fa_litL, m1_e, nI_add, pk_mul, pk_sub, nI_leI, nI_ltI, nI_eq, le_T, le_F, lt_T, lt_F, eq_T, eq_F, if_pos, if_neg, m1_le, m1_lt', m1_gt, m1_le', m1_eq, m1_qe, b2i_eq0, in_N, in_n, in_I, ↓reduceIte, Bool.true_eq_false, Bool.false_eq_true, reduceCtorEq, decide_eq_true_eq, decide_eq_false_iff_not, Nat.not_lt, Nat.not_le, not_true_eq_false, not_false_eq_true, true_and, and_true, and_self, false_and, and_false, true_or, or_true, false_or, or_false, f_X11_move_30, f_X11_move_123, f_X11_move_84, f_X11_move_83, f_X11_move, S.k0, c1, c_isStep_f hs, dn]
      · have T1 := Q1.1
        have c2 := Q1.ip hr hk
        have s6 := (Q1.q (show k < 32 by omega) fl).2.2.2.2.2.2
        have rfm := m_isRefused (k := 3) T1 (by omega)
        by_cases k0 : N (8 * k + 6) = 0
        · simp (disch := omega) only [nm, bd_s, ko_K, ka_K, koK_t, kaK_t, kr_s, kn_s, kn_n, hK_sI, hR_sI, hK_sL, hR_sL, hI_sL, hL_sI, hL_sL, hI_sI, hN_sI, hN_sL, ch_G, ch_T, nb_0, nb_1, zb_G, d_T, d_F, d_eT, d_eF, b2i_t, b2i_f, tn_nI, fa_lit, fa_litL, m1_e, nI_add, pk_mul, pk_sub, nI_leI, nI_ltI, nI_eq, le_T, le_F, lt_T, lt_F, eq_T, eq_F, if_pos, if_neg, m1_le, m1_lt', m1_gt, m1_le', m1_eq, m1_qe, b2i_eq0, in_N, in_n, in_I, ↓reduceIte, Bool.true_eq_false, Bool.false_eq_true, reduceCtorEq, decide_eq_true_eq, decide_eq_false_iff_not, Nat.not_lt, Nat.not_le, not_true_eq_false, not_false_eq_true, true_and, and_true, and_self, false_and, and_false, true_or, or_true, false_or, or_false, f_X12_move_38, f_X12_move_134, f_X12_move_119, f_X12_move, T1.k, T1.r47, T1.k47, c2, s6, k0, m_isStep_f hs, rfm]
        · simp (disch := omega) only [nm, bd_s, ko_K, ka_K, koK_t, kaK_t, kr_s, kn_s, kn_n, hK_sI, hR_sI, hK_sL, hR_sL, hI_sL, hL_sI, hL_sL, hI_sI, hN_sI, hN_sL, ch_G, ch_T, nb_0, nb_1, zb_G, d_T, d_F, d_eT, d_eF, b2i_t, b2i_f, tn_nI, fa_lit, fa_litL, m1_e, nI_add, pk_mul, pk_sub, nI_leI, nI_ltI, nI_eq, le_T, le_F, lt_T, lt_F, eq_T, eq_F, if_pos, if_neg, m1_le, m1_lt', m1_gt, m1_le', m1_eq, m1_qe, b2i_eq0, in_N, in_n, in_I, ↓reduceIte, Bool.true_eq_false, Bool.false_eq_true, reduceCtorEq, decide_eq_true_eq, decide_eq_false_iff_not, Nat.not_lt, Nat.not_le, not_true_eq_false, not_false_eq_true, true_and, and_true, and_self, false_and, and_false, true_or, or_true, false_or, or_false, f_X12_move_38, f_X12_move_134, f_X12_move_119, f_X12_move, T1.k, T1.r47, T1.k47, c2, s6, k0, rfm]
  · have c1 := C.np O hp
    refine glueR (k := 3) (v := nI 0) C Q O (by omega) ?_ (fun g1 Q1 => ?_)
    · simp (disch := omega) only [nm, bd_s, ko_K, ka_K, koK_t, kaK_t, kr_s, kn_s, kn_n, hK_sI, hR_sI, hK_sL, hR_sL, hI_sL, hL_sI, hL_sL, hI_sI, hN_sI, hN_sL, ch_G, ch_T, nb_0, nb_1, zb_G, d_T, d_F, d_eT, d_eF, b2i_t, b2i_f, tn_nI, fa_lit, fa_litL, m1_e, nI_add, pk_mul, pk_sub, nI_leI, nI_ltI, nI_eq, le_T, le_F, lt_T, lt_F, eq_T, eq_F, if_pos, if_neg, m1_le, m1_lt', m1_gt, m1_le', m1_eq, m1_qe, b2i_eq0, in_N, in_n, in_I, ↓reduceIte, Bool.true_eq_false, Bool.false_eq_true, reduceCtorEq, decide_eq_true_eq, decide_eq_false_iff_not, Nat.not_lt, Nat.not_le, not_true_eq_false, not_false_eq_true, true_and, and_true, and_self, false_and, and_false, true_or, or_true, false_or, or_false, f_X11_move_30, f_X11_move_123, f_X11_move_84, f_X11_move_83, f_X11_move, S.k0, c1, dn]
    · have T1 := Q1.1
      have c2 := Q1.np O hp
      have rfm := m_isRefused (k := 3) T1 (by omega)
      simp (disch := omega) only [nm, bd_s, ko_K, ka_K, koK_t, kaK_t, kr_s, kn_s, kn_n, hK_sI, hR_sI, hK_sL, hR_sL, hI_sL, hL_sI, hL_sL, hI_sI, hN_sI, hN_sL, ch_G, ch_T, nb_0, nb_1, zb_G, d_T, d_F, d_eT, d_eF, b2i_t, b2i_f, tn_nI, fa_lit, fa_litL, m1_e, nI_add, pk_mul, pk_sub, nI_leI, nI_ltI, nI_eq, le_T, le_F, lt_T, lt_F, eq_T, eq_F, if_pos, if_neg, m1_le, m1_lt', m1_gt, m1_le', m1_eq, m1_qe, b2i_eq0, in_N, in_n, in_I, ↓reduceIte, Bool.true_eq_false, Bool.false_eq_true, reduceCtorEq, decide_eq_true_eq, decide_eq_false_iff_not, Nat.not_lt, Nat.not_le, not_true_eq_false, not_false_eq_true, true_and, and_true, and_self, false_and, and_false, true_or, or_true, false_or, or_false, f_X12_move_38, f_X12_move_134, f_X12_move_119, f_X12_move, T1.k, c2, rfm]
end Mv
