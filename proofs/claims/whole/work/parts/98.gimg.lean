/-! the image: all of it -/
def ceF (N : tyN) : Nat → Nat → tyE → tyE
  | 0, _, F => F
  | j + 1, k, F => ceF N j (k + 1) (apL F (imC N k))
def obF (N : tyN) : Nat → Nat → tyE → tyE
  | 0, _, F => F
  | j + 1, k, F => obF N j (k + 1) (apL F (imO N k))
theorem imC_l (N : tyN) (k : Nat) : (imC N k).length = 8 := by unfold imC; split <;> rfl
theorem ceF_1 (N : tyN) : ∀ j k F, (ceF N j k F).1 = F.1 + 8 * j := by
  intro j
  induction j with
  | zero => intro k F; rfl
  | succ j ih => intro k F; show (ceF N j (k + 1) (apL F (imC N k))).1 = _; rw [ih, apL_1, imC_l]; omega
theorem obF_1 (N : tyN) : ∀ j k F, (obF N j k F).1 = F.1 + 6 * j := by
  intro j
  induction j with
  | zero => intro k F; rfl
  | succ j ih => intro k F; show (obF N j (k + 1) (apL F (imO N k))).1 = _; rw [ih, apL_1]; show F.1 + 6 + 6 * j = _; omega
section Ig
variable {h : aH} {x r tl : Nat} {tp : Nat → Nat} {rf : Nat → Int32} {ft fp : Int32} {sd : Nat} {M mem sh : Nat} {ns : Nat → List Nat} {kd : Nat → Nat} {cd : Nat → List Nat} {N : tyN} {sl : Nat → tyN} {nx c cr : Nat} {rn : Nat} {rw_ : Nat → Nat} {on_ : Nat} {ob : Nat → Nat}
theorem c_cells (O : Ok (r, tl, tp, rf, ft, fp, sd) (M, mem, sh, ns, kd, cd) N (sl, nx, c, cr) (rn, rw_) (on_, ob)) (hr : r = 1) {a : Nat} : ∀ (j k n : Nat) (F : tyE) (hh : aH), k + j = 16 + 4 * sh → CX hh x (r, tl, tp, rf, ft, fp, sd) (M, mem, sh, ns, kd, cd) N (sl, nx, c, cr) (rn, rw_) F → hR hh x 9 = some a → F.1 = 8 * k → ∃ h1, f_X3_write_7 (n + 1 + j) (x + 90) (x + 3) a (nI k) hh = f_X3_write_7 (n + 1) (x + 90) (x + 3) a (nI (16 + 4 * sh)) h1 ∧ CX h1 x (r, tl, tp, rf, ft, fp, sd) (M, mem, sh, ns, kd, cd) N (sl, nx, c, cr) (rn, rw_) (ceF N j k F) ∧ FC x hh h1 ∧ hR h1 x 9 = some a := by
  have okn := O.okn hr
  have okb := O.okb hr
  have s4 : sh ≤ 4 := okb.2.2.2.2.1
  intro j
  induction j with
  | zero =>
    intro k n F hh hk C h9 hF
    have hk : k = 16 + 4 * sh := by omega
    subst hk
    exact ⟨hh, rfl, C, FC.refl x hh, h9⟩
  | succ j ih =>
    intro k n F hh hk C h9 hF
    obtain ⟨on, ob'⟩ := F
    have S := C.1
    have W := S.now
    obtain ⟨a', ha, h9', A, B⟩ := C.run hr
    rw [h9] at h9'
    cases h9'
    have b3 : hI hh a 3 = nI sh := B.2.2.1
    have hF : on = 8 * k := hF
    have okp := okn.2.1 k (by omega)
    obtain ⟨h1, e1, C1, F1, G1⟩ := CX.cw (on_ := on) C (k := k) (by omega) (by omega) okp.1 okp.2.1
    obtain ⟨h2, i1, i2, i3, i4⟩ := ih (k + 1) n (apL (on, ob') (imC N k)) h1 (by omega) C1 (by rw [G1]; exact h9) (by rw [apL_1, imC_l]; show on + 8 = _; omega)
    refine ⟨h2, ?_, i2, F1.trans i3, i4⟩
    rw [← i1]
    have ce : f_X3_cells a hh = some (nI (16 + 4 * sh), hh) := by
      by_cases z : 16 + 4 * sh < 32
      · simp (disch := omega) only [nm, bd_s, ko_K, ka_K, koK_t, kaK_t, kr_s, kn_s, kn_n, hK_sI, hR_sI, hK_sL, hR_sL, hI_sL, hL_sI, hL_sL, hI_sI, hN_sI, hN_sL, ch_G, ch_T, nb_0, nb_1, zb_G, d_T, d_F, d_eT, d_eF, b2i_t, b2i_f, tn_nI, fa_lit, fa_litL, m1_e, nI_add, pk_mul, pk_sub, nI_leI, nI_ltI, nI_eq, le_T, le_F, lt_T, lt_F, eq_T, eq_F, if_pos, if_neg, m1_le, m1_lt', m1_gt, m1_le', m1_eq, m1_qe, b2i_eq0, in_N, in_n, in_I, ↓reduceIte, Bool.true_eq_false, Bool.false_eq_true, reduceCtorEq, decide_eq_true_eq, decide_eq_false_iff_not, Nat.not_lt, Nat.not_le, not_true_eq_false, not_false_eq_true, true_and, and_true, and_self, false_and, and_false, true_or, or_true, false_or, or_false, f_X3_cells, A.k, b3, j_min]
      · have z : sh = 4 := by omega
        rw [z] at b3
        rw [z]
        simp (disch := omega) only [nm, bd_s, ko_K, ka_K, koK_t, kaK_t, kr_s, kn_s, kn_n, hK_sI, hR_sI, hK_sL, hR_sL, hI_sL, hL_sI, hL_sL, hI_sI, hN_sI, hN_sL, ch_G, ch_T, nb_0, nb_1, zb_G, d_T, d_F, d_eT, d_eF, b2i_t, b2i_f, tn_nI, fa_lit, fa_litL, m1_e, nI_add, pk_mul, pk_sub, nI_leI, nI_ltI, nI_eq, le_T, le_F, lt_T, lt_F, eq_T, eq_F, if_pos, if_neg, m1_le, m1_lt', m1_gt, m1_le', m1_eq, m1_qe, b2i_eq0, in_N, in_n, in_I, ↓reduceIte, Bool.true_eq_false, Bool.false_eq_true, reduceCtorEq, decide_eq_true_eq, decide_eq_false_iff_not, Nat.not_lt, Nat.not_le, not_true_eq_false, not_false_eq_true, true_and, and_true, and_self, false_and, and_false, true_or, or_true, false_or, or_false, f_X3_cells, A.k, b3, j_min]
    show f_X3_write_7 ((n + 1 + j) + 1) (x + 90) (x + 3) a (nI k) hh = _
    generalize n + 1 + j = n1
    simp (disch := omega) only [nm, bd_s, ko_K, ka_K, koK_t, kaK_t, kr_s, kn_s, kn_n, hK_sI, hR_sI, hK_sL, hR_sL, hI_sL, hL_sI, hL_sL, hI_sI, hN_sI, hN_sL, ch_G, ch_T, nb_0, nb_1, zb_G, d_T, d_F, d_eT, d_eF, b2i_t, b2i_f, tn_nI, fa_lit, fa_litL, m1_e, nI_add, pk_mul, pk_sub, nI_leI, nI_ltI, nI_eq, le_T, le_F, lt_T, lt_F, eq_T, eq_F, if_pos, if_neg, m1_le, m1_lt', m1_gt, m1_le', m1_eq, m1_qe, b2i_eq0, in_N, in_n, in_I, ↓reduceIte, Bool.true_eq_false, Bool.false_eq_true, reduceCtorEq, decide_eq_true_eq, decide_eq_false_iff_not, Nat.not_lt, Nat.not_le, not_true_eq_false, not_false_eq_true, true_and, and_true, and_self, false_and, and_false, true_or, or_true, false_or, or_false, f_X3_write_7, b_X3_write_7, ce, W.k, W.r0, W.k1, W.rp, S.k90, e1]
end Ig
