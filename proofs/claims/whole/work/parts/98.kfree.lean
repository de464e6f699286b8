/-! free: bytes become nothing -/
def zF (b : Nat) : Nat → Nat → tyN → tyN
  | 0, _, N => N
  | j + 1, i, N => zF b j (i + 1) (updN N (353 + (b + i)) 0)
theorem zF_o (b : Nat) : ∀ j i N q, ¬ (353 + b + i ≤ q ∧ q < 353 + b + i + j) → zF b j i N q = N q := by
  intro j
  induction j with
  | zero => intro i N q _; rfl
  | succ j ih => intro i N q h; show zF b j (i + 1) (updN N (353 + (b + i)) 0) q = _; rw [ih _ _ _ (by omega), updN_o (by omega)]
theorem zF_i (b : Nat) : ∀ j i N q, 353 + b + i ≤ q → q < 353 + b + i + j → zF b j i N q = 0 := by
  intro j
  induction j with
  | zero => intro i N q h1 h2; omega
  | succ j ih =>
    intro i N q h1 h2
    show zF b j (i + 1) (updN N (353 + (b + i)) 0) q = 0
    by_cases z : q = 353 + (b + i)
    · rw [zF_o _ _ _ _ _ (by omega), z, updN_s]
    · exact ih _ _ _ (by omega) (by omega)
section Fz
variable {h : aH} {x r tl : Nat} {tp : Nat → Nat} {rf : Nat → Int32} {ft fp : Int32} {sd : Nat} {M mem sh : Nat} {ns : Nat → List Nat} {kd : Nat → Nat} {cd : Nat → List Nat} {N : tyN} {sl : Nat → tyN} {nx c cr : Nat} {rn : Nat} {rw_ : Nat → Nat} {on_ : Nat} {ob : Nat → Nat}
theorem c_zero {b l : Nat} (hb : b + l ≤ 1024) : ∀ (j i n : Nat) (N' : tyN) (hh : aH), i + j = l → N' 256 ≤ 32 → CX hh x (r, tl, tp, rf, ft, fp, sd) (M, mem, sh, ns, kd, cd) N' (sl, nx, c, cr) (rn, rw_) (on_, ob) → ∃ h1, f_X9_removeObject_104 (n + 1 + j) (x + 3) (nI M) (nI b) (nI l) (nI i) hh = f_X9_removeObject_129 FU (x + 3) (nI M) (nI b) (nI l) (nI 0) h1 ∧ CX h1 x (r, tl, tp, rf, ft, fp, sd) (M, mem, sh, ns, kd, cd) (zF b j i N') (sl, nx, c, cr) (rn, rw_) (on_, ob) ∧ FC x hh h1 ∧ hR h1 = hR hh := by
  intro j
  induction j with
  | zero =>
    intro i n N' hh hi n32 C
    have hi : i = l := by omega
    subst hi
    refine ⟨hh, ?_, C, FC.refl x hh, rfl⟩
    simp (disch := omega) only [nm, bd_s, ko_K, ka_K, koK_t, kaK_t, kr_s, kn_s, kn_n, hK_sI, hR_sI, hK_sL, hR_sL, hI_sL, hL_sI, hL_sL, hI_sI, hN_sI, hN_sL, ch_G, ch_T, nb_0, nb_1, zb_G, d_T, d_F, d_eT, d_eF, b2i_t, b2i_f, tn_nI, fa_lit, fa_litL, m1_e, nI_add, pk_mul, pk_sub, nI_leI, nI_ltI, nI_eq, le_T, le_F, lt_T, lt_F, eq_T, eq_F, if_pos, if_neg, m1_le, m1_lt', m1_gt, m1_le', m1_eq, m1_qe, b2i_eq0, in_N, in_n, in_I, ↓reduceIte, Bool.true_eq_false, Bool.false_eq_true, reduceCtorEq, decide_eq_true_eq, decide_eq_false_iff_not, Nat.not_lt, Nat.not_le, not_true_eq_false, not_false_eq_true, true_and, and_true, and_self, false_and, and_false, true_or, or_true, false_or, or_false, f_X9_removeObject_104, b_X9_removeObject_104]
  | succ j ih =>
    intro i n N' hh hi n32 C
    have W := C.1.now
    obtain ⟨e1, C1, F1⟩ := CX.by (N := N') C n32 (a := b + i) (v := 0) (by omega) (by omega)
    obtain ⟨h2, i1, i2, i3, i4⟩ := ih (i + 1) n _ _ (by omega) (by rw [updN_o (by omega)]; exact n32) C1
    refine ⟨h2, ?_, i2, F1.trans i3, i4⟩
    rw [← i1]
    show f_X9_removeObject_104 ((n + 1 + j) + 1) (x + 3) (nI M) (nI b) (nI l) (nI i) hh = _
    generalize n + 1 + j = n1
    generalize sI hh (x + 3 + 6) ((b + i) / 4) (wdI (hI hh (x + 3 + 6) ((b + i) / 4)) ((b + i) % 4) (nI 0)) = h5 at *
    simp (disch := omega) only [nm, bd_s, ko_K, ka_K, koK_t, kaK_t, kr_s, kn_s, kn_n, hK_sI, hR_sI, hK_sL, hR_sL, hI_sL, hL_sI, hL_sL, hI_sI, hN_sI, hN_sL, ch_G, ch_T, nb_0, nb_1, zb_G, d_T, d_F, d_eT, d_eF, b2i_t, b2i_f, tn_nI, fa_lit, fa_litL, m1_e, nI_add, pk_mul, pk_sub, nI_leI, nI_ltI, nI_eq, le_T, le_F, lt_T, lt_F, eq_T, eq_F, if_pos, if_neg, m1_le, m1_lt', m1_gt, m1_le', m1_eq, m1_qe, b2i_eq0, in_N, in_n, in_I, ↓reduceIte, Bool.true_eq_false, Bool.false_eq_true, reduceCtorEq, decide_eq_true_eq, decide_eq_false_iff_not, Nat.not_lt, Nat.not_le, not_true_eq_false, not_false_eq_true, true_and, and_true, and_self, false_and, and_false, true_or, or_true, false_or, or_false, f_X9_removeObject_104, b_X9_removeObject_104, W.k, e1]
theorem m_zero {b l k : Nat} (hb : b + l ≤ 1024) : ∀ (j i n : Nat) (N' : tyN) (hh : aH), i + j = l → CM hh (x + 107) (r, tl, tp, rf, ft, fp, sd) (M, mem, sh, ns, kd, cd) N' (sl, nx, c, cr) (rn, rw_) (on_, ob) → ∃ h1, f_X12_frees_17 (n + 1 + j) (x + 107) (nI k) (nI b) (nI l) (nI i) hh = f_X12_frees_46 FU (x + 107) (nI k) (nI b) (nI l) (nI 0) h1 ∧ CM h1 (x + 107) (r, tl, tp, rf, ft, fp, sd) (M, mem, sh, ns, kd, cd) (zF b j i N') (sl, nx, c, cr) (rn, rw_) (on_, ob) ∧ FM x hh h1 := by
  intro j
  induction j with
  | zero =>
    intro i n N' hh hi Q
    have hi : i = l := by omega
    subst hi
    refine ⟨hh, ?_, Q, FM.refl x hh⟩
    simp (disch := omega) only [nm, bd_s, ko_K, ka_K, koK_t, kaK_t, kr_s, kn_s, kn_n, hK_sI, hR_sI, hK_sL, hR_sL, hI_sL, hL_sI, hL_sL, hI_sI, hN_sI, hN_sL, ch_G, ch_T, nb_0, nb_1, zb_G, d_T, d_F, d_eT, d_eF, b2i_t, b2i_f, tn_nI, fa_lit, fa_litL, m1_e, nI_add, pk_mul, pk_sub, nI_leI, nI_ltI, nI_eq, le_T, le_F, lt_T, lt_F, eq_T, eq_F, if_pos, if_neg, m1_le, m1_lt', m1_gt, m1_le', m1_eq, m1_qe, b2i_eq0, in_N, in_n, in_I, ↓reduceIte, Bool.true_eq_false, Bool.false_eq_true, reduceCtorEq, decide_eq_true_eq, decide_eq_false_iff_not, Nat.not_lt, Nat.not_le, not_true_eq_false, not_false_eq_true, true_and, and_true, and_self, false_and, and_false, true_or, or_true, false_or, or_false, f_X12_frees_17, b_X12_frees_17]
  | succ j ih =>
    intro i n N' hh hi Q
    have T := Q.1
    obtain ⟨Q1, F1⟩ := CM.u1 (N := N') Q (a := 353 + (b + i)) (v := 0) (by omega) (by omega)
    obtain ⟨h2, i1, i2, i3⟩ := ih (i + 1) n _ _ (by omega) Q1
    refine ⟨h2, ?_, i2, F1.trans i3⟩
    rw [← i1]
    show f_X12_frees_17 ((n + 1 + j) + 1) (x + 107) (nI k) (nI b) (nI l) (nI i) hh = _
    generalize n + 1 + j = n1
    rw [← Nat.add_assoc 353 b i]
    simp (disch := omega) only [nm, bd_s, ko_K, ka_K, koK_t, kaK_t, kr_s, kn_s, kn_n, hK_sI, hR_sI, hK_sL, hR_sL, hI_sL, hL_sI, hL_sL, hI_sI, hN_sI, hN_sL, ch_G, ch_T, nb_0, nb_1, zb_G, d_T, d_F, d_eT, d_eF, b2i_t, b2i_f, tn_nI, fa_lit, fa_litL, m1_e, nI_add, pk_mul, pk_sub, nI_leI, nI_ltI, nI_eq, le_T, le_F, lt_T, lt_F, eq_T, eq_F, if_pos, if_neg, m1_le, m1_lt', m1_gt, m1_le', m1_eq, m1_qe, b2i_eq0, in_N, in_n, in_I, ↓reduceIte, Bool.true_eq_false, Bool.false_eq_true, reduceCtorEq, decide_eq_true_eq, decide_eq_false_iff_not, Nat.not_lt, Nat.not_le, not_true_eq_false, not_false_eq_true, true_and, and_true, and_self, false_and, and_false, true_or, or_true, false_or, or_false, f_X12_frees_17, b_X12_frees_17, T.k, T.r47, T.k47]
end Fz
