section Ii
variable {h : aH} {x r tl : Nat} {tp : Nat → Nat} {rf : Nat → Int32} {ft fp : Int32} {sd : Nat} {M mem sh : Nat} {ns : Nat → List Nat} {kd : Nat → Nat} {cd : Nat → List Nat} {N : tyN} {sl : Nat → tyN} {nx c cr : Nat} {rn : Nat} {rw_ : Nat → Nat} {on_ : Nat} {ob : Nat → Nat}
theorem imC_255 (q : okN M mem sh N) (h8 : M ≤ 8) {k : Nat} (hk : k < 32) : ∀ v ∈ imC N k, v ≤ 255 := by
  obtain ⟨o0, o1, o2, o3, o4, o5, o6, o7⟩ := q.2.1 k hk
  have p8 := p2_le h8
  intro v hv
  unfold imC at hv
  by_cases z : N (8 * k) = 2
  · rw [if_pos z] at hv
    simp only [List.mem_cons, List.not_mem_nil, or_false] at hv
    omega
  · rw [if_neg z] at hv
    simp only [List.mem_cons, List.not_mem_nil, or_false] at hv
    omega
theorem imO_255 (q : okN M mem sh N) (i : Nat) : ∀ v ∈ imO N i, v ≤ 255 := by
  have q1 := q.1 (257 + 3 * i)
  have q2 := q.1 (258 + 3 * i)
  have q3 := q.1 (259 + 3 * i)
  intro v hv
  unfold imO at hv
  simp only [List.mem_cons, List.not_mem_nil, or_false] at hv
  omega
theorem ceF_255 (q : okN M mem sh N) (h8 : M ≤ 8) : ∀ j k F, k + j ≤ 32 → (∀ i, F.2 i ≤ 255) → ∀ i, (ceF N j k F).2 i ≤ 255 := by
  intro j
  induction j with
  | zero => intro k F _ h; exact h
  | succ j ih => intro k F hk h; exact ih (k + 1) _ (by omega) (apL_255 _ F (imC_255 q h8 (by omega)) h)
theorem obF_255 (q : okN M mem sh N) : ∀ j k F, (∀ i, F.2 i ≤ 255) → ∀ i, (obF N j k F).2 i ≤ 255 := by
  intro j
  induction j with
  | zero => intro k F h; exact h
  | succ j ih => intro k F h; exact ih (k + 1) _ (apL_255 _ F (imO_255 q k) h)
theorem m_cells (O : Ok (r, tl, tp, rf, ft, fp, sd) (M, mem, sh, ns, kd, cd) N (sl, nx, c, cr) (rn, rw_) (on_, ob)) (hr : r = 1) : ∀ (j k n : Nat) (F : tyE) (hh : aH), k + j = 16 + 4 * sh → CM hh (x + 107) (r, tl, tp, rf, ft, fp, sd) (M, mem, sh, ns, kd, cd) N (sl, nx, c, cr) (rn, rw_) F → F.1 = 8 * k → ∃ h1, f_X12_image_16 (n + 1 + j) (x + 107) (nI k) hh = f_X12_image_16 (n + 1) (x + 107) (nI (16 + 4 * sh)) h1 ∧ CM h1 (x + 107) (r, tl, tp, rf, ft, fp, sd) (M, mem, sh, ns, kd, cd) N (sl, nx, c, cr) (rn, rw_) (ceF N j k F) ∧ FM x hh h1 := by
  have okn := O.okn hr
  have okb := O.okb hr
  have s4 : sh ≤ 4 := okb.2.2.2.2.1
  intro j
  induction j with
  | zero =>
    intro k n F hh hk Q hF
    have hk : k = 16 + 4 * sh := by omega
    subst hk
    exact ⟨hh, rfl, Q, FM.refl x hh⟩
  | succ j ih =>
    intro k n F hh hk Q hF
    obtain ⟨on, ob'⟩ := F
    have T := Q.1
    have m5 : hI hh (x + 107 + 28) 5 = nI sh := Q.2.2.1.2.2.1
    have hF : on = 8 * k := hF
    have okp := okn.2.1 k (by omega)
    obtain ⟨h1, e1, Q1, F1⟩ := CM.cw (on_ := on) Q (k := k) (by omega) (by omega) okp.1 okp.2.1
    obtain ⟨h2, i1, i2, i3⟩ := ih (k + 1) n (apL (on, ob') (imC N k)) h1 (by omega) Q1 (by rw [apL_1, imC_l]; show on + 8 = _; omega)
    refine ⟨h2, ?_, i2, F1.trans i3⟩
    rw [← i1]
    show f_X12_image_16 ((n + 1 + j) + 1) (x + 107) (nI k) hh = _
    generalize n + 1 + j = n1
    simp (disch := omega) only [nm, bd_s, ko_K, ka_K, koK_t, kaK_t, kr_s, kn_s, kn_n, hK_sI, hR_sI, hK_sL, hR_sL, hI_sL, hL_sI, hL_sL, hI_sI, hN_sI, hN_sL, ch_G, ch_T, nb_0, nb_1, zb_G, d_T, d_F, d_eT, d_eF, b2i_t, b2i_f, tn_nI, fa_lit, fa_litL, m1_e, nI_add, pk_mul, pk_sub, nI_leI, nI_ltI, nI_eq, le_T, le_F, lt_T, lt_F, eq_T, eq_F, if_pos, if_neg, m1_le, m1_lt', m1_gt, m1_le', m1_eq, m1_qe, b2i_eq0, in_N, in_n, in_I, ↓reduceIte, Bool.true_eq_false, Bool.false_eq_true, reduceCtorEq, decide_eq_true_eq, decide_eq_false_iff_not, Nat.not_lt, Nat.not_le, not_true_eq_false, not_false_eq_true, true_and, and_true, and_self, false_and, and_false, true_or, or_true, false_or, or_false, f_X12_image_16, b_X12_image_16, f_X12_shelfMany, T.k, T.r37, T.k37, m5, e1]
theorem m_objs (O : Ok (r, tl, tp, rf, ft, fp, sd) (M, mem, sh, ns, kd, cd) N (sl, nx, c, cr) (rn, rw_) (on_, ob)) (hr : r = 1) : ∀ (j i n : Nat) (F : tyE) (hh : aH), i + j = N 256 → CM hh (x + 107) (r, tl, tp, rf, ft, fp, sd) (M, mem, sh, ns, kd, cd) N (sl, nx, c, cr) (rn, rw_) F → F.1 + 6 * j < 450 → ∃ h1, f_X12_image_53 (n + 1 + 3 * j) (x + 107) (nI (3 * i)) hh = f_X12_image_53 (n + 1) (x + 107) (nI (3 * N 256)) h1 ∧ CM h1 (x + 107) (r, tl, tp, rf, ft, fp, sd) (M, mem, sh, ns, kd, cd) N (sl, nx, c, cr) (rn, rw_) (obF N j i F) ∧ FM x hh h1 := by
  have okn := O.okn hr
  have n32 := okn.2.2.2.2.1
  intro j
  induction j with
  | zero =>
    intro i n F hh hi Q hF
    have hi : i = N 256 := by omega
    subst hi
    exact ⟨hh, rfl, Q, FM.refl x hh⟩
  | succ j ih =>
    intro i n F hh hi Q hF
    obtain ⟨on, ob'⟩ := F
    have hF : on + 6 * (j + 1) < 450 := hF
    have T := Q.1
    have e6 := Q.n (j := 256) (by omega) (by omega)
    have v1 : hI hh (x + 107 + 34) (257 + 3 * i) = nI (N (257 + 3 * i)) := Q.n (by omega) (by omega)
    obtain ⟨h1, e1, Q1, F1⟩ := CM.ad2 (on_ := on) Q (v := N (257 + 3 * i)) (by omega) (okn.1 _)
    have T1 := Q1.1
    have e61 := Q1.n (j := 256) (by omega) (by omega)
    have v2 : hI h1 (x + 107 + 34) (257 + (3 * i + 1)) = nI (N (258 + 3 * i)) := by rw [show 257 + (3 * i + 1) = 258 + 3 * i by omega]; exact Q1.n (by omega) (by omega)
    obtain ⟨h2, e2, Q2, F2⟩ := CM.ad2 (on_ := on + 2) Q1 (v := N (258 + 3 * i)) (by omega) (okn.1 _)
    have T2 := Q2.1
    have e62 := Q2.n (j := 256) (by omega) (by omega)
    have v3 : hI h2 (x + 107 + 34) (257 + (3 * i + 1 + 1)) = nI (N (259 + 3 * i)) := by rw [show 257 + (3 * i + 1 + 1) = 259 + 3 * i by omega]; exact Q2.n (by omega) (by omega)
    obtain ⟨h3, e3, Q3, F3⟩ := CM.ad2 (on_ := on + 4) Q2 (v := N (259 + 3 * i)) (by omega) (okn.1 _)
    obtain ⟨h4, i1, i2, i3⟩ := ih (i + 1) n (apL (on, ob') (imO N i)) h3 (by omega) Q3 (by rw [apL_1]; show on + 6 + 6 * j < 450; omega)
    refine ⟨h4, ?_, i2, ((F1.trans F2).trans F3).trans i3⟩
    rw [← i1, show 3 * (i + 1) = 3 * i + 1 + 1 + 1 by omega, show n + 1 + 3 * (j + 1) = n + 1 + 3 * j + 1 + 1 + 1 by omega]
    generalize n + 1 + 3 * j = n1
    generalize e3i : 3 * i = q at *
    simp (disch := omega) only [nm, bd_s, ko_K, ka_K, koK_t, kaK_t, kr_s, kn_s, kn_n, hK_sI, hR_sI, hK_sL, hR_sL, hI_sL, hL_sI, hL_sL, hI_sI, hN_sI, hN_sL, ch_G, ch_T, nb_0, nb_1, zb_G, d_T, d_F, d_eT, d_eF, b2i_t, b2i_f, tn_nI, fa_lit, fa_litL, m1_e, nI_add, pk_mul, pk_sub, nI_leI, nI_ltI, nI_eq, le_T, le_F, lt_T, lt_F, eq_T, eq_F, if_pos, if_neg, m1_le, m1_lt', m1_gt, m1_le', m1_eq, m1_qe, b2i_eq0, in_N, in_n, in_I, ↓reduceIte, Bool.true_eq_false, Bool.false_eq_true, reduceCtorEq, decide_eq_true_eq, decide_eq_false_iff_not, Nat.not_lt, Nat.not_le, not_true_eq_false, not_false_eq_true, true_and, and_true, and_self, false_and, and_false, true_or, or_true, false_or, or_false, f_X12_image_53, b_X12_image_53, f_X12_objectMany, T.k, T.r47, T.k47, e6, v1, e1, T1.k, T1.r47, T1.k47, e61, v2, e2, T2.k, T2.r47, T2.k47, e62, v3, e3]
end Ii
