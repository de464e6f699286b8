section Al3
variable {h : aH} {x r tl : Nat} {tp : Nat → Nat} {rf : Nat → Int32} {ft fp : Int32} {sd : Nat} {M mem sh : Nat} {ns : Nat → List Nat} {kd : Nat → Nat} {cd : Nat → List Nat} {N : tyN} {sl : Nat → tyN} {nx c cr : Nat} {rn : Nat} {rw_ : Nat → Nat} {on_ : Nat} {ob : Nat → Nat}
theorem se_w {w : Nat} : w ≤ lnS M cd w := by
  have := le_upN (w + pdN cd w) (exS M cd w)
  unfold lnS; omega
theorem S_alloc (C : CX h x (r, tl, tp, rf, ft, fp, sd) (M, mem, sh, ns, kd, cd) N (sl, nx, c, cr) (rn, rw_) (on_, ob)) (Q : CM h (x + 107) (r, tl, tp, rf, ft, fp, sd) (M, mem, sh, ns, kd, cd) N (sl, nx, c, cr) (rn, rw_) (on_, ob)) (O : Ok (r, tl, tp, rf, ft, fp, sd) (M, mem, sh, ns, kd, cd) N (sl, nx, c, cr) (rn, rw_) (on_, ob)) (p v : Int32) : SM Int32 x h (f_X11_alloc x p v) (f_X12_alloc (x + 107) p v) := by
  have S := C.1
  have rfx := c_refuse (k := 2) S (by omega)
  by_cases hp : r = 1 ∧ ∃ k, k < 16 ∧ p = nI k
  · obtain ⟨hr, k, hk, rfl⟩ := hp
    have c1 := C.ip hr hk
    have okn := O.okn hr
    obtain ⟨h4, h8, -, mm, -⟩ := O.okb hr
    obtain ⟨a, ha, h9, A, B⟩ := C.run hr
    obtain ⟨C1, F1⟩ := C.sc1 (h1 := sI h (x + 86) 0 (-nI 1)) (FX.sI (by unfold SC; omega)) rfl rfl
    have no : ∀ h1, f_X1_search (x + 86) a v h = some (nI 0, h1) → CX h1 x (r, tl, tp, rf, ft, fp, sd) (M, mem, sh, ns, kd, cd) N (sl, nx, c, cr) (rn, rw_) (on_, ob) → FC x h h1 → (∀ g, CM g (x + 107) (r, tl, tp, rf, ft, fp, sd) (M, mem, sh, ns, kd, cd) N (sl, nx, c, cr) (rn, rw_) (on_, ob) → ∃ g1, f_X12_alloc (x + 107) (nI k) v g = f_X12_alloc_30 (x + 107) (nI k) v (-nI 1) g1 ∧ CM g1 (x + 107) (r, tl, tp, rf, ft, fp, sd) (M, mem, sh, ns, kd, cd) N (sl, nx, c, cr) (rn, rw_) (on_, ob) ∧ FM x g g1) → SM Int32 x h (f_X11_alloc x (nI k) v) (f_X12_alloc (x + 107) (nI k) v) := by
      intro h1 e1 C1 F1 hm
      have S1 := C1.1
      have rfx := c_refuse (k := 2) S1 (by omega)
      obtain ⟨C2, F2⟩ := C1.rfd (k := 2) (by omega)
      refine glue Q (v := -nI 1) ⟨_, ?_, C2, F1.trans F2⟩ (fun g Q0 => ?_) O.rfd
      · simp (disch := omega) only [nm, bd_s, ko_K, ka_K, koK_t, kaK_t, kr_s, kn_s, kn_n, hK_sI, hR_sI, hK_sL, hR_sL, hI_sL, hL_sI, hL_sL, hI_sI, hN_sI, hN_sL, ch_G, ch_T, nb_0, nb_1, zb_G, d_T, d_F, d_eT, d_eF, b2i_t, b2i_f, tn_nI, fa_lit, fa_litL, m1_e, nI_add, pk_mul, pk_sub, nI_leI, nI_ltI, nI_eq, le_T, le_F, lt_T, lt_F, eq_T, eq_F, if_pos, if_neg, m1_le, m1_lt', m1_gt, m1_le', m1_eq, m1_qe, b2i_eq0, in_N, in_n, in_I, ↓reduceIte, Bool.true_eq_false, Bool.false_eq_true, reduceCtorEq, decide_eq_true_eq, decide_eq_false_iff_not, Nat.not_lt, Nat.not_le, not_true_eq_false, not_false_eq_true, true_and, and_true, and_self, false_and, and_false, true_or, or_true, false_or, or_false, f_X11_alloc_23, f_X11_alloc, S.k0, c1, S.r0_6, S.k86, h9, e1, S1.k0, rfx]
      · obtain ⟨g1, e2, Q1, F3⟩ := hm g Q0
        obtain ⟨Q2, F4⟩ := Q1.rfd (k := 2) (by omega)
        have T1 := Q1.1
        have rfm := m_refuses (k := 2) T1 (by omega)
        refine ⟨_, ?_, Q2, F3.trans F4⟩
        rw [e2]
        simp (disch := omega) only [nm, bd_s, ko_K, ka_K, koK_t, kaK_t, kr_s, kn_s, kn_n, hK_sI, hR_sI, hK_sL, hR_sL, hI_sL, hL_sI, hL_sL, hI_sI, hN_sI, hN_sL, ch_G, ch_T, nb_0, nb_1, zb_G, d_T, d_F, d_eT, d_eF, b2i_t, b2i_f, tn_nI, fa_lit, fa_litL, m1_e, nI_add, pk_mul, pk_sub, nI_leI, nI_ltI, nI_eq, le_T, le_F, lt_T, lt_F, eq_T, eq_F, if_pos, if_neg, m1_le, m1_lt', m1_gt, m1_le', m1_eq, m1_qe, b2i_eq0, in_N, in_n, in_I, ↓reduceIte, Bool.true_eq_false, Bool.false_eq_true, reduceCtorEq, decide_eq_true_eq, decide_eq_false_iff_not, Nat.not_lt, Nat.not_le, not_true_eq_false, not_false_eq_true, true_and, and_true, and_self, false_and, and_false, true_or, or_true, false_or, or_false, f_X12_alloc_30, T1.k, rfm]
    rcases pk_ix v (n := 1025) (by omega) with hw | hw | ⟨w, hw, rfl⟩
    · have z1 : (v < nI 1) = True := eq_true (Int32.lt_trans hw (by decide))
      refine no _ ?_ C1 F1 (fun g Q0 => ⟨g, ?_, Q0, FM.refl x g⟩)
      · simp (disch := omega) only [nm, bd_s, ko_K, ka_K, koK_t, kaK_t, kr_s, kn_s, kn_n, hK_sI, hR_sI, hK_sL, hR_sL, hI_sL, hL_sI, hL_sL, hI_sI, hN_sI, hN_sL, ch_G, ch_T, nb_0, nb_1, zb_G, d_T, d_F, d_eT, d_eF, b2i_t, b2i_f, tn_nI, fa_lit, fa_litL, m1_e, nI_add, pk_mul, pk_sub, nI_leI, nI_ltI, nI_eq, le_T, le_F, lt_T, lt_F, eq_T, eq_F, if_pos, if_neg, m1_le, m1_lt', m1_gt, m1_le', m1_eq, m1_qe, b2i_eq0, in_N, in_n, in_I, ↓reduceIte, Bool.true_eq_false, Bool.false_eq_true, reduceCtorEq, decide_eq_true_eq, decide_eq_false_iff_not, Nat.not_lt, Nat.not_le, not_true_eq_false, not_false_eq_true, true_and, and_true, and_self, false_and, and_false, true_or, or_true, false_or, or_false, f_X1_search_29, f_X1_search_181, f_X1_search_165, f_X1_search_200, b_X1_search_70, f_X1_search_70, f_X1_search, S.k86, z1]
      · have T := Q0.1
        have c2 := Q0.ip hr hk
        simp (disch := omega) only [nm, bd_s, ko_K, ka_K, koK_t, kaK_t, kr_s, kn_s, kn_n, hK_sI, hR_sI, hK_sL, hR_sL, hI_sL, hL_sI, hL_sL, hI_sI, hN_sI, hN_sL, ch_G, ch_T, nb_0, nb_1, zb_G, d_T, d_F, d_eT, d_eF, b2i_t, b2i_f, tn_nI, fa_lit, fa_litL, m1_e, nI_add, pk_mul, pk_sub, nI_leI, nI_ltI, nI_eq, le_T, le_F, lt_T, lt_F, eq_T, eq_F, if_pos, if_neg, m1_le, m1_lt', m1_gt, m1_le', m1_eq, m1_qe, b2i_eq0, in_N, in_n, in_I, ↓reduceIte, Bool.true_eq_false, Bool.false_eq_true, reduceCtorEq, decide_eq_true_eq, decide_eq_false_iff_not, Nat.not_lt, Nat.not_le, not_true_eq_false, not_false_eq_true, true_and, and_true, and_self, false_and, and_false, true_or, or_true, false_or, or_false, f_X12_alloc, f_X12_alloc_29, T.k, c2, ng_lt' hw, ng_le' hw, ng_le hw, ng_lt hw, ng_eq hw, ng_qe hw, in_g hw, in_gN hw]
    · refine no _ ?_ C1 F1 (fun g Q0 => ⟨g, ?_, Q0, FM.refl x g⟩)
      · simp (disch := omega) only [nm, bd_s, ko_K, ka_K, koK_t, kaK_t, kr_s, kn_s, kn_n, hK_sI, hR_sI, hK_sL, hR_sL, hI_sL, hL_sI, hL_sL, hI_sI, hN_sI, hN_sL, ch_G, ch_T, nb_0, nb_1, zb_G, d_T, d_F, d_eT, d_eF, b2i_t, b2i_f, tn_nI, fa_lit, fa_litL, m1_e, nI_add, pk_mul, pk_sub, nI_leI, nI_ltI, nI_eq, le_T, le_F, lt_T, lt_F, eq_T, eq_F, if_pos, if_neg, m1_le, m1_lt', m1_gt, m1_le', m1_eq, m1_qe, b2i_eq0, in_N, in_n, in_I, ↓reduceIte, Bool.true_eq_false, Bool.false_eq_true, reduceCtorEq, decide_eq_true_eq, decide_eq_false_iff_not, Nat.not_lt, Nat.not_le, not_true_eq_false, not_false_eq_true, true_and, and_true, and_self, false_and, and_false, true_or, or_true, false_or, or_false, f_X1_search_29, f_X1_search_181, f_X1_search_165, f_X1_search_200, b_X1_search_70, f_X1_search_70, f_X1_search, S.k86, bg_lt hw, bg_gt hw]
      · have T := Q0.1
        have c2 := Q0.ip hr hk
        simp (disch := omega) only [nm, bd_s, ko_K, ka_K, koK_t, kaK_t, kr_s, kn_s, kn_n, hK_sI, hR_sI, hK_sL, hR_sL, hI_sL, hL_sI, hL_sL, hI_sI, hN_sI, hN_sL, ch_G, ch_T, nb_0, nb_1, zb_G, d_T, d_F, d_eT, d_eF, b2i_t, b2i_f, tn_nI, fa_lit, fa_litL, m1_e, nI_add, pk_mul, pk_sub, nI_leI, nI_ltI, nI_eq, le_T, le_F, lt_T, lt_F, eq_T, eq_F, if_pos, if_neg, m1_le, m1_lt', m1_gt, m1_le', m1_eq, m1_qe, b2i_eq0, in_N, in_n, in_I, ↓reduceIte, Bool.true_eq_false, Bool.false_eq_true, reduceCtorEq, decide_eq_true_eq, decide_eq_false_iff_not, Nat.not_lt, Nat.not_le, not_true_eq_false, not_false_eq_true, true_and, and_true, and_self, false_and, and_false, true_or, or_true, false_or, or_false, f_X12_alloc, f_X12_alloc_29, T.k, c2, in_bN hw]
    · by_cases w0 : w = 0
      · subst w0
        refine no _ ?_ C1 F1 (fun g Q0 => ⟨g, ?_, Q0, FM.refl x g⟩)
        · simp (disch := omega) only [nm, bd_s, ko_K, ka_K, koK_t, kaK_t, kr_s, kn_s, kn_n, hK_sI, hR_sI, hK_sL, hR_sL, hI_sL, hL_sI, hL_sL, hI_sI, hN_sI, hN_sL, ch_G, ch_T, nb_0, nb_1, zb_G, d_T, d_F, d_eT, d_eF, b2i_t, b2i_f, tn_nI, fa_lit, fa_litL, m1_e, nI_add, pk_mul, pk_sub, nI_leI, nI_ltI, nI_eq, le_T, le_F, lt_T, lt_F, eq_T, eq_F, if_pos, if_neg, m1_le, m1_lt', m1_gt, m1_le', m1_eq, m1_qe, b2i_eq0, in_N, in_n, in_I, ↓reduceIte, Bool.true_eq_false, Bool.false_eq_true, reduceCtorEq, decide_eq_true_eq, decide_eq_false_iff_not, Nat.not_lt, Nat.not_le, not_true_eq_false, not_false_eq_true, true_and, and_true, and_self, false_and, and_false, true_or, or_true, false_or, or_false, f_X1_search_29, f_X1_search_181, f_X1_search_165, f_X1_search_200, b_X1_search_70, f_X1_search_70, f_X1_search, S.k86]
        · have T := Q0.1
          have c2 := Q0.ip hr hk
          have lz : (lg_cmp (nI 0).toInt64 (lN 1) < nI 0) = True := eq_true (by decide)
          simp (disch := omega) only [nm, bd_s, ko_K, ka_K, koK_t, kaK_t, kr_s, kn_s, kn_n, hK_sI, hR_sI, hK_sL, hR_sL, hI_sL, hL_sI, hL_sL, hI_sI, hN_sI, hN_sL, ch_G, ch_T, nb_0, nb_1, zb_G, d_T, d_F, d_eT, d_eF, b2i_t, b2i_f, tn_nI, fa_lit, fa_litL, m1_e, nI_add, pk_mul, pk_sub, nI_leI, nI_ltI, nI_eq, le_T, le_F, lt_T, lt_F, eq_T, eq_F, if_pos, if_neg, m1_le, m1_lt', m1_gt, m1_le', m1_eq, m1_qe, b2i_eq0, in_N, in_n, in_I, ↓reduceIte, Bool.true_eq_false, Bool.false_eq_true, reduceCtorEq, decide_eq_true_eq, decide_eq_false_iff_not, Nat.not_lt, Nat.not_le, not_true_eq_false, not_false_eq_true, true_and, and_true, and_self, false_and, and_false, true_or, or_true, false_or, or_false, f_X12_alloc, f_X12_alloc_29, f_X12_isIn_18, f_X12_isIn_17, f_X12_isIn, T.k, c2, lz]
      · obtain ⟨h1, i1, i2, i3, i4, i5, i6⟩ := c_search C O hr (a := a) (w := w) h9 (by omega) (by omega)
        cases q : seS M mem cd N w with
        | none =>
          rw [q] at i1
          refine no h1 i1 i2 i3 (fun g Q0 => ?_)
          obtain ⟨g1, j1, j2, j3⟩ := m_roomFor Q0 O hr (w := w) (by omega) (by omega)
          rw [q] at j1
          have j1 : f_X12_roomFor (x + 107) (nI w) g = some (-nI 1, g1) := j1
          have T := Q0.1
          have c2 := Q0.ip hr hk
          refine ⟨g1, ?_, j2, j3⟩
          simp (disch := omega) only [nm, bd_s, ko_K, ka_K, koK_t, kaK_t, kr_s, kn_s, kn_n, hK_sI, hR_sI, hK_sL, hR_sL, hI_sL, hL_sI, hL_sL, hI_sI, hN_sI, hN_sL, ch_G, ch_T, nb_0, nb_1, zb_G, d_T, d_F, d_eT, d_eF, b2i_t, b2i_f, tn_nI, fa_lit, fa_litL, m1_e, nI_add, pk_mul, pk_sub, nI_leI, nI_ltI, nI_eq, le_T, le_F, lt_T, lt_F, eq_T, eq_F, if_pos, if_neg, m1_le, m1_lt', m1_gt, m1_le', m1_eq, m1_qe, b2i_eq0, in_N, in_n, in_I, ↓reduceIte, Bool.true_eq_false, Bool.false_eq_true, reduceCtorEq, decide_eq_true_eq, decide_eq_false_iff_not, Nat.not_lt, Nat.not_le, not_true_eq_false, not_false_eq_true, true_and, and_true, and_self, false_and, and_false, true_or, or_true, false_or, or_false, f_X12_alloc, f_X12_alloc_29, T.k, c2, j1]
        | some s =>
          obtain ⟨g, b, rk⟩ := s
          obtain ⟨n32, hg, b1, b2⟩ := se_ok okn q
          obtain ⟨y1, y2, y3⟩ := ln_b (M := M) (cd := cd) (w := w) h4 (by omega) (by omega)
          have b3 := (okn.gt hg).2
          rw [q] at i1 i5 i6
          have i1 : f_X1_search (x + 86) a (nI w) h = some (nI 1, h1) := i1
          have i6 := i6 rfl
          have S1 := i2.1
          have oka := okn.al h4 h8 mm (k := k) (w := w) hk n32 hg b1 b2 (by omega) se_w
          have n1 := ne1 (n := b) (by omega)
          obtain ⟨n40, -, -⟩ := O.n0
          obtain ⟨h2, e2, C2, F2⟩ := i2.keep (by omega) n40
          have k86 := i2.keep86 e2
          obtain ⟨h3, e3, C3, F3, v3⟩ := c_allocate C2 okn hr h4 h8 (k := k) (g := g) (b := b) (l := lnS M cd w) (w := w) hk n32 hg (by omega) ((k86 0).trans i5.1) ((k86 1).trans i5.2.1) ((k86 2).trans i6)
          have S2 := C2.1
          have S3 := C3.1
          refine glue Q (v := nI b) ⟨h3, ?_, C3, (i3.trans F2).trans F3⟩ (fun g0 Q0 => ?_) ?_
          · simp (disch := omega) only [nm, bd_s, ko_K, ka_K, koK_t, kaK_t, kr_s, kn_s, kn_n, hK_sI, hR_sI, hK_sL, hR_sL, hI_sL, hL_sI, hL_sL, hI_sI, hN_sI, hN_sL, ch_G, ch_T, nb_0, nb_1, zb_G, d_T, d_F, d_eT, d_eF, b2i_t, b2i_f, tn_nI, fa_lit, fa_litL, m1_e, nI_add, pk_mul, pk_sub, nI_leI, nI_ltI, nI_eq, le_T, le_F, lt_T, lt_F, eq_T, eq_F, if_pos, if_neg, m1_le, m1_lt', m1_gt, m1_le', m1_eq, m1_qe, b2i_eq0, in_N, in_n, in_I, ↓reduceIte, Bool.true_eq_false, Bool.false_eq_true, reduceCtorEq, decide_eq_true_eq, decide_eq_false_iff_not, Nat.not_lt, Nat.not_le, not_true_eq_false, not_false_eq_true, true_and, and_true, and_self, false_and, and_false, true_or, or_true, false_or, or_false, f_X11_alloc_23, f_X11_alloc, S.k0, c1, S.r0_6, S.k86, h9, i1, S1.k0, S1.r0_4, S1.r0_2, S1.k81, e2, S2.k0, e3, S3.k0, S3.r0_6, S3.k86, v3]
          · obtain ⟨g1, j1, j2, j3, j4⟩ := m_roomFor2 Q0 O hr (w := w) (by omega) (by omega)
            rw [q] at j1
            have j1 : f_X12_roomFor (x + 107) (nI w) g0 = some (nI b, g1) := j1
            have j4 := j4 n32
            have T := Q0.1
            have T1 := j2.1
            have c2 := Q0.ip hr hk
            obtain ⟨e4, Q2, F4⟩ := j2.keep2 C.dok
            have m57 : hI (kpM g1 (x + 107) nx c) (x + 107) 57 = nI (lnS M cd w) := (kp_f (by omega) (by omega)).trans j4
            obtain ⟨g3, e5, Q3, F5⟩ := m_allocates Q2 okn h4 h8 mm (k := k) (g := g) (b := b) (l := lnS M cd w) (w := w) hk hg n32 y2 b1 b2 m57
            have T2 := Q2.1
            refine ⟨g3, ?_, Q3, (j3.trans F4).trans F5⟩
            generalize kpM g1 (x + 107) nx c = g2 at *
            simp (disch := omega) only [nm, bd_s, ko_K, ka_K, koK_t, kaK_t, kr_s, kn_s, kn_n, hK_sI, hR_sI, hK_sL, hR_sL, hI_sL, hL_sI, hL_sL, hI_sI, hN_sI, hN_sL, ch_G, ch_T, nb_0, nb_1, zb_G, d_T, d_F, d_eT, d_eF, b2i_t, b2i_f, tn_nI, fa_lit, fa_litL, m1_e, nI_add, pk_mul, pk_sub, nI_leI, nI_ltI, nI_eq, le_T, le_F, lt_T, lt_F, eq_T, eq_F, if_pos, if_neg, m1_le, m1_lt', m1_gt, m1_le', m1_eq, m1_qe, b2i_eq0, in_N, in_n, in_I, ↓reduceIte, Bool.true_eq_false, Bool.false_eq_true, reduceCtorEq, decide_eq_true_eq, decide_eq_false_iff_not, Nat.not_lt, Nat.not_le, not_true_eq_false, not_false_eq_true, true_and, and_true, and_self, false_and, and_false, true_or, or_true, false_or, or_false, f_X12_alloc, f_X12_alloc_30, T.k, c2, j1, n1, T1.k, e4, T2.k, e5]
          · have okd := O.keep hr C.dok
            have okb' := O.okb hr
            obtain ⟨o1, o2, o3, -⟩ := O
            exact ⟨o1, o2, o3, Or.inr ⟨hr, okb', oka, okd⟩⟩
  · have c1 := C.np O hp
    refine glueR (k := 2) (v := -nI 1) C Q O (by omega) ?_ (fun g1 Q1 => ?_)
    · simp (disch := omega) only [nm, bd_s, ko_K, ka_K, koK_t, kaK_t, kr_s, kn_s, kn_n, hK_sI, hR_sI, hK_sL, hR_sL, hI_sL, hL_sI, hL_sL, hI_sI, hN_sI, hN_sL, ch_G, ch_T, nb_0, nb_1, zb_G, d_T, d_F, d_eT, d_eF, b2i_t, b2i_f, tn_nI, fa_lit, fa_litL, m1_e, nI_add, pk_mul, pk_sub, nI_leI, nI_ltI, nI_eq, le_T, le_F, lt_T, lt_F, eq_T, eq_F, if_pos, if_neg, m1_le, m1_lt', m1_gt, m1_le', m1_eq, m1_qe, b2i_eq0, in_N, in_n, in_I, ↓reduceIte, Bool.true_eq_false, Bool.false_eq_true, reduceCtorEq, decide_eq_true_eq, decide_eq_false_iff_not, Nat.not_lt, Nat.not_le, not_true_eq_false, not_false_eq_true, true_and, and_true, and_self, false_and, and_false, true_or, or_true, false_or, or_false, f_X11_alloc_23, f_X11_alloc, S.k0, c1, rfx]
    · have T1 := Q1.1
      have c2 := Q1.np O hp
      have rfm := m_refuses (k := 2) T1 (by omega)
      simp (disch := omega) only [nm, bd_s, ko_K, ka_K, koK_t, kaK_t, kr_s, kn_s, kn_n, hK_sI, hR_sI, hK_sL, hR_sL, hI_sL, hL_sI, hL_sL, hI_sI, hN_sI, hN_sL, ch_G, ch_T, nb_0, nb_1, zb_G, d_T, d_F, d_eT, d_eF, b2i_t, b2i_f, tn_nI, fa_lit, fa_litL, m1_e, nI_add, pk_mul, pk_sub, nI_leI, nI_ltI, nI_eq, le_T, le_F, lt_T, lt_F, eq_T, eq_F, if_pos, if_neg, m1_le, m1_lt', m1_gt, m1_le', m1_eq, m1_qe, b2i_eq0, in_N, in_n, in_I, ↓reduceIte, Bool.true_eq_false, Bool.false_eq_true, reduceCtorEq, decide_eq_true_eq, decide_eq_false_iff_not, Nat.not_lt, Nat.not_le, not_true_eq_false, not_false_eq_true, true_and, and_true, and_self, false_and, and_false, true_or, or_true, false_or, or_false, f_X12_alloc_30, f_X12_alloc_29, f_X12_alloc, T1.k, c2, rfm]
end Al3
