section On6
variable {h : aH} {x r tl : Nat} {tp : Nat → Nat} {rf : Nat → Int32} {ft fp : Int32} {sd : Nat} {M mem sh : Nat} {ns : Nat → List Nat} {kd : Nat → Nat} {cd : Nat → List Nat} {N : tyN} {sl : Nat → tyN} {nx c cr : Nat} {rn : Nat} {rw_ : Nat → Nat} {on_ : Nat} {ob : Nat → Nat}
theorem c_read (C : CX h x (r, 0, tp, rf, ft, fp, sd) (M, mem, sh, ns, kd, cd) N (sl, nx, c, cr) (rn, rw_) (on_, ob)) (O : Ok (r, tl, tp, rf, ft, fp, sd) (M, mem, sh, ns, kd, cd) N (sl, nx, c, cr) (rn, rw_) (on_, ob)) (hr : r = 1) {a : Nat} (h9 : hR h x 9 = some a) : ∃ h1, FX x (DR x) h h1 ∧ hR h1 = hR h ∧ hL h1 = hL h ∧ (imP M mem sh kd tp tl → f_X3_read (x + 1) (nI tl) (x + 42) a h = some (nI 1, h1) ∧ RS h1 (x + 42) (onN sh tp N)) ∧ (¬ imP M mem sh kd tp tl → f_X3_read (x + 1) (nI tl) (x + 42) a h = some (nI 0, h1)) := by
  obtain ⟨h4, h8, -, mm, s4, -⟩ := O.okb hr
  have okn := O.okn hr
  have tb : ∀ j, tp j ≤ 255 := O.1.2.1
  have t16 : tl ≤ 1600 := O.1.1
  have S := C.1
  have W := S.draft
  have hb := C.2.1.2.2.1
  obtain ⟨a', ha, h9', A, B⟩ := C.run hr
  rw [h9] at h9'
  cases h9'
  have b3 : hI h a 3 = nI sh := B.2.2.1
  have ce : f_X3_cells a h = some (nI (16 + 4 * sh), h) := by
    simp (disch := omega) only [nm, bd_s, ko_K, ka_K, koK_t, kaK_t, kr_s, kn_s, kn_n, hK_sI, hR_sI, hK_sL, hR_sL, hI_sL, hL_sI, hL_sL, hI_sI, hN_sI, hN_sL, ch_G, ch_T, nb_0, nb_1, zb_G, d_T, d_F, d_eT, d_eF, b2i_t, b2i_f, tn_nI, fa_lit, fa_litL, m1_e, nI_add, pk_mul, pk_sub, nI_leI, nI_ltI, nI_eq, le_T, le_F, lt_T, lt_F, eq_T, eq_F, if_pos, if_neg, m1_le, m1_lt', m1_gt, m1_le', m1_eq, m1_qe, b2i_eq0, in_N, in_n, in_I, ↓reduceIte, Bool.true_eq_false, Bool.false_eq_true, reduceCtorEq, decide_eq_true_eq, decide_eq_false_iff_not, Nat.not_lt, Nat.not_le, not_true_eq_false, not_false_eq_true, true_and, and_true, and_self, false_and, and_false, true_or, or_true, false_or, or_false, f_X3_cells, A.k, b3, j_min]
    by_cases z : sh = 4
    · subst z; rfl
    · simp (disch := omega) only [nm, bd_s, ko_K, ka_K, koK_t, kaK_t, kr_s, kn_s, kn_n, hK_sI, hR_sI, hK_sL, hR_sL, hI_sL, hL_sI, hL_sL, hI_sI, hN_sI, hN_sL, ch_G, ch_T, nb_0, nb_1, zb_G, d_T, d_F, d_eT, d_eF, b2i_t, b2i_f, tn_nI, fa_lit, fa_litL, m1_e, nI_add, pk_mul, pk_sub, nI_leI, nI_ltI, nI_eq, le_T, le_F, lt_T, lt_F, eq_T, eq_F, if_pos, if_neg, m1_le, m1_lt', m1_gt, m1_le', m1_eq, m1_qe, b2i_eq0, in_N, in_n, in_I, ↓reduceIte, Bool.true_eq_false, Bool.false_eq_true, reduceCtorEq, decide_eq_true_eq, decide_eq_false_iff_not, Nat.not_lt, Nat.not_le, not_true_eq_false, not_false_eq_true, true_and, and_true, and_self, false_and, and_false, true_or, or_true, false_or, or_false, ]
  have e3 : ∀ j, j < 1600 → hI h (x + 1) j &&& nI 255 = nI (tp j) := fun j hj => by
    rw [hb j hj]
    have := bp_b (nI (tp j))
    rw [show (255 : Int32) = nI 255 from rfl] at this
    rw [this, an_255, Nat.mod_eq_of_lt (by have := tb j; omega)]
  have e16 : Int32.ofNat 1600 = nI 1600 := rfl
  have no : ¬ imP M mem sh kd tp tl → f_X3_read (x + 1) (nI tl) (x + 42) a h = some (nI 0, h) → ∃ h1, FX x (DR x) h h1 ∧ hR h1 = hR h ∧ hL h1 = hL h ∧ (imP M mem sh kd tp tl → f_X3_read (x + 1) (nI tl) (x + 42) a h = some (nI 1, h1) ∧ RS h1 (x + 42) (onN sh tp N)) ∧ (¬ imP M mem sh kd tp tl → f_X3_read (x + 1) (nI tl) (x + 42) a h = some (nI 0, h1)) := fun np e => ⟨h, FX.refl _ _ _, rfl, rfl, fun z => absurd z np, fun _ => e⟩
  by_cases c1 : 8 * (16 + 4 * sh) + 2 ≤ tl
  · obtain ⟨ck, -⟩ := c_ckT S hb tb (n := tl - 1) (by omega)
    have ckl := c_ckT_lt tb (n := tl - 1)
    have vl := e3 (tl - 1) (by omega)
    have vo := e3 (8 * (16 + 4 * sh)) (by omega)
    have b1 := tb (tl - 1)
    have b2 := tb (8 * (16 + 4 * sh))
    have e1 : nI tl - 1 = nI (tl - 1) := pk_sub (b := 1) (by omega)
    have ck : f_X3_check (x + 1) (nI tl - 1) h = some (nI (ckN tp (tl - 1)), h) := by rw [e1]; exact ck
    by_cases c2 : tp (8 * (16 + 4 * sh)) ≤ 32
    · by_cases c3 : tl = 8 * (16 + 4 * sh) + 6 * tp (8 * (16 + 4 * sh)) + 2
      · by_cases c4 : ckN tp (tl - 1) = tp (tl - 1)
        · rw [c4] at ck
          have cs := s_clear W
          have fx : FX x (DR x) h (clS h (x + 42)) := ⟨rfl, fun _ _ _ => rfl, rfl, rfl, fun b j q => clS_o (fun z => q (by unfold DR; omega)), fun _ _ _ => rfl⟩
          have pre : f_X3_read (x + 1) (nI tl) (x + 42) a h = f_X3_read_90 FU (x + 1) (x + 42) a (nI (16 + 4 * sh)) (nI (tp (8 * (16 + 4 * sh)))) (nI 0) (clS h (x + 42)) := by
            obtain ⟨o, ho⟩ : ∃ o, o = tp (8 * (16 + 4 * sh)) := ⟨_, rfl⟩
            rw [← ho] at vo c2 c3 ⊢
            simp (disch := omega) only [nm, bd_s, ko_K, ka_K, koK_t, kaK_t, kr_s, kn_s, kn_n, hK_sI, hR_sI, hK_sL, hR_sL, hI_sL, hL_sI, hL_sL, hI_sI, hN_sI, hN_sL, ch_G, ch_T, nb_0, nb_1, zb_G, d_T, d_F, d_eT, d_eF, b2i_t, b2i_f, tn_nI, fa_lit, fa_litL, m1_e, nI_add, pk_mul, pk_sub, nI_leI, nI_ltI, nI_eq, le_T, le_F, lt_T, lt_F, eq_T, eq_F, if_pos, if_neg, m1_le, m1_lt', m1_gt, m1_le', m1_eq, m1_qe, b2i_eq0, in_N, in_n, in_I, ↓reduceIte, Bool.true_eq_false, Bool.false_eq_true, reduceCtorEq, decide_eq_true_eq, decide_eq_false_iff_not, Nat.not_lt, Nat.not_le, not_true_eq_false, not_false_eq_true, true_and, and_true, and_self, false_and, and_false, true_or, or_true, false_or, or_false, f_X3_read, ↓nm, ↓bd_t ce, ↓ka_t S.k1, e16, vo, vl, ↓bd_t ck, ↓ko_t W.k, ↓bd_t cs]
          rw [pre]
          obtain ⟨C1, -⟩ := C.sc1 (h1 := clS h (x + 42)) (fx.mono (fun b j q => by unfold DR at q; unfold SC; omega)) rfl rfl
          have D1 : dI (clS h (x + 42)) x (onN sh tp N) 0 := ⟨fun k hk => by omega, fun k _ k32 k16 => by rw [clS_p k32 (by omega), clS_p k32 (by omega), if_neg (by omega), if_neg (by omega)]; exact ⟨rfl, rfl⟩, clS_6, clS_7, fun a ha => clS_m ha⟩
          obtain ⟨h1, f1, g1, l1, y1, z1⟩ := c_cellsT O hr (o := tp (8 * (16 + 4 * sh))) (16 + 4 * sh) 0 FU _ (by omega) (FU_gt (by omega)) C1 h9 D1
          by_cases ac : ∀ k, 0 ≤ k → k < 16 + 4 * sh → clP' M kd tp k
          · obtain ⟨y1, D2⟩ := y1 ac
            obtain ⟨C2, -⟩ := C1.sc1 (f1.mono (fun b j q => by unfold DR at q; unfold SC; omega)) g1 l1
            have D3 : dO h1 x (onN sh tp N) tp sh 0 := by
              obtain ⟨d1, d2, d3, d4, d5⟩ := D2
              refine ⟨fun k hk => ?_, d3, fun k hk => by omega, d4, d5⟩
              by_cases z : k < 16 + 4 * sh
              · exact d1 k z
              · obtain ⟨w1, w2⟩ := d2 k (by omega) hk (by omega)
                exact Or.inl ⟨(onN_k (q := 0) z hk (by omega)).trans (okn.2.2.2.1 k (by omega) hk), w1, Or.inl w2⟩
            obtain ⟨h2, f2, g2, l2, y2, z2⟩ := c_objsT O hr (o := tp (8 * (16 + 4 * sh))) c2 (tp (8 * (16 + 4 * sh))) 0 FU h1 (by omega) (FU_gt (by omega)) C2 (by rw [g1]; exact h9) D3
            rw [y1]
            refine ⟨h2, fx.trans (f1.trans f2), g2.trans g1, l2.trans l1, fun im => ?_, fun ni => z2 (fun ao => ni ⟨c1, c2, c3, c4, fun k hk => ac k (by omega) hk, fun k hk => ao k (by omega) hk⟩)⟩
            obtain ⟨y2, d1, d6, d2, d7, d5⟩ := y2 (fun k _ hk => im.2.2.2.2.2 k hk)
            refine ⟨y2, d1, by rw [onN_n]; exact d6, fun i hi _ => ?_, by rw [onN_m (by omega) (by omega)]; exact d7, fun i hi => ?_, fun q hq => by rw [onN_m (by omega) (by omega)]; exact d5 q hq⟩
            · rw [onN_n] at hi
              have v := d2 i hi
              have v0 : onN sh tp N (257 + 3 * i) = bT tp sh i := onN_o (q := 0) c2 hi (by omega)
              have v1 : onN sh tp N (258 + 3 * i) = lT tp sh i := onN_o (q := 1) c2 hi (by omega)
              have v2 : onN sh tp N (259 + 3 * i) = aT tp sh i := onN_o (q := 2) c2 hi (by omega)
              rw [v0, v1, v2]
              exact ⟨v.1, v.2.1, v.2.2.1⟩
            · rw [onN_m (by omega) (by omega)] at hi; omega
          · rw [z1 ac]
            exact ⟨h1, fx.trans f1, g1, l1, fun im => absurd (fun k _ hk => im.2.2.2.2.1 k hk) ac, fun _ => rfl⟩
        · refine no (fun z => c4 z.2.2.2.1) ?_
          obtain ⟨o, ho⟩ : ∃ o, o = tp (8 * (16 + 4 * sh)) := ⟨_, rfl⟩
          rw [← ho] at vo c2 c3
          simp (disch := omega) only [nm, bd_s, ko_K, ka_K, koK_t, kaK_t, kr_s, kn_s, kn_n, hK_sI, hR_sI, hK_sL, hR_sL, hI_sL, hL_sI, hL_sL, hI_sI, hN_sI, hN_sL, ch_G, ch_T, nb_0, nb_1, zb_G, d_T, d_F, d_eT, d_eF, b2i_t, b2i_f, tn_nI, fa_lit, fa_litL, m1_e, nI_add, pk_mul, pk_sub, nI_leI, nI_ltI, nI_eq, le_T, le_F, lt_T, lt_F, eq_T, eq_F, if_pos, if_neg, m1_le, m1_lt', m1_gt, m1_le', m1_eq, m1_qe, b2i_eq0, in_N, in_n, in_I, ↓reduceIte, Bool.true_eq_false, Bool.false_eq_true, reduceCtorEq, decide_eq_true_eq, decide_eq_false_iff_not, Nat.not_lt, Nat.not_le, not_true_eq_false, not_false_eq_true, true_and, and_true, and_self, false_and, and_false, true_or, or_true, false_or, or_false, f_X3_read, f_X3_read_81, ↓nm, ↓bd_t ce, ↓ka_t S.k1, e16, vo, vl, ↓bd_t ck, c4]
      · refine no (fun z => c3 z.2.2.1) ?_
        obtain ⟨o, ho⟩ : ∃ o, o = tp (8 * (16 + 4 * sh)) := ⟨_, rfl⟩
        rw [← ho] at vo c2 c3
        simp (disch := omega) only [nm, bd_s, ko_K, ka_K, koK_t, kaK_t, kr_s, kn_s, kn_n, hK_sI, hR_sI, hK_sL, hR_sL, hI_sL, hL_sI, hL_sL, hI_sI, hN_sI, hN_sL, ch_G, ch_T, nb_0, nb_1, zb_G, d_T, d_F, d_eT, d_eF, b2i_t, b2i_f, tn_nI, fa_lit, fa_litL, m1_e, nI_add, pk_mul, pk_sub, nI_leI, nI_ltI, nI_eq, le_T, le_F, lt_T, lt_F, eq_T, eq_F, if_pos, if_neg, m1_le, m1_lt', m1_gt, m1_le', m1_eq, m1_qe, b2i_eq0, in_N, in_n, in_I, ↓reduceIte, Bool.true_eq_false, Bool.false_eq_true, reduceCtorEq, decide_eq_true_eq, decide_eq_false_iff_not, Nat.not_lt, Nat.not_le, not_true_eq_false, not_false_eq_true, true_and, and_true, and_self, false_and, and_false, true_or, or_true, false_or, or_false, f_X3_read, f_X3_read_81, ↓nm, ↓bd_t ce, ↓ka_t S.k1, e16, vo]
    · refine no (fun z => c2 z.2.1) ?_
      simp (disch := omega) only [nm, bd_s, ko_K, ka_K, koK_t, kaK_t, kr_s, kn_s, kn_n, hK_sI, hR_sI, hK_sL, hR_sL, hI_sL, hL_sI, hL_sL, hI_sI, hN_sI, hN_sL, ch_G, ch_T, nb_0, nb_1, zb_G, d_T, d_F, d_eT, d_eF, b2i_t, b2i_f, tn_nI, fa_lit, fa_litL, m1_e, nI_add, pk_mul, pk_sub, nI_leI, nI_ltI, nI_eq, le_T, le_F, lt_T, lt_F, eq_T, eq_F, if_pos, if_neg, m1_le, m1_lt', m1_gt, m1_le', m1_eq, m1_qe, b2i_eq0, in_N, in_n, in_I, ↓reduceIte, Bool.true_eq_false, Bool.false_eq_true, reduceCtorEq, decide_eq_true_eq, decide_eq_false_iff_not, Nat.not_lt, Nat.not_le, not_true_eq_false, not_false_eq_true, true_and, and_true, and_self, false_and, and_false, true_or, or_true, false_or, or_false, f_X3_read, f_X3_read_81, ↓nm, ↓bd_t ce, ↓ka_t S.k1, e16, vo]
  · refine no (fun z => c1 z.1) ?_
    simp (disch := omega) only [nm, bd_s, ko_K, ka_K, koK_t, kaK_t, kr_s, kn_s, kn_n, hK_sI, hR_sI, hK_sL, hR_sL, hI_sL, hL_sI, hL_sL, hI_sI, hN_sI, hN_sL, ch_G, ch_T, nb_0, nb_1, zb_G, d_T, d_F, d_eT, d_eF, b2i_t, b2i_f, tn_nI, fa_lit, fa_litL, m1_e, nI_add, pk_mul, pk_sub, nI_leI, nI_ltI, nI_eq, le_T, le_F, lt_T, lt_F, eq_T, eq_F, if_pos, if_neg, m1_le, m1_lt', m1_gt, m1_le', m1_eq, m1_qe, b2i_eq0, in_N, in_n, in_I, ↓reduceIte, Bool.true_eq_false, Bool.false_eq_true, reduceCtorEq, decide_eq_true_eq, decide_eq_false_iff_not, Nat.not_lt, Nat.not_le, not_true_eq_false, not_false_eq_true, true_and, and_true, and_self, false_and, and_false, true_or, or_true, false_or, or_false, f_X3_read, f_X3_read_23, ↓nm, ↓bd_t ce]
theorem S_on (C : CX h x (r, tl, tp, rf, ft, fp, sd) (M, mem, sh, ns, kd, cd) N (sl, nx, c, cr) (rn, rw_) (on_, ob)) (Q : CM h (x + 107) (r, tl, tp, rf, ft, fp, sd) (M, mem, sh, ns, kd, cd) N (sl, nx, c, cr) (rn, rw_) (on_, ob)) (O : Ok (r, tl, tp, rf, ft, fp, sd) (M, mem, sh, ns, kd, cd) N (sl, nx, c, cr) (rn, rw_) (on_, ob)) : SM Int32 x h (f_X11_on x) (f_X12_on (x + 107)) := by
  have S := C.1
  have e0 : hI h x 12 = nI r := C.2.1.1
  have e13 : hI h x 13 = nI tl := C.2.1.2.1
  have t16 : tl ≤ 1600 := O.1.1
  obtain ⟨C1, F1⟩ := tape0_c C
  have S1 := C1.1
  have f12 : hI (sI h x 13 (nI 0)) x 12 = nI r := C1.2.1.1
  have dn := c_deny (k := 7) S1 (by omega)
  have n10 : (nI 1 = nI 0) = False := eq_false (by decide)
  rcases O.r01 with hr | hr
  · rw [hr] at f12 e0
    refine glueT (k := 7) (v := nI 0) C Q O (by omega) ?_ (fun g1 Q1 => ?_)
    · simp (disch := omega) only [nm, bd_s, ko_K, ka_K, koK_t, kaK_t, kr_s, kn_s, kn_n, hK_sI, hR_sI, hK_sL, hR_sL, hI_sL, hL_sI, hL_sL, hI_sI, hN_sI, hN_sL, ch_G, ch_T, nb_0, nb_1, zb_G, d_T, d_F, d_eT, d_eF, b2i_t, b2i_f, tn_nI, fa_lit, fa_litL, m1_e, nI_add, pk_mul, pk_sub, nI_leI, nI_ltI, nI_eq, le_T, le_F, lt_T, lt_F, eq_T, eq_F, if_pos, if_neg, m1_le, m1_lt', m1_gt, m1_le', m1_eq, m1_qe, b2i_eq0, in_N, in_n, in_I, ↓reduceIte, Bool.true_eq_false, Bool.false_eq_true, reduceCtorEq, decide_eq_true_eq, decide_eq_false_iff_not, Nat.not_lt, Nat.not_le, not_true_eq_false, not_false_eq_true, true_and, and_true, and_self, false_and, and_false, true_or, or_true, false_or, or_false, f_X11_on_31, f_X11_on, f_X11_takeTape, S.k0, e13, S1.k0, e0, f12, dn]
    · have T1 := Q1.1
      obtain ⟨Q2, -⟩ := tape0_m Q1
      have T2 := Q2.1
      have g13 : hI g1 (x + 107) 1 = nI tl := Q1.2.1.2.1
      have g45 : hI (sI g1 (x + 107) 1 (nI 0)) (x + 107) 45 = nI 0 := by
        have := Q2.2.1.1
        rw [hr] at this
        exact this
      have m5 : hI (sI g1 (x + 107) 1 (nI 0)) (x + 107 + 28) 5 = nI sh := Q2.2.2.1.2.2.1
      have rfm := m_isRefused (k := 7) T2 (by omega)
      have sm : f_X12_shelfMany (x + 107) (sI g1 (x + 107) 1 (nI 0)) = some (nI sh, sI g1 (x + 107) 1 (nI 0)) := by
        generalize sI g1 (x + 107) 1 (nI 0) = g2 at *
        simp (disch := omega) only [nm, bd_s, ko_K, ka_K, koK_t, kaK_t, kr_s, kn_s, kn_n, hK_sI, hR_sI, hK_sL, hR_sL, hI_sL, hL_sI, hL_sL, hI_sI, hN_sI, hN_sL, ch_G, ch_T, nb_0, nb_1, zb_G, d_T, d_F, d_eT, d_eF, b2i_t, b2i_f, tn_nI, fa_lit, fa_litL, m1_e, nI_add, pk_mul, pk_sub, nI_leI, nI_ltI, nI_eq, le_T, le_F, lt_T, lt_F, eq_T, eq_F, if_pos, if_neg, m1_le, m1_lt', m1_gt, m1_le', m1_eq, m1_qe, b2i_eq0, in_N, in_n, in_I, ↓reduceIte, Bool.true_eq_false, Bool.false_eq_true, reduceCtorEq, decide_eq_true_eq, decide_eq_false_iff_not, Nat.not_lt, Nat.not_le, not_true_eq_false, not_false_eq_true, true_and, and_true, and_self, false_and, and_false, true_or, or_true, false_or, or_false, f_X12_shelfMany, T2.k, T2.r37, T2.k37, m5]
      have im : f_X12_isImage (x + 107) (nI tl) (sI g1 (x + 107) 1 (nI 0)) = some (nI 0, sI g1 (x + 107) 1 (nI 0)) := by
        generalize sI g1 (x + 107) 1 (nI 0) = g2 at *
        simp (disch := omega) only [nm, bd_s, ko_K, ka_K, koK_t, kaK_t, kr_s, kn_s, kn_n, hK_sI, hR_sI, hK_sL, hR_sL, hI_sL, hL_sI, hL_sL, hI_sI, hN_sI, hN_sL, ch_G, ch_T, nb_0, nb_1, zb_G, d_T, d_F, d_eT, d_eF, b2i_t, b2i_f, tn_nI, fa_lit, fa_litL, m1_e, nI_add, pk_mul, pk_sub, nI_leI, nI_ltI, nI_eq, le_T, le_F, lt_T, lt_F, eq_T, eq_F, if_pos, if_neg, m1_le, m1_lt', m1_gt, m1_le', m1_eq, m1_qe, b2i_eq0, in_N, in_n, in_I, ↓reduceIte, Bool.true_eq_false, Bool.false_eq_true, reduceCtorEq, decide_eq_true_eq, decide_eq_false_iff_not, Nat.not_lt, Nat.not_le, not_true_eq_false, not_false_eq_true, true_and, and_true, and_self, false_and, and_false, true_or, or_true, false_or, or_false, f_X12_isImage, f_X12_isImage_48, ↓nm, ↓ko_t T2.k, ↓bd_t sm, g45]
      simp (disch := omega) only [nm, bd_s, ko_K, ka_K, koK_t, kaK_t, kr_s, kn_s, kn_n, hK_sI, hR_sI, hK_sL, hR_sL, hI_sL, hL_sI, hL_sL, hI_sI, hN_sI, hN_sL, ch_G, ch_T, nb_0, nb_1, zb_G, d_T, d_F, d_eT, d_eF, b2i_t, b2i_f, tn_nI, fa_lit, fa_litL, m1_e, nI_add, pk_mul, pk_sub, nI_leI, nI_ltI, nI_eq, le_T, le_F, lt_T, lt_F, eq_T, eq_F, if_pos, if_neg, m1_le, m1_lt', m1_gt, m1_le', m1_eq, m1_qe, b2i_eq0, in_N, in_n, in_I, ↓reduceIte, Bool.true_eq_false, Bool.false_eq_true, reduceCtorEq, decide_eq_true_eq, decide_eq_false_iff_not, Nat.not_lt, Nat.not_le, not_true_eq_false, not_false_eq_true, true_and, and_true, and_self, false_and, and_false, true_or, or_true, false_or, or_false, f_X12_on, T1.k, g13, im, T2.k, rfm]
  · subst hr
    have okn := O.okn rfl
    have okb := O.okb rfl
    have tb : ∀ j, tp j ≤ 255 := O.1.2.1
    obtain ⟨a, ha, h9, A, B⟩ := C1.run rfl
    obtain ⟨h1, fx, fr, fl, y1, z1⟩ := c_read C1 O rfl h9
    obtain ⟨C2, F2⟩ := C1.sc1 (fx.mono (fun b j q => by unfold DR at q; unfold SC; omega)) fr fl
    have S2 := C2.1
    have mon : ∀ g, CM g (x + 107) (1, tl, tp, rf, ft, fp, sd) (M, mem, sh, ns, kd, cd) N (sl, nx, c, cr) (rn, rw_) (on_, ob) → ∃ g1, (imP M mem sh kd tp tl → f_X12_on (x + 107) g = f_X12_on_37 FU (x + 107) (nI (16 + 4 * sh)) (nI 0) g1) ∧ (¬ imP M mem sh kd tp tl → f_X12_on (x + 107) g = some (nI 0, rfX g1 (x + 107) 7)) ∧ CM g1 (x + 107) (1, 0, tp, rf, ft, fp, sd) (M, mem, sh, ns, kd, cd) N (sl, nx, c, cr) (rn, rw_) (on_, ob) ∧ FM x g g1 := by
      intro g Q0
      obtain ⟨Q1, F1⟩ := tape0_m Q0
      obtain ⟨g1, Q2, F2, y2, z2⟩ := m_image Q1 O rfl
      have T0 := Q0.1
      have T2 := Q2.1
      have g13 : hI g (x + 107) 1 = nI tl := Q0.2.1.2.1
      have m5 : hI g1 (x + 107 + 28) 5 = nI sh := Q2.2.2.1.2.2.1
      have s4 := okb.2.2.2.2.1
      have sm : f_X12_shelfMany (x + 107) g1 = some (nI sh, g1) := by simp (disch := omega) only [nm, bd_s, ko_K, ka_K, koK_t, kaK_t, kr_s, kn_s, kn_n, hK_sI, hR_sI, hK_sL, hR_sL, hI_sL, hL_sI, hL_sL, hI_sI, hN_sI, hN_sL, ch_G, ch_T, nb_0, nb_1, zb_G, d_T, d_F, d_eT, d_eF, b2i_t, b2i_f, tn_nI, fa_lit, fa_litL, m1_e, nI_add, pk_mul, pk_sub, nI_leI, nI_ltI, nI_eq, le_T, le_F, lt_T, lt_F, eq_T, eq_F, if_pos, if_neg, m1_le, m1_lt', m1_gt, m1_le', m1_eq, m1_qe, b2i_eq0, in_N, in_n, in_I, ↓reduceIte, Bool.true_eq_false, Bool.false_eq_true, reduceCtorEq, decide_eq_true_eq, decide_eq_false_iff_not, Nat.not_lt, Nat.not_le, not_true_eq_false, not_false_eq_true, true_and, and_true, and_self, false_and, and_false, true_or, or_true, false_or, or_false, f_X12_shelfMany, T2.k, T2.r37, T2.k37, m5]
      have rfm := m_isRefused (k := 7) T2 (by omega)
      refine ⟨g1, fun im => ?_, fun im => ?_, Q2, F1.trans F2⟩
      · have y2 := y2 im
        simp (disch := omega) only [nm, bd_s, ko_K, ka_K, koK_t, kaK_t, kr_s, kn_s, kn_n, hK_sI, hR_sI, hK_sL, hR_sL, hI_sL, hL_sI, hL_sL, hI_sI, hN_sI, hN_sL, ch_G, ch_T, nb_0, nb_1, zb_G, d_T, d_F, d_eT, d_eF, b2i_t, b2i_f, tn_nI, fa_lit, fa_litL, m1_e, nI_add, pk_mul, pk_sub, nI_leI, nI_ltI, nI_eq, le_T, le_F, lt_T, lt_F, eq_T, eq_F, if_pos, if_neg, m1_le, m1_lt', m1_gt, m1_le', m1_eq, m1_qe, b2i_eq0, in_N, in_n, in_I, ↓reduceIte, Bool.true_eq_false, Bool.false_eq_true, reduceCtorEq, decide_eq_true_eq, decide_eq_false_iff_not, Nat.not_lt, Nat.not_le, not_true_eq_false, not_false_eq_true, true_and, and_true, and_self, false_and, and_false, true_or, or_true, false_or, or_false, f_X12_on, T0.k, g13, y2, T2.k, sm]
      · have z2 := z2 im
        simp (disch := omega) only [nm, bd_s, ko_K, ka_K, koK_t, kaK_t, kr_s, kn_s, kn_n, hK_sI, hR_sI, hK_sL, hR_sL, hI_sL, hL_sI, hL_sL, hI_sI, hN_sI, hN_sL, ch_G, ch_T, nb_0, nb_1, zb_G, d_T, d_F, d_eT, d_eF, b2i_t, b2i_f, tn_nI, fa_lit, fa_litL, m1_e, nI_add, pk_mul, pk_sub, nI_leI, nI_ltI, nI_eq, le_T, le_F, lt_T, lt_F, eq_T, eq_F, if_pos, if_neg, m1_le, m1_lt', m1_gt, m1_le', m1_eq, m1_qe, b2i_eq0, in_N, in_n, in_I, ↓reduceIte, Bool.true_eq_false, Bool.false_eq_true, reduceCtorEq, decide_eq_true_eq, decide_eq_false_iff_not, Nat.not_lt, Nat.not_le, not_true_eq_false, not_false_eq_true, true_and, and_true, and_self, false_and, and_false, true_or, or_true, false_or, or_false, f_X12_on, T0.k, g13, z2, T2.k, rfm]
    by_cases im : imP M mem sh kd tp tl
    · obtain ⟨y1, R2⟩ := y1 im
      have okn' := okn.on okb tb im
      have sb := s_become (h := h1) (s := x + 3) (o := x + 42) S2.now S2.draft (by omega) R2.flg
      have R3 := R2.cp okn'.2.2.2.2.1 okn'.2.2.2.2.2.2.2.1 (q := x + 3) (by omega)
      obtain ⟨h3, hh3⟩ : ∃ h3, h3 = cpA h1 (x + 3) (x + 42) := ⟨_, rfl⟩
      rw [← hh3] at sb R3
      have cI : ∀ b j, ¬ (x + 3 ≤ b ∧ b < x + 42) → hI h3 b j = hI h1 b j := fun b j q => by
        rw [hh3, hI_cpA, if_neg (by omega), if_neg (by omega), if_neg (by omega), if_neg (by omega), if_neg (by omega)]
      have S3 : XS h3 x := by rw [hh3]; exact S2.of rfl rfl
      have kI : ∀ b j, ¬ (x + 3 ≤ b ∧ b < x + 42) → ¬ (b = x + 81 ∧ j = 0) → hI (sI h3 (x + 81) 0 (nI 0)) b j = hI h1 b j := fun b j q1 q2 => by rw [hI_sI, if_neg q2]; exact cI b j q1
      have eK : hK h3 = hK h1 := by rw [hh3]; rfl
      have eR : hR h3 = hR h1 := by rw [hh3]; rfl
      have eL : hL h3 = hL h1 := by rw [hh3]; rfl
      have eN : hN h3 = hN h1 := by rw [hh3]; rfl
      have eS : hS h3 = hS h1 := by rw [hh3]; rfl
      refine glue (A' := (1, 0, tp, rf, ft, fp, sd)) (B' := (M, mem, sh, ns, kd, cd)) (N' := onN sh tp N) (D' := (sl, nx, 0, cr)) (E' := (rn, rw_)) (F' := (on_, ob)) (v := nI 1) Q ⟨sI h3 (x + 81) 0 (nI 0), ?_, ?_, ?_⟩ (fun g Q0 => ?_) ?_
      · simp (disch := omega) only [nm, bd_s, ko_K, ka_K, koK_t, kaK_t, kr_s, kn_s, kn_n, hK_sI, hR_sI, hK_sL, hR_sL, hI_sL, hL_sI, hL_sL, hI_sI, hN_sI, hN_sL, ch_G, ch_T, nb_0, nb_1, zb_G, d_T, d_F, d_eT, d_eF, b2i_t, b2i_f, tn_nI, fa_lit, fa_litL, m1_e, nI_add, pk_mul, pk_sub, nI_leI, nI_ltI, nI_eq, le_T, le_F, lt_T, lt_F, eq_T, eq_F, if_pos, if_neg, m1_le, m1_lt', m1_gt, m1_le', m1_eq, m1_qe, b2i_eq0, in_N, in_n, in_I, ↓reduceIte, Bool.true_eq_false, Bool.false_eq_true, reduceCtorEq, decide_eq_true_eq, decide_eq_false_iff_not, Nat.not_lt, Nat.not_le, not_true_eq_false, not_false_eq_true, true_and, and_true, and_self, false_and, and_false, true_or, or_true, false_or, or_false, f_X11_on, f_X11_takeTape, ↓nm, ↓ko_t S.k0, e13, e0, S1.k0, f12, S1.r0_0, S1.r0_3, S1.r0_2, S1.r0_4, h9, y1, S2.k0, S2.r0_2, S2.r0_3, S2.now.k, sb, S3.k0, S3.r0_4, S3.k81, f_X2_clear]
      · obtain ⟨c1, c2, c3, c4, ⟨d1, d2, d3, d4, d5, d6, d7, d8, d9, d10⟩, c6, c7, c8, c9⟩ := C2
        refine ⟨S3.of rfl rfl, c2.fr (fun b _ _ j => kI b j (by omega) (by omega)) (by show hL h3 x 16 = _; rw [eL]), c3.fr (fun b _ _ j => kI b j (by omega) (by omega)) (by show hR h3 x 9 = _; rw [eR]) (by show hR h3 x 10 = _; rw [eR]), R3.fr (fun b _ _ j => by rw [hI_sI, if_neg (by omega)]), ⟨?_, ?_, fun k hk => by show hR h3 _ _ = _; rw [eR]; exact d3 k hk, fun k hk => (d4 k hk).of eK eR, fun k hk => (d5 k hk).fr (fun b _ _ j => kI b j (by omega) (by omega)), d6, d7, d8, Or.inl (Nat.zero_le _), Nat.zero_le _⟩, c6.fr (kI _ _ (by omega) (by omega)) (fun b _ _ j => kI b j (by omega) (by omega)), c7.fr (fun b _ _ j => kI b j (by omega) (by omega)), by show hN h3 = _; rw [eN]; exact c8, by show hS h3 ≤ _; rw [eS]; exact c9⟩
        · rw [kI _ _ (by omega) (by omega)]; exact d1
        · rw [hI_sI, if_pos ⟨rfl, rfl⟩]
      · exact (F1.trans F2).trans (fun b b1 b2 => ⟨by show hK h3 b = _; rw [eK], fun j => ⟨kI b j (by omega) (by omega), by show hL h3 b j = _; rw [eL], by show hR h3 b j = _; rw [eR]⟩⟩)
      · obtain ⟨g1, m1, -, Q1, G1⟩ := mon g Q0
        obtain ⟨g2, e2, Q2, G2⟩ := m_layall Q1 O rfl im
        exact ⟨g2, (m1 im).trans e2, Q2, G1.trans G2⟩
      · obtain ⟨o1, o2, o3⟩ := tape0_o O
        exact ⟨o1, o2, o3.1, Or.inr ⟨rfl, okb, okn', fun i hi => by have hi : i < 0 := hi; omega⟩⟩
    · have z1 := z1 im
      obtain ⟨C3, F3⟩ := C2.rfd (k := 7) (by omega)
      have dn2 := c_deny (k := 7) S2 (by omega)
      refine glue Q (v := nI 0) ⟨_, ?_, C3, (F1.trans F2).trans F3⟩ (fun g Q0 => ?_) (tape0_o O).rfd
      · simp (disch := omega) only [nm, bd_s, ko_K, ka_K, koK_t, kaK_t, kr_s, kn_s, kn_n, hK_sI, hR_sI, hK_sL, hR_sL, hI_sL, hL_sI, hL_sL, hI_sI, hN_sI, hN_sL, ch_G, ch_T, nb_0, nb_1, zb_G, d_T, d_F, d_eT, d_eF, b2i_t, b2i_f, tn_nI, fa_lit, fa_litL, m1_e, nI_add, pk_mul, pk_sub, nI_leI, nI_ltI, nI_eq, le_T, le_F, lt_T, lt_F, eq_T, eq_F, if_pos, if_neg, m1_le, m1_lt', m1_gt, m1_le', m1_eq, m1_qe, b2i_eq0, in_N, in_n, in_I, ↓reduceIte, Bool.true_eq_false, Bool.false_eq_true, reduceCtorEq, decide_eq_true_eq, decide_eq_false_iff_not, Nat.not_lt, Nat.not_le, not_true_eq_false, not_false_eq_true, true_and, and_true, and_self, false_and, and_false, true_or, or_true, false_or, or_false, f_X11_on, f_X11_on_31, f_X11_takeTape, ↓nm, ↓ko_t S.k0, e13, e0, S1.k0, f12, S1.r0_0, S1.r0_3, h9, z1, S2.k0, dn2]
      · obtain ⟨g1, -, m2, Q1, G1⟩ := mon g Q0
        obtain ⟨Q2, G2⟩ := Q1.rfd (k := 7) (by omega)
        exact ⟨_, m2 im, Q2, G1.trans G2⟩
end On6
