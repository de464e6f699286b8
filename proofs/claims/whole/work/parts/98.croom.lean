/-! room, odds -/
section Ro3
variable {h : aH} {x r tl : Nat} {tp : Nat → Nat} {rf : Nat → Int32} {ft fp : Int32} {sd : Nat} {M mem sh : Nat} {ns : Nat → List Nat} {kd : Nat → Nat} {cd : Nat → List Nat} {N : tyN} {sl : Nat → tyN} {nx c cr : Nat} {rn : Nat} {rw_ : Nat → Nat} {on_ : Nat} {ob : Nat → Nat}
theorem m_r39 (Q : CM h (x + 107) (r, tl, tp, rf, ft, fp, sd) (M, mem, sh, ns, kd, cd) N (sl, nx, c, cr) (rn, rw_) (on_, ob)) (O : Ok (r, tl, tp, rf, ft, fp, sd) (M, mem, sh, ns, kd, cd) N (sl, nx, c, cr) (rn, rw_) (on_, ob)) (hr : r = 1) {w : Nat} (w1 : 1 ≤ w) (w2 : w ≤ 1024) (c32 : N 256 < 32) : ∃ h1, f_X12_roomFor_39 (x + 107) (nI w) (nI (pdN cd w)) h = some (atS (seS M mem cd N w), h1) ∧ CM h1 (x + 107) (r, tl, tp, rf, ft, fp, sd) (M, mem, sh, ns, kd, cd) N (sl, nx, c, cr) (rn, rw_) (on_, ob) ∧ FM x h h1 ∧ hI h1 (x + 107) 57 = nI (lnS M cd w) := by
  have T := Q.1
  have okb := O.okb hr
  have p := pdN_le cd w
  have m1 : hI h (x + 107 + 28) 4 = nI M := Q.2.2.1.2.1
  have en := m_encodes T m1 (b := 0) (l := w + pdN cd w) (by omega) okb.1 okb.2.1
  rw [Nat.zero_add (w + pdN cd w), show lexN 0 (w + pdN cd w) M = exS M cd w from rfl] at en
  obtain ⟨y1, y2, y3⟩ := ln_b (M := M) (cd := cd) okb.1 w1 w2
  obtain ⟨Q1, F1⟩ := Q.enc 0 (w + pdN cd w) (exS M cd w)
  have g52 := enc_52 h (x + 107) 0 (w + pdN cd w) (exS M cd w)
  have g54 : hI (encM h (x + 107) 0 (w + pdN cd w) (exS M cd w)) (x + 107) 54 = nI (lnS M cd w) := enc_54 h (x + 107) 0 (w + pdN cd w) (exS M cd w)
  have T1 := Q1.1
  generalize encM h (x + 107) 0 (w + pdN cd w) (exS M cd w) = g1 at *
  have Q2 : CM (sI g1 (x + 107) 57 (nI (lnS M cd w))) (x + 107) (r, tl, tp, rf, ft, fp, sd) (M, mem, sh, ns, kd, cd) N (sl, nx, c, cr) (rn, rw_) (on_, ob) := Q1.sc rfl rfl (fun b j z => by unfold LM at z; rw [hI_sI, if_neg (by omega)]) rfl (fun _ _ => rfl)
  have F2 : FM x g1 (sI g1 (x + 107) 57 (nI (lnS M cd w))) := FM.sI (by omega) (by omega)
  have la := Q2.lays O
  obtain ⟨Q3, F3⟩ := Q2.lh O (N 256 + 1)
  have H : HR (LH (sI g1 (x + 107) 57 (nI (lnS M cd w))) (x + 107) (N 256) mem (obB N) (obL N) (N 256 + 1)) x (N 256) mem (obB N) (obL N) (lnS M cd w) := by
    refine ⟨LH_55, by rw [LH_o (by omega) (by omega), hI_sI, if_pos ⟨rfl, rfl⟩], fun g hg hz => ?_⟩
    rw [LH_35, LH_35]
    exact ho_get (N 256 + 1) g hg hz
  obtain ⟨h1, i1, i2, i3, i4⟩ := m_gaps O hr (e := exS M cd w) (l := lnS M cd w) (by omega) y2 y3 (N 256 + 1) 0 FU none _ (by omega) (FU_gt (by have := (O.okn hr).2.2.2.2.1; omega)) Q3 H trivial
  refine ⟨h1, ?_, i2, (F1.trans F2).trans (F3.trans i3), i4⟩
  unfold seS
  rw [if_pos c32, ← i1]
  show _ = f_X12_roomFor_73 FU (x + 107) (nI (exS M cd w)) (-nI 1) (lN 0) (nI 0) _
  have T2 := Q2.1
  generalize LH (sI g1 (x + 107) 57 (nI (lnS M cd w))) (x + 107) (N 256) mem (obB N) (obL N) (N 256 + 1) = g3 at *
  generalize exS M cd w = e at *
  generalize lnS M cd w = l at *
  simp (disch := omega) only [nm, bd_s, ko_K, ka_K, koK_t, kaK_t, kr_s, kn_s, kn_n, hK_sI, hR_sI, hK_sL, hR_sL, hI_sL, hL_sI, hL_sL, hI_sI, hN_sI, hN_sL, ch_G, ch_T, nb_0, nb_1, zb_G, d_T, d_F, d_eT, d_eF, b2i_t, b2i_f, tn_nI, fa_lit, fa_litL, m1_e, nI_add, pk_mul, pk_sub, nI_leI, nI_ltI, nI_eq, le_T, le_F, lt_T, lt_F, eq_T, eq_F, if_pos, if_neg, m1_le, m1_lt', m1_gt, m1_le', m1_eq, m1_qe, b2i_eq0, in_N, in_n, in_I, ↓reduceIte, Bool.true_eq_false, Bool.false_eq_true, reduceCtorEq, decide_eq_true_eq, decide_eq_false_iff_not, Nat.not_lt, Nat.not_le, not_true_eq_false, not_false_eq_true, true_and, and_true, and_self, false_and, and_false, true_or, or_true, false_or, or_false, f_X12_roomFor_39, T.k, en, T1.k, g52, g54, la]
theorem m_roomFor2 (Q : CM h (x + 107) (r, tl, tp, rf, ft, fp, sd) (M, mem, sh, ns, kd, cd) N (sl, nx, c, cr) (rn, rw_) (on_, ob)) (O : Ok (r, tl, tp, rf, ft, fp, sd) (M, mem, sh, ns, kd, cd) N (sl, nx, c, cr) (rn, rw_) (on_, ob)) (hr : r = 1) {w : Nat} (w1 : 1 ≤ w) (w2 : w ≤ 1024) : ∃ h1, f_X12_roomFor (x + 107) (nI w) h = some (atS (seS M mem cd N w), h1) ∧ CM h1 (x + 107) (r, tl, tp, rf, ft, fp, sd) (M, mem, sh, ns, kd, cd) N (sl, nx, c, cr) (rn, rw_) (on_, ob) ∧ FM x h h1 ∧ (N 256 < 32 → hI h1 (x + 107) 57 = nI (lnS M cd w)) := by
  have T := Q.1
  have okb := O.okb hr
  have n32 := (O.okn hr).2.2.2.2.1
  have e6 := (Q.obj O).1
  by_cases c32 : N 256 < 32
  · have Q1 : CM (sI h (x + 107) 49 (nI w)) (x + 107) (r, tl, tp, rf, ft, fp, sd) (M, mem, sh, ns, kd, cd) N (sl, nx, c, cr) (rn, rw_) (on_, ob) := Q.sc rfl rfl (fun b j z => by unfold LM at z; rw [hI_sI, if_neg (by omega)]) rfl (fun _ _ => rfl)
    have F1 : FM x h (sI h (x + 107) 49 (nI w)) := FM.sI (by omega) (by omega)
    rcases m_pad Q1 okb (w := w) (by omega) (by rw [hI_sI, if_pos ⟨rfl, rfl⟩]) with ⟨ic, p0⟩ | ⟨ic, v, d', f', r1, r2⟩
    · obtain ⟨h1, i1, i2, i3, i4⟩ := m_r39 Q1 O hr w1 w2 c32
      rw [p0] at i1
      refine ⟨h1, ?_, i2, F1.trans i3, fun _ => i4⟩
      simp (disch := omega) only [nm, bd_s, ko_K, ka_K, koK_t, kaK_t, kr_s, kn_s, kn_n, hK_sI, hR_sI, hK_sL, hR_sL, hI_sL, hL_sI, hL_sL, hI_sI, hN_sI, hN_sL, ch_G, ch_T, nb_0, nb_1, zb_G, d_T, d_F, d_eT, d_eF, b2i_t, b2i_f, tn_nI, fa_lit, fa_litL, m1_e, nI_add, pk_mul, pk_sub, nI_leI, nI_ltI, nI_eq, le_T, le_F, lt_T, lt_F, eq_T, eq_F, if_pos, if_neg, m1_le, m1_lt', m1_gt, m1_le', m1_eq, m1_qe, b2i_eq0, in_N, in_n, in_I, ↓reduceIte, Bool.true_eq_false, Bool.false_eq_true, reduceCtorEq, decide_eq_true_eq, decide_eq_false_iff_not, Nat.not_lt, Nat.not_le, not_true_eq_false, not_false_eq_true, true_and, and_true, and_self, false_and, and_false, true_or, or_true, false_or, or_false, f_X12_roomFor, f_X12_objectMany, T.k, T.r47, T.k47, e6, ic, i1]
    · obtain ⟨Q2, F2⟩ := PL.sc Q1 (w := 1) (d := d') (f := f')
      obtain ⟨h1, i1, i2, i3, i4⟩ := m_r39 Q2 O hr w1 w2 c32
      refine ⟨h1, ?_, i2, (F1.trans F2).trans i3, fun _ => i4⟩
      have r2 := r2 (PL (sI (sI h (x + 107) 49 (nI w)) (x + 107) 46 (nI 1)) (x + 107) d' f')
      generalize PL (sI (sI h (x + 107) 49 (nI w)) (x + 107) 46 (nI 1)) (x + 107) d' f' = g2 at *
      simp (disch := omega) only [nm, bd_s, ko_K, ka_K, koK_t, kaK_t, kr_s, kn_s, kn_n, hK_sI, hR_sI, hK_sL, hR_sL, hI_sL, hL_sI, hL_sL, hI_sI, hN_sI, hN_sL, ch_G, ch_T, nb_0, nb_1, zb_G, d_T, d_F, d_eT, d_eF, b2i_t, b2i_f, tn_nI, fa_lit, fa_litL, m1_e, nI_add, pk_mul, pk_sub, nI_leI, nI_ltI, nI_eq, le_T, le_F, lt_T, lt_F, eq_T, eq_F, if_pos, if_neg, m1_le, m1_lt', m1_gt, m1_le', m1_eq, m1_qe, b2i_eq0, in_N, in_n, in_I, ↓reduceIte, Bool.true_eq_false, Bool.false_eq_true, reduceCtorEq, decide_eq_true_eq, decide_eq_false_iff_not, Nat.not_lt, Nat.not_le, not_true_eq_false, not_false_eq_true, true_and, and_true, and_self, false_and, and_false, true_or, or_true, false_or, or_false, f_X12_roomFor, f_X12_objectMany, T.k, T.r47, T.k47, e6, ic, r1, r2, i1]
  · have c32 : N 256 = 32 := by omega
    refine ⟨h, ?_, Q, FM.refl x h, fun z => by omega⟩
    unfold seS
    rw [if_neg (by omega)]
    show _ = some (-nI 1, h)
    simp (disch := omega) only [nm, bd_s, ko_K, ka_K, koK_t, kaK_t, kr_s, kn_s, kn_n, hK_sI, hR_sI, hK_sL, hR_sL, hI_sL, hL_sI, hL_sL, hI_sI, hN_sI, hN_sL, ch_G, ch_T, nb_0, nb_1, zb_G, d_T, d_F, d_eT, d_eF, b2i_t, b2i_f, tn_nI, fa_lit, fa_litL, m1_e, nI_add, pk_mul, pk_sub, nI_leI, nI_ltI, nI_eq, le_T, le_F, lt_T, lt_F, eq_T, eq_F, if_pos, if_neg, m1_le, m1_lt', m1_gt, m1_le', m1_eq, m1_qe, b2i_eq0, in_N, in_n, in_I, ↓reduceIte, Bool.true_eq_false, Bool.false_eq_true, reduceCtorEq, decide_eq_true_eq, decide_eq_false_iff_not, Nat.not_lt, Nat.not_le, not_true_eq_false, not_false_eq_true, true_and, and_true, and_self, false_and, and_false, true_or, or_true, false_or, or_false, f_X12_roomFor, f_X12_objectMany, T.k, T.r47, T.k47, e6]
theorem m_roomFor (Q : CM h (x + 107) (r, tl, tp, rf, ft, fp, sd) (M, mem, sh, ns, kd, cd) N (sl, nx, c, cr) (rn, rw_) (on_, ob)) (O : Ok (r, tl, tp, rf, ft, fp, sd) (M, mem, sh, ns, kd, cd) N (sl, nx, c, cr) (rn, rw_) (on_, ob)) (hr : r = 1) {w : Nat} (w1 : 1 ≤ w) (w2 : w ≤ 1024) : ∃ h1, f_X12_roomFor (x + 107) (nI w) h = some (atS (seS M mem cd N w), h1) ∧ CM h1 (x + 107) (r, tl, tp, rf, ft, fp, sd) (M, mem, sh, ns, kd, cd) N (sl, nx, c, cr) (rn, rw_) (on_, ob) ∧ FM x h h1 := by
  obtain ⟨h1, e1, q1, f1, -⟩ := m_roomFor2 Q O hr w1 w2
  exact ⟨h1, e1, q1, f1⟩
theorem S_room (C : CX h x (r, tl, tp, rf, ft, fp, sd) (M, mem, sh, ns, kd, cd) N (sl, nx, c, cr) (rn, rw_) (on_, ob)) (Q : CM h (x + 107) (r, tl, tp, rf, ft, fp, sd) (M, mem, sh, ns, kd, cd) N (sl, nx, c, cr) (rn, rw_) (on_, ob)) (O : Ok (r, tl, tp, rf, ft, fp, sd) (M, mem, sh, ns, kd, cd) N (sl, nx, c, cr) (rn, rw_) (on_, ob)) (p : Int32) : SM Int32 x h (f_X11_room x p) (f_X12_room (x + 107) p) := by
  have S := C.1
  have e0 : hI h x 12 = nI r := C.2.1.1
  rcases O.r01 with hr | hr
  · refine glue0 C Q O (v := -nI 1) ?_ ?_
    · rw [hr] at e0
      simp (disch := omega) only [nm, bd_s, ko_K, ka_K, koK_t, kaK_t, kr_s, kn_s, kn_n, hK_sI, hR_sI, hK_sL, hR_sL, hI_sL, hL_sI, hL_sL, hI_sI, hN_sI, hN_sL, ch_G, ch_T, nb_0, nb_1, zb_G, d_T, d_F, d_eT, d_eF, b2i_t, b2i_f, tn_nI, fa_lit, fa_litL, m1_e, nI_add, pk_mul, pk_sub, nI_leI, nI_ltI, nI_eq, le_T, le_F, lt_T, lt_F, eq_T, eq_F, if_pos, if_neg, m1_le, m1_lt', m1_gt, m1_le', m1_eq, m1_qe, b2i_eq0, in_N, in_n, in_I, ↓reduceIte, Bool.true_eq_false, Bool.false_eq_true, reduceCtorEq, decide_eq_true_eq, decide_eq_false_iff_not, Nat.not_lt, Nat.not_le, not_true_eq_false, not_false_eq_true, true_and, and_true, and_self, false_and, and_false, true_or, or_true, false_or, or_false, f_X11_room_33, f_X11_room_32, f_X11_room, S.k0, e0]
    · have T := Q.1
      have e1 : hI h (x + 107) 45 = nI r := Q.2.1.1
      rw [hr] at e1
      simp (disch := omega) only [nm, bd_s, ko_K, ka_K, koK_t, kaK_t, kr_s, kn_s, kn_n, hK_sI, hR_sI, hK_sL, hR_sL, hI_sL, hL_sI, hL_sL, hI_sI, hN_sI, hN_sL, ch_G, ch_T, nb_0, nb_1, zb_G, d_T, d_F, d_eT, d_eF, b2i_t, b2i_f, tn_nI, fa_lit, fa_litL, m1_e, nI_add, pk_mul, pk_sub, nI_leI, nI_ltI, nI_eq, le_T, le_F, lt_T, lt_F, eq_T, eq_F, if_pos, if_neg, m1_le, m1_lt', m1_gt, m1_le', m1_eq, m1_qe, b2i_eq0, in_N, in_n, in_I, ↓reduceIte, Bool.true_eq_false, Bool.false_eq_true, reduceCtorEq, decide_eq_true_eq, decide_eq_false_iff_not, Nat.not_lt, Nat.not_le, not_true_eq_false, not_false_eq_true, true_and, and_true, and_self, false_and, and_false, true_or, or_true, false_or, or_false, f_X12_room_28, f_X12_room_27, f_X12_room, T.k, e1]
  · rw [hr] at e0
    have n10 : (nI 1 = nI 0) = False := eq_false (by decide)
    obtain ⟨a, ha, h9, A, B⟩ := C.run hr
    obtain ⟨C1, F1⟩ := C.sc1 (h1 := sI h (x + 86) 0 (-nI 1)) (FX.sI (by unfold SC; omega)) rfl rfl
    rcases pk_ix p (n := 1025) (by omega) with hw | hw | ⟨w, hw, rfl⟩
    · have z1 : (p < nI 1) = True := eq_true (Int32.lt_trans hw (by decide))
      refine glue Q (v := -nI 1) ⟨_, ?_, C1, F1⟩ (fun g Q0 => ⟨g, ?_, Q0, FM.refl x g⟩) O
      · simp (disch := omega) only [nm, bd_s, ko_K, ka_K, koK_t, kaK_t, kr_s, kn_s, kn_n, hK_sI, hR_sI, hK_sL, hR_sL, hI_sL, hL_sI, hL_sL, hI_sI, hN_sI, hN_sL, ch_G, ch_T, nb_0, nb_1, zb_G, d_T, d_F, d_eT, d_eF, b2i_t, b2i_f, tn_nI, fa_lit, fa_litL, m1_e, nI_add, pk_mul, pk_sub, nI_leI, nI_ltI, nI_eq, le_T, le_F, lt_T, lt_F, eq_T, eq_F, if_pos, if_neg, m1_le, m1_lt', m1_gt, m1_le', m1_eq, m1_qe, b2i_eq0, in_N, in_n, in_I, ↓reduceIte, Bool.true_eq_false, Bool.false_eq_true, reduceCtorEq, decide_eq_true_eq, decide_eq_false_iff_not, Nat.not_lt, Nat.not_le, not_true_eq_false, not_false_eq_true, true_and, and_true, and_self, false_and, and_false, true_or, or_true, false_or, or_false, f_X11_room_33, f_X11_room_32, f_X11_room, f_X1_search_29, f_X1_search_181, f_X1_search_165, f_X1_search_200, b_X1_search_70, f_X1_search_70, f_X1_search, S.k0, S.r0_6, S.k86, e0, h9, z1]
      · have T := Q0.1
        have e1 : hI g (x + 107) 45 = nI r := Q0.2.1.1
        rw [hr] at e1
        simp (disch := omega) only [nm, bd_s, ko_K, ka_K, koK_t, kaK_t, kr_s, kn_s, kn_n, hK_sI, hR_sI, hK_sL, hR_sL, hI_sL, hL_sI, hL_sL, hI_sI, hN_sI, hN_sL, ch_G, ch_T, nb_0, nb_1, zb_G, d_T, d_F, d_eT, d_eF, b2i_t, b2i_f, tn_nI, fa_lit, fa_litL, m1_e, nI_add, pk_mul, pk_sub, nI_leI, nI_ltI, nI_eq, le_T, le_F, lt_T, lt_F, eq_T, eq_F, if_pos, if_neg, m1_le, m1_lt', m1_gt, m1_le', m1_eq, m1_qe, b2i_eq0, in_N, in_n, in_I, ↓reduceIte, Bool.true_eq_false, Bool.false_eq_true, reduceCtorEq, decide_eq_true_eq, decide_eq_false_iff_not, Nat.not_lt, Nat.not_le, not_true_eq_false, not_false_eq_true, true_and, and_true, and_self, false_and, and_false, true_or, or_true, false_or, or_false, f_X12_room_28, f_X12_room_27, f_X12_room, T.k, e1, ng_lt' hw, ng_le' hw, ng_le hw, ng_lt hw, ng_eq hw, ng_qe hw, in_g hw, in_gN hw]
    · refine glue Q (v := -nI 1) ⟨_, ?_, C1, F1⟩ (fun g Q0 => ⟨g, ?_, Q0, FM.refl x g⟩) O
      · simp (disch := omega) only [nm, bd_s, ko_K, ka_K, koK_t, kaK_t, kr_s, kn_s, kn_n, hK_sI, hR_sI, hK_sL, hR_sL, hI_sL, hL_sI, hL_sL, hI_sI, hN_sI, hN_sL, ch_G, ch_T, nb_0, nb_1, zb_G, d_T, d_F, d_eT, d_eF, b2i_t, b2i_f, tn_nI, fa_lit, fa_litL, m1_e, nI_add, pk_mul, pk_sub, nI_leI, nI_ltI, nI_eq, le_T, le_F, lt_T, lt_F, eq_T, eq_F, if_pos, if_neg, m1_le, m1_lt', m1_gt, m1_le', m1_eq, m1_qe, b2i_eq0, in_N, in_n, in_I, ↓reduceIte, Bool.true_eq_false, Bool.false_eq_true, reduceCtorEq, decide_eq_true_eq, decide_eq_false_iff_not, Nat.not_lt, Nat.not_le, not_true_eq_false, not_false_eq_true, true_and, and_true, and_self, false_and, and_false, true_or, or_true, false_or, or_false, f_X11_room_33, f_X11_room_32, f_X11_room, f_X1_search_29, f_X1_search_181, f_X1_search_165, f_X1_search_200, b_X1_search_70, f_X1_search_70, f_X1_search, S.k0, S.r0_6, S.k86, e0, h9, bg_lt hw, bg_gt hw]
      · have T := Q0.1
        have e1 : hI g (x + 107) 45 = nI r := Q0.2.1.1
        rw [hr] at e1
        simp (disch := omega) only [nm, bd_s, ko_K, ka_K, koK_t, kaK_t, kr_s, kn_s, kn_n, hK_sI, hR_sI, hK_sL, hR_sL, hI_sL, hL_sI, hL_sL, hI_sI, hN_sI, hN_sL, ch_G, ch_T, nb_0, nb_1, zb_G, d_T, d_F, d_eT, d_eF, b2i_t, b2i_f, tn_nI, fa_lit, fa_litL, m1_e, nI_add, pk_mul, pk_sub, nI_leI, nI_ltI, nI_eq, le_T, le_F, lt_T, lt_F, eq_T, eq_F, if_pos, if_neg, m1_le, m1_lt', m1_gt, m1_le', m1_eq, m1_qe, b2i_eq0, in_N, in_n, in_I, ↓reduceIte, Bool.true_eq_false, Bool.false_eq_true, reduceCtorEq, decide_eq_true_eq, decide_eq_false_iff_not, Nat.not_lt, Nat.not_le, not_true_eq_false, not_false_eq_true, true_and, and_true, and_self, false_and, and_false, true_or, or_true, false_or, or_false, f_X12_room_28, f_X12_room_27, f_X12_room, T.k, e1, in_bN hw]
    · by_cases w0 : w = 0
      · subst w0
        refine glue Q (v := -nI 1) ⟨_, ?_, C1, F1⟩ (fun g Q0 => ⟨g, ?_, Q0, FM.refl x g⟩) O
        · simp (disch := omega) only [nm, bd_s, ko_K, ka_K, koK_t, kaK_t, kr_s, kn_s, kn_n, hK_sI, hR_sI, hK_sL, hR_sL, hI_sL, hL_sI, hL_sL, hI_sI, hN_sI, hN_sL, ch_G, ch_T, nb_0, nb_1, zb_G, d_T, d_F, d_eT, d_eF, b2i_t, b2i_f, tn_nI, fa_lit, fa_litL, m1_e, nI_add, pk_mul, pk_sub, nI_leI, nI_ltI, nI_eq, le_T, le_F, lt_T, lt_F, eq_T, eq_F, if_pos, if_neg, m1_le, m1_lt', m1_gt, m1_le', m1_eq, m1_qe, b2i_eq0, in_N, in_n, in_I, ↓reduceIte, Bool.true_eq_false, Bool.false_eq_true, reduceCtorEq, decide_eq_true_eq, decide_eq_false_iff_not, Nat.not_lt, Nat.not_le, not_true_eq_false, not_false_eq_true, true_and, and_true, and_self, false_and, and_false, true_or, or_true, false_or, or_false, f_X11_room_33, f_X11_room_32, f_X11_room, f_X1_search_29, f_X1_search_181, f_X1_search_165, f_X1_search_200, b_X1_search_70, f_X1_search_70, f_X1_search, S.k0, S.r0_6, S.k86, e0, h9]
        · have T := Q0.1
          have e1 : hI g (x + 107) 45 = nI r := Q0.2.1.1
          rw [hr] at e1
          have lz : (lg_cmp (nI 0).toInt64 (lN 1) < nI 0) = True := eq_true (by decide)
          simp (disch := omega) only [nm, bd_s, ko_K, ka_K, koK_t, kaK_t, kr_s, kn_s, kn_n, hK_sI, hR_sI, hK_sL, hR_sL, hI_sL, hL_sI, hL_sL, hI_sI, hN_sI, hN_sL, ch_G, ch_T, nb_0, nb_1, zb_G, d_T, d_F, d_eT, d_eF, b2i_t, b2i_f, tn_nI, fa_lit, fa_litL, m1_e, nI_add, pk_mul, pk_sub, nI_leI, nI_ltI, nI_eq, le_T, le_F, lt_T, lt_F, eq_T, eq_F, if_pos, if_neg, m1_le, m1_lt', m1_gt, m1_le', m1_eq, m1_qe, b2i_eq0, in_N, in_n, in_I, ↓reduceIte, Bool.true_eq_false, Bool.false_eq_true, reduceCtorEq, decide_eq_true_eq, decide_eq_false_iff_not, Nat.not_lt, Nat.not_le, not_true_eq_false, not_false_eq_true, true_and, and_true, and_self, false_and, and_false, true_or, or_true, false_or, or_false, f_X12_room_28, f_X12_room_27, f_X12_room, f_X12_isIn_18, f_X12_isIn_17, f_X12_isIn, T.k, e1, lz]
      · obtain ⟨h1, i1, i2, i3, i4, i5, i6⟩ := c_search C O hr (a := a) (w := w) h9 (by omega) (by omega)
        refine glue Q (v := atS (seS M mem cd N w)) ⟨h1, ?_, i2, i3⟩ (fun g Q0 => ?_) O
        · have S1 := i2.1
          cases q : seS M mem cd N w with
          | none =>
            rw [q] at i1
            have i1 : f_X1_search (x + 86) a (nI w) h = some (nI 0, h1) := i1
            show _ = some (-nI 1, h1)
            simp (disch := omega) only [nm, bd_s, ko_K, ka_K, koK_t, kaK_t, kr_s, kn_s, kn_n, hK_sI, hR_sI, hK_sL, hR_sL, hI_sL, hL_sI, hL_sL, hI_sI, hN_sI, hN_sL, ch_G, ch_T, nb_0, nb_1, zb_G, d_T, d_F, d_eT, d_eF, b2i_t, b2i_f, tn_nI, fa_lit, fa_litL, m1_e, nI_add, pk_mul, pk_sub, nI_leI, nI_ltI, nI_eq, le_T, le_F, lt_T, lt_F, eq_T, eq_F, if_pos, if_neg, m1_le, m1_lt', m1_gt, m1_le', m1_eq, m1_qe, b2i_eq0, in_N, in_n, in_I, ↓reduceIte, Bool.true_eq_false, Bool.false_eq_true, reduceCtorEq, decide_eq_true_eq, decide_eq_false_iff_not, Nat.not_lt, Nat.not_le, not_true_eq_false, not_false_eq_true, true_and, and_true, and_self, false_and, and_false, true_or, or_true, false_or, or_false, f_X11_room_33, f_X11_room_32, f_X11_room, S.k0, S.r0_6, S.k86, e0, h9, i1]
          | some s =>
            obtain ⟨g0, a0, k0⟩ := s
            rw [q] at i1 i5
            have i1 : f_X1_search (x + 86) a (nI w) h = some (nI 1, h1) := i1
            have j5 : hI h1 (x + 86) 1 = nI a0 := i5.2.1
            show _ = some (nI a0, h1)
            simp (disch := omega) only [nm, bd_s, ko_K, ka_K, koK_t, kaK_t, kr_s, kn_s, kn_n, hK_sI, hR_sI, hK_sL, hR_sL, hI_sL, hL_sI, hL_sL, hI_sI, hN_sI, hN_sL, ch_G, ch_T, nb_0, nb_1, zb_G, d_T, d_F, d_eT, d_eF, b2i_t, b2i_f, tn_nI, fa_lit, fa_litL, m1_e, nI_add, pk_mul, pk_sub, nI_leI, nI_ltI, nI_eq, le_T, le_F, lt_T, lt_F, eq_T, eq_F, if_pos, if_neg, m1_le, m1_lt', m1_gt, m1_le', m1_eq, m1_qe, b2i_eq0, in_N, in_n, in_I, ↓reduceIte, Bool.true_eq_false, Bool.false_eq_true, reduceCtorEq, decide_eq_true_eq, decide_eq_false_iff_not, Nat.not_lt, Nat.not_le, not_true_eq_false, not_false_eq_true, true_and, and_true, and_self, false_and, and_false, true_or, or_true, false_or, or_false, f_X11_room_33, f_X11_room_32, f_X11_room, S.k0, S.r0_6, S.k86, e0, h9, i1, S1.k0, S1.r0_6, S1.k86, j5]
        · obtain ⟨g1, j1, j2, j3⟩ := m_roomFor Q0 O hr (w := w) (by omega) (by omega)
          have T := Q0.1
          have e1 : hI g (x + 107) 45 = nI r := Q0.2.1.1
          rw [hr] at e1
          refine ⟨g1, ?_, j2, j3⟩
          simp (disch := omega) only [nm, bd_s, ko_K, ka_K, koK_t, kaK_t, kr_s, kn_s, kn_n, hK_sI, hR_sI, hK_sL, hR_sL, hI_sL, hL_sI, hL_sL, hI_sI, hN_sI, hN_sL, ch_G, ch_T, nb_0, nb_1, zb_G, d_T, d_F, d_eT, d_eF, b2i_t, b2i_f, tn_nI, fa_lit, fa_litL, m1_e, nI_add, pk_mul, pk_sub, nI_leI, nI_ltI, nI_eq, le_T, le_F, lt_T, lt_F, eq_T, eq_F, if_pos, if_neg, m1_le, m1_lt', m1_gt, m1_le', m1_eq, m1_qe, b2i_eq0, in_N, in_n, in_I, ↓reduceIte, Bool.true_eq_false, Bool.false_eq_true, reduceCtorEq, decide_eq_true_eq, decide_eq_false_iff_not, Nat.not_lt, Nat.not_le, not_true_eq_false, not_false_eq_true, true_and, and_true, and_self, false_and, and_false, true_or, or_true, false_or, or_false, f_X12_room_28, f_X12_room_27, f_X12_room, T.k, e1, j1]
end Ro3
