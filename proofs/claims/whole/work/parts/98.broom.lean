section Ro2
variable {h : aH} {x r tl : Nat} {tp : Nat → Nat} {rf : Nat → Int32} {ft fp : Int32} {sd : Nat} {M mem sh : Nat} {ns : Nat → List Nat} {kd : Nat → Nat} {cd : Nat → List Nat} {N : tyN} {sl : Nat → tyN} {nx c cr : Nat} {rn : Nat} {rw_ : Nat → Nat} {on_ : Nat} {ob : Nat → Nat}
def HR (h : aH) (x n mem : Nat) (B L : Nat → Nat) (l : Nat) : Prop := hI h (x + 107) 55 = nI (hcN n mem B L (n + 1)) ∧ hI h (x + 107) 57 = nI l ∧ ∀ g, g < n + 1 → 0 < szN n mem B L g → hI h (x + 107 + 35) (2 * hcN n mem B L g) = nI (gst B L g) ∧ hI h (x + 107 + 35) (2 * hcN n mem B L g + 1) = nI (szN n mem B L g)
theorem HR.fr {h1 : aH} {n l : Nat} {B L : Nat → Nat} (q : HR h x n mem B L l) (e : ∀ b j, b = x + 107 ∧ (j = 55 ∨ j = 57) ∨ b = x + 107 + 35 → hI h1 b j = hI h b j) : HR h1 x n mem B L l := ⟨(e _ _ (by omega)).trans q.1, (e _ _ (by omega)).trans q.2.1, fun g hg hz => ⟨(e _ _ (by omega)).trans (q.2.2 g hg hz).1, (e _ _ (by omega)).trans (q.2.2 g hg hz).2⟩⟩
theorem m_gaps (O : Ok (r, tl, tp, rf, ft, fp, sd) (M, mem, sh, ns, kd, cd) N (sl, nx, c, cr) (rn, rw_) (on_, ob)) (hr : r = 1) {e l : Nat} (he : e ≤ 13) (l1 : 1 ≤ l) (l2 : l ≤ 4096) : ∀ (j g n : Nat) (σ : tyS) (hh : aH), g + j = N 256 + 1 → j < n → CM hh (x + 107) (r, tl, tp, rf, ft, fp, sd) (M, mem, sh, ns, kd, cd) N (sl, nx, c, cr) (rn, rw_) (on_, ob) → HR hh x (N 256) mem (obB N) (obL N) l → KSr σ → ∃ h1, f_X12_roomFor_73 n (x + 107) (nI e) (atS σ) (vL (rkS σ)) (nI (hcN (N 256) mem (obB N) (obL N) g)) hh = some (atS (fS (stS (N 256) mem (obB N) (obL N) cd e l) j g σ), h1) ∧ CM h1 (x + 107) (r, tl, tp, rf, ft, fp, sd) (M, mem, sh, ns, kd, cd) N (sl, nx, c, cr) (rn, rw_) (on_, ob) ∧ FM x hh h1 ∧ hI h1 (x + 107) 57 = nI l := by
  have okn := O.okn hr
  have okb := O.okb hr
  have n32 := okn.2.2.2.2.1
  have mm := okb.2.2.2.1
  intro j
  induction j with
  | zero =>
    intro g n σ hh hg hn Q H K
    obtain ⟨n, rfl⟩ : ∃ m, n = m + 1 := ⟨n - 1, by omega⟩
    have T := Q.1
    have hg : g = N 256 + 1 := by omega
    subst hg
    have e55 := H.1
    have hl := hc_le (n := N 256) (mem := mem) (B := obB N) (L := obL N) (N 256 + 1)
    refine ⟨hh, ?_, Q, FM.refl x hh, H.2.1⟩
    show _ = some (atS σ, hh)
    simp (disch := omega) only [nm, bd_s, ko_K, ka_K, koK_t, kaK_t, kr_s, kn_s, kn_n, hK_sI, hR_sI, hK_sL, hR_sL, hI_sL, hL_sI, hL_sL, hI_sI, hN_sI, hN_sL, ch_G, ch_T, nb_0, nb_1, zb_G, d_T, d_F, d_eT, d_eF, b2i_t, b2i_f, tn_nI, fa_lit, fa_litL, m1_e, nI_add, pk_mul, pk_sub, nI_leI, nI_ltI, nI_eq, le_T, le_F, lt_T, lt_F, eq_T, eq_F, if_pos, if_neg, m1_le, m1_lt', m1_gt, m1_le', m1_eq, m1_qe, b2i_eq0, in_N, in_n, in_I, ↓reduceIte, Bool.true_eq_false, Bool.false_eq_true, reduceCtorEq, decide_eq_true_eq, decide_eq_false_iff_not, Nat.not_lt, Nat.not_le, not_true_eq_false, not_false_eq_true, true_and, and_true, and_self, false_and, and_false, true_or, or_true, false_or, or_false, f_X12_roomFor_73, b_X12_roomFor_73, T.k, e55]
  | succ j ih =>
    intro g n σ hh hg hn Q H K
    obtain ⟨gt1, gt2⟩ := okn.gt (g := g) (by omega)
    have zz : gst (obB N) (obL N) g + szN (N 256) mem (obB N) (obL N) g ≤ mem := by unfold szN; omega
    have uz : fS (stS (N 256) mem (obB N) (obL N) cd e l) (j + 1) g σ = fS (stS (N 256) mem (obB N) (obL N) cd e l) j (g + 1) (stS (N 256) mem (obB N) (obL N) cd e l g σ) := rfl
    have stv : stS (N 256) mem (obB N) (obL N) cd e l g σ = (if upN (gst (obB N) (obL N) g) e + l ≤ gst (obB N) (obL N) g + szN (N 256) mem (obB N) (obL N) g then upS g (upN (gst (obB N) (obL N) g) e) (rkZ cd l (gst (obB N) (obL N) g) (szN (N 256) mem (obB N) (obL N) g)) σ else σ) := rfl
    rw [uz, stv]
    clear uz stv
    generalize stS (N 256) mem (obB N) (obL N) cd e l = F at *
    have q2 := upN_le (gst (obB N) (obL N) g) e
    have q1 := le_upN (gst (obB N) (obL N) g) e
    have q3 := p2_le (show e ≤ 13 by omega)
    by_cases sz : 0 < szN (N 256) mem (obB N) (obL N) g
    · obtain ⟨n, rfl⟩ : ∃ m, n = m + 1 := ⟨n - 1, by omega⟩
      have T := Q.1
      obtain ⟨e55, e57, rows⟩ := id H
      obtain ⟨w1, w2⟩ := rows g (by omega) sz
      have hs := hc_s1 sz
      have hm := hc_mono (n := N 256) (mem := mem) (B := obB N) (L := obL N) (show g + 1 ≤ N 256 + 1 by omega)
      have hl := hc_le (n := N 256) (mem := mem) (B := obB N) (L := obL N) (N 256 + 1)
      rw [hs] at hm
      have nxt := fun (σ1 : tyS) (h1 : aH) => ih (g + 1) n σ1 h1 (by omega) (by omega)
      rw [hs] at nxt
      have up : ((nI (gst (obB N) (obL N) g) + (nI 1 <<< (nI e &&& nI 31)) - nI 1) >>> (nI e &&& nI 31)) <<< (nI e &&& nI 31) = nI (upN (gst (obB N) (obL N) g) e) := up_nI (t := gst (obB N) (obL N) g) (e := e) (by omega) (by omega)
      generalize hcN (N 256) mem (obB N) (obL N) (N 256 + 1) = hN1 at *
      generalize hcN (N 256) mem (obB N) (obL N) g = q at *
      generalize szN (N 256) mem (obB N) (obL N) g = z at *
      generalize gst (obB N) (obL N) g = s at *
      generalize upN s e = u at *
      by_cases fit : u + l ≤ s + z
      · rw [if_pos fit]
        have Q1 : CM (sI (sI (sI hh (x + 107) 49 (nI l)) (x + 107) 50 (nI s)) (x + 107) 51 (nI z)) (x + 107) (r, tl, tp, rf, ft, fp, sd) (M, mem, sh, ns, kd, cd) N (sl, nx, c, cr) (rn, rw_) (on_, ob) := Q.sc rfl rfl (fun b j z => by unfold LM at z; rw [hI_sI, if_neg (by omega), hI_sI, if_neg (by omega), hI_sI, if_neg (by omega)]) rfl (fun _ _ => rfl)
        have F1 : FM x hh (sI (sI (sI hh (x + 107) 49 (nI l)) (x + 107) 50 (nI s)) (x + 107) 51 (nI z)) := ((FM.sI (by omega) (by omega)).trans (FM.sI (by omega) (by omega))).trans (FM.sI (by omega) (by omega))
        have H1 : HR (sI (sI (sI hh (x + 107) 49 (nI l)) (x + 107) 50 (nI s)) (x + 107) 51 (nI z)) x (N 256) mem (obB N) (obL N) l := H.fr (fun b j z => by rw [hI_sI, if_neg (by omega), hI_sI, if_neg (by omega), hI_sI, if_neg (by omega)])
        have g49 : hI (sI (sI (sI hh (x + 107) 49 (nI l)) (x + 107) 50 (nI s)) (x + 107) 51 (nI z)) (x + 107) 49 = nI l := by rw [hI_sI, if_neg (by omega), hI_sI, if_neg (by omega), hI_sI, if_pos ⟨rfl, rfl⟩]
        have g50 : hI (sI (sI (sI hh (x + 107) 49 (nI l)) (x + 107) 50 (nI s)) (x + 107) 51 (nI z)) (x + 107) 50 = nI s := by rw [hI_sI, if_neg (by omega), hI_sI, if_pos ⟨rfl, rfl⟩]
        have g51 : hI (sI (sI (sI hh (x + 107) 49 (nI l)) (x + 107) 50 (nI s)) (x + 107) 51 (nI z)) (x + 107) 51 = nI z := by rw [hI_sI, if_pos ⟨rfl, rfl⟩]
        obtain ⟨rk1, rk2⟩ := m_rank Q1 okb (l := l) (s := s) (z := z) l2 (by omega) (by omega) g49 g50 g51
        have T1 := Q1.1
        -- behind the rank
        have beh : ∀ g1, CM g1 (x + 107) (r, tl, tp, rf, ft, fp, sd) (M, mem, sh, ns, kd, cd) N (sl, nx, c, cr) (rn, rw_) (on_, ob) → HR g1 x (N 256) mem (obB N) (obL N) l → ∃ h1, f_X12_roomFor_194 (f_X12_roomFor_73 n) (x + 107) (nI e) (atS σ) (vL (rkS σ)) (nI q) (nI u) (vL (rkZ cd l s z)) g1 = some (atS (fS F j (g + 1) (upS g u (rkZ cd l s z) σ)), h1) ∧ CM h1 (x + 107) (r, tl, tp, rf, ft, fp, sd) (M, mem, sh, ns, kd, cd) N (sl, nx, c, cr) (rn, rw_) (on_, ob) ∧ FM x g1 h1 ∧ hI h1 (x + 107) 57 = nI l := by
          intro g1 G1 G2
          generalize rkZ cd l s z = rk at *
          have new := nxt (some (g, u, rk)) g1 G1 G2 ⟨by omega, rk1⟩
          cases σ with
          | none =>
            obtain ⟨h1, i1, i2⟩ := new
            have i1 : f_X12_roomFor_73 n (x + 107) (nI e) (nI u) (vL rk) (nI (q + 1)) g1 = _ := i1
            refine ⟨h1, ?_, i2⟩
            show f_X12_roomFor_194 (f_X12_roomFor_73 n) (x + 107) (nI e) (-nI 1) (vL (rkS none)) (nI q) (nI u) (vL rk) g1 = some (atS (fS F j (g + 1) (some (g, u, rk))), h1)
            simp (disch := omega) only [nm, bd_s, ko_K, ka_K, koK_t, kaK_t, kr_s, kn_s, kn_n, hK_sI, hR_sI, hK_sL, hR_sL, hI_sL, hL_sI, hL_sL, hI_sI, hN_sI, hN_sL, ch_G, ch_T, nb_0, nb_1, zb_G, d_T, d_F, d_eT, d_eF, b2i_t, b2i_f, tn_nI, fa_lit, fa_litL, m1_e, nI_add, pk_mul, pk_sub, nI_leI, nI_ltI, nI_eq, le_T, le_F, lt_T, lt_F, eq_T, eq_F, if_pos, if_neg, m1_le, m1_lt', m1_gt, m1_le', m1_eq, m1_qe, b2i_eq0, in_N, in_n, in_I, ↓reduceIte, Bool.true_eq_false, Bool.false_eq_true, reduceCtorEq, decide_eq_true_eq, decide_eq_false_iff_not, Nat.not_lt, Nat.not_le, not_true_eq_false, not_false_eq_true, true_and, and_true, and_self, false_and, and_false, true_or, or_true, false_or, or_false, f_X12_roomFor_194, f_X12_roomFor_213, f_X12_roomFor_221, i1]
          | some σ0 =>
            obtain ⟨g0, a0, k0⟩ := σ0
            have K : a0 ≤ 4096 ∧ OV false k0 := K
            have n1 := ne1 (n := a0) (by omega)
            obtain ⟨ka, kb, kc⟩ := K
            obtain ⟨ra, rb, rc⟩ := id rk1
            have cm : (lg_cmp (vL rk) (vL k0) < nI 0) = (rk < k0) := by rw [← vL_lt (a := rk) (b := k0) (by omega) (by omega) (by omega) (by omega)]; exact propext (lg_cmp_lt _ _)
            show ∃ h1, f_X12_roomFor_194 (f_X12_roomFor_73 n) (x + 107) (nI e) (nI a0) (vL k0) (nI q) (nI u) (vL rk) g1 = _ ∧ _
            by_cases ck : k0 ≤ rk
            · rw [upS_k ck]
              have cm := cm.trans (eq_false (show ¬ rk < k0 by omega))
              obtain ⟨h1, i1, i2⟩ := nxt (some (g0, a0, k0)) g1 G1 G2 ⟨ka, kb, kc⟩
              have i1 : f_X12_roomFor_73 n (x + 107) (nI e) (nI a0) (vL k0) (nI (q + 1)) g1 = _ := i1
              refine ⟨h1, ?_, i2⟩
              simp (disch := omega) only [nm, bd_s, ko_K, ka_K, koK_t, kaK_t, kr_s, kn_s, kn_n, hK_sI, hR_sI, hK_sL, hR_sL, hI_sL, hL_sI, hL_sL, hI_sI, hN_sI, hN_sL, ch_G, ch_T, nb_0, nb_1, zb_G, d_T, d_F, d_eT, d_eF, b2i_t, b2i_f, tn_nI, fa_lit, fa_litL, m1_e, nI_add, pk_mul, pk_sub, nI_leI, nI_ltI, nI_eq, le_T, le_F, lt_T, lt_F, eq_T, eq_F, if_pos, if_neg, m1_le, m1_lt', m1_gt, m1_le', m1_eq, m1_qe, b2i_eq0, in_N, in_n, in_I, ↓reduceIte, Bool.true_eq_false, Bool.false_eq_true, reduceCtorEq, decide_eq_true_eq, decide_eq_false_iff_not, Nat.not_lt, Nat.not_le, not_true_eq_false, not_false_eq_true, true_and, and_true, and_self, false_and, and_false, true_or, or_true, false_or, or_false, f_X12_roomFor_194, f_X12_roomFor_213, f_X12_roomFor_221, n1, cm, i1]
            · rw [upS_r ck]
              have cm := cm.trans (eq_true (show rk < k0 by omega))
              obtain ⟨h1, i1, i2⟩ := new
              have i1 : f_X12_roomFor_73 n (x + 107) (nI e) (nI u) (vL rk) (nI (q + 1)) g1 = _ := i1
              refine ⟨h1, ?_, i2⟩
              simp (disch := omega) only [nm, bd_s, ko_K, ka_K, koK_t, kaK_t, kr_s, kn_s, kn_n, hK_sI, hR_sI, hK_sL, hR_sL, hI_sL, hL_sI, hL_sL, hI_sI, hN_sI, hN_sL, ch_G, ch_T, nb_0, nb_1, zb_G, d_T, d_F, d_eT, d_eF, b2i_t, b2i_f, tn_nI, fa_lit, fa_litL, m1_e, nI_add, pk_mul, pk_sub, nI_leI, nI_ltI, nI_eq, le_T, le_F, lt_T, lt_F, eq_T, eq_F, if_pos, if_neg, m1_le, m1_lt', m1_gt, m1_le', m1_eq, m1_qe, b2i_eq0, in_N, in_n, in_I, ↓reduceIte, Bool.true_eq_false, Bool.false_eq_true, reduceCtorEq, decide_eq_true_eq, decide_eq_false_iff_not, Nat.not_lt, Nat.not_le, not_true_eq_false, not_false_eq_true, true_and, and_true, and_self, false_and, and_false, true_or, or_true, false_or, or_false, f_X12_roomFor_194, f_X12_roomFor_213, f_X12_roomFor_221, n1, cm, i1]
        rcases rk2 with ⟨ic, rks⟩ | ⟨ic, d', f', r1⟩
        · obtain ⟨h1, i1, i2, i3, i4⟩ := beh _ Q1 H1
          have lz : (nI s).toInt64 = vL (rkZ cd l s z) := by rw [rks, nI_l (by omega), vL_n]
          refine ⟨h1, ?_, i2, F1.trans i3, i4⟩
          simp (disch := omega) only [nm, bd_s, ko_K, ka_K, koK_t, kaK_t, kr_s, kn_s, kn_n, hK_sI, hR_sI, hK_sL, hR_sL, hI_sL, hL_sI, hL_sL, hI_sI, hN_sI, hN_sL, ch_G, ch_T, nb_0, nb_1, zb_G, d_T, d_F, d_eT, d_eF, b2i_t, b2i_f, tn_nI, fa_lit, fa_litL, m1_e, nI_add, pk_mul, pk_sub, nI_leI, nI_ltI, nI_eq, le_T, le_F, lt_T, lt_F, eq_T, eq_F, if_pos, if_neg, m1_le, m1_lt', m1_gt, m1_le', m1_eq, m1_qe, b2i_eq0, in_N, in_n, in_I, ↓reduceIte, Bool.true_eq_false, Bool.false_eq_true, reduceCtorEq, decide_eq_true_eq, decide_eq_false_iff_not, Nat.not_lt, Nat.not_le, not_true_eq_false, not_false_eq_true, true_and, and_true, and_self, false_and, and_false, true_or, or_true, false_or, or_false, f_X12_roomFor_73, b_X12_roomFor_73, T.k, e55, T.r56, T.k56, w1, w2, up, e57, ic, lz, i1]
        · obtain ⟨Q2, F2⟩ := PL.sc Q1 (w := 0) (d := d') (f := f')
          have H2 : HR (PL (sI (sI (sI (sI hh (x + 107) 49 (nI l)) (x + 107) 50 (nI s)) (x + 107) 51 (nI z)) (x + 107) 46 (nI 0)) (x + 107) d' f') x (N 256) mem (obB N) (obL N) l := H1.fr (fun b j z => by rw [PL_o (by omega), hI_sI, if_neg (by omega)])
          obtain ⟨h1, i1, i2, i3, i4⟩ := beh _ Q2 H2
          refine ⟨h1, ?_, i2, (F1.trans F2).trans i3, i4⟩
          generalize PL (sI (sI (sI (sI hh (x + 107) 49 (nI l)) (x + 107) 50 (nI s)) (x + 107) 51 (nI z)) (x + 107) 46 (nI 0)) (x + 107) d' f' = h5 at *
          simp (disch := omega) only [nm, bd_s, ko_K, ka_K, koK_t, kaK_t, kr_s, kn_s, kn_n, hK_sI, hR_sI, hK_sL, hR_sL, hI_sL, hL_sI, hL_sL, hI_sI, hN_sI, hN_sL, ch_G, ch_T, nb_0, nb_1, zb_G, d_T, d_F, d_eT, d_eF, b2i_t, b2i_f, tn_nI, fa_lit, fa_litL, m1_e, nI_add, pk_mul, pk_sub, nI_leI, nI_ltI, nI_eq, le_T, le_F, lt_T, lt_F, eq_T, eq_F, if_pos, if_neg, m1_le, m1_lt', m1_gt, m1_le', m1_eq, m1_qe, b2i_eq0, in_N, in_n, in_I, ↓reduceIte, Bool.true_eq_false, Bool.false_eq_true, reduceCtorEq, decide_eq_true_eq, decide_eq_false_iff_not, Nat.not_lt, Nat.not_le, not_true_eq_false, not_false_eq_true, true_and, and_true, and_self, false_and, and_false, true_or, or_true, false_or, or_false, f_X12_roomFor_73, b_X12_roomFor_73, T.k, e55, T.r56, T.k56, w1, w2, up, e57, ic, r1, i1]
      · rw [if_neg fit]
        obtain ⟨h1, i1, i2⟩ := nxt σ hh Q H K
        refine ⟨h1, ?_, i2⟩
        simp (disch := omega) only [nm, bd_s, ko_K, ka_K, koK_t, kaK_t, kr_s, kn_s, kn_n, hK_sI, hR_sI, hK_sL, hR_sL, hI_sL, hL_sI, hL_sL, hI_sI, hN_sI, hN_sL, ch_G, ch_T, nb_0, nb_1, zb_G, d_T, d_F, d_eT, d_eF, b2i_t, b2i_f, tn_nI, fa_lit, fa_litL, m1_e, nI_add, pk_mul, pk_sub, nI_leI, nI_ltI, nI_eq, le_T, le_F, lt_T, lt_F, eq_T, eq_F, if_pos, if_neg, m1_le, m1_lt', m1_gt, m1_le', m1_eq, m1_qe, b2i_eq0, in_N, in_n, in_I, ↓reduceIte, Bool.true_eq_false, Bool.false_eq_true, reduceCtorEq, decide_eq_true_eq, decide_eq_false_iff_not, Nat.not_lt, Nat.not_le, not_true_eq_false, not_false_eq_true, true_and, and_true, and_self, false_and, and_false, true_or, or_true, false_or, or_false, f_X12_roomFor_73, b_X12_roomFor_73, f_X12_roomFor_221, T.k, e55, T.r56, T.k56, w1, w2, up, e57, i1]
    · rw [if_neg (show ¬ upN (gst (obB N) (obL N) g) e + l ≤ gst (obB N) (obL N) g + szN (N 256) mem (obB N) (obL N) g by omega), ← hc_s0 sz]
      exact ih (g + 1) n σ hh (by omega) (by omega) Q H K
end Ro2
