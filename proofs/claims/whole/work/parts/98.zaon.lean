/-! on: the reference reads -/
section On3
variable {h : aH} {x r tl : Nat} {tp : Nat → Nat} {rf : Nat → Int32} {ft fp : Int32} {sd : Nat} {M mem sh : Nat} {ns : Nat → List Nat} {kd : Nat → Nat} {cd : Nat → List Nat} {N : tyN} {sl : Nat → tyN} {nx c cr : Nat} {rn : Nat} {rw_ : Nat → Nat} {on_ : Nat} {ob : Nat → Nat}
theorem m_cellsT (Q : CM h (x + 107) (r, 0, tp, rf, ft, fp, sd) (M, mem, sh, ns, kd, cd) N (sl, nx, c, cr) (rn, rw_) (on_, ob)) (O : Ok (r, tl, tp, rf, ft, fp, sd) (M, mem, sh, ns, kd, cd) N (sl, nx, c, cr) (rn, rw_) (on_, ob)) (hr : r = 1) {o w : Nat} {g1 : aH} (hw : w ≤ 1) (ao : f_X12_areObjectsTold (x + 107) (nI (8 * (16 + 4 * sh) + 1)) (nI o) h = some (nI w, g1)) : ∀ (j i n : Nat), i + j = 16 + 4 * sh → j < n → ((∀ k, i ≤ k → k < 16 + 4 * sh → clP' M kd tp k) → f_X12_isImage_86 n (x + 107) (nI (16 + 4 * sh)) (nI o) (nI i) h = some (nI w, g1)) ∧ (¬ (∀ k, i ≤ k → k < 16 + 4 * sh → clP' M kd tp k) → f_X12_isImage_86 n (x + 107) (nI (16 + 4 * sh)) (nI o) (nI i) h = some (nI 0, h)) := by
  obtain ⟨h4, h8, -, mm, s4, -, kd7, -⟩ := O.okb hr
  have tb : ∀ j, tp j ≤ 255 := O.1.2.1
  have T := Q.1
  have hb : ∀ j, j < 1600 → hI h (x + 107 + 1) j = nI (tp j) := Q.2.1.2.2.1
  have m1 : hI h (x + 107 + 28) 4 = nI M := Q.2.2.1.2.1
  intro j
  induction j with
  | zero =>
    intro i n hi hn
    obtain ⟨n, rfl⟩ : ∃ k, n = k + 1 := ⟨n - 1, by omega⟩
    have hi : i = 16 + 4 * sh := by omega
    subst hi
    refine ⟨fun _ => ?_, fun z => absurd (fun k h1 h2 => by omega) z⟩
    rcases (show w = 0 ∨ w = 1 by omega) with rfl | rfl <;> simp (disch := omega) only [nm, bd_s, ko_K, ka_K, koK_t, kaK_t, kr_s, kn_s, kn_n, hK_sI, hR_sI, hK_sL, hR_sL, hI_sL, hL_sI, hL_sL, hI_sI, hN_sI, hN_sL, ch_G, ch_T, nb_0, nb_1, zb_G, d_T, d_F, d_eT, d_eF, b2i_t, b2i_f, tn_nI, fa_lit, fa_litL, m1_e, nI_add, pk_mul, pk_sub, nI_leI, nI_ltI, nI_eq, le_T, le_F, lt_T, lt_F, eq_T, eq_F, if_pos, if_neg, m1_le, m1_lt', m1_gt, m1_le', m1_eq, m1_qe, b2i_eq0, in_N, in_n, in_I, ↓reduceIte, Bool.true_eq_false, Bool.false_eq_true, reduceCtorEq, decide_eq_true_eq, decide_eq_false_iff_not, Nat.not_lt, Nat.not_le, not_true_eq_false, not_false_eq_true, true_and, and_true, and_self, false_and, and_false, true_or, or_true, false_or, or_false, f_X12_isImage_86, b_X12_isImage_86, T.k, ao]
  | succ j ih =>
    intro i n hi hn
    obtain ⟨n, rfl⟩ : ∃ k, n = k + 1 := ⟨n - 1, by omega⟩
    obtain ⟨i1, i2⟩ := ih (i + 1) n (by omega) (by omega)
    have sp : (8 : Int32) * nI i = nI (8 * i) := pk_mul 8 i
    have em : f_X12_isEmptyTold (x + 107) (8 * nI i) h = some (b2i (emT tp (8 * i)), h) := by rw [sp]; exact m_emp T hb tb (by omega)
    obtain ⟨p1, p2⟩ := m_ptrT (a := 8 * i) T m1 hb tb h4 h8 (by omega)
    have t7 := tb (8 * i + 7)
    -- what one cell does
    have one : (clP' M kd tp i → f_X12_isImage_86 (n + 1) (x + 107) (nI (16 + 4 * sh)) (nI o) (nI i) h = f_X12_isImage_86 n (x + 107) (nI (16 + 4 * sh)) (nI o) (nI (i + 1)) h) ∧ (¬ clP' M kd tp i → f_X12_isImage_86 (n + 1) (x + 107) (nI (16 + 4 * sh)) (nI o) (nI i) h = some (nI 0, h)) := by
      have tail : (¬ (16 ≤ i ∧ emT tp (8 * i) = true)) → f_X12_isImage_86 (n + 1) (x + 107) (nI (16 + 4 * sh)) (nI o) (nI i) h = f_X12_isImage_114 (f_X12_isImage_86 n) (x + 107) (nI (16 + 4 * sh)) (nI o) (nI i) h := by
        intro e
        by_cases c16 : i < 16
        · simp (disch := omega) only [nm, bd_s, ko_K, ka_K, koK_t, kaK_t, kr_s, kn_s, kn_n, hK_sI, hR_sI, hK_sL, hR_sL, hI_sL, hL_sI, hL_sL, hI_sI, hN_sI, hN_sL, ch_G, ch_T, nb_0, nb_1, zb_G, d_T, d_F, d_eT, d_eF, b2i_t, b2i_f, tn_nI, fa_lit, fa_litL, m1_e, nI_add, pk_mul, pk_sub, nI_leI, nI_ltI, nI_eq, le_T, le_F, lt_T, lt_F, eq_T, eq_F, if_pos, if_neg, m1_le, m1_lt', m1_gt, m1_le', m1_eq, m1_qe, b2i_eq0, in_N, in_n, in_I, ↓reduceIte, Bool.true_eq_false, Bool.false_eq_true, reduceCtorEq, decide_eq_true_eq, decide_eq_false_iff_not, Nat.not_lt, Nat.not_le, not_true_eq_false, not_false_eq_true, true_and, and_true, and_self, false_and, and_false, true_or, or_true, false_or, or_false, f_X12_isImage_86, b_X12_isImage_86]
        · have e0 : emT tp (8 * i) = false := by
            cases q : emT tp (8 * i) with
            | false => rfl
            | true => exact absurd ⟨by omega, q⟩ e
          rw [e0, b2i_f] at em
          simp (disch := omega) only [nm, bd_s, ko_K, ka_K, koK_t, kaK_t, kr_s, kn_s, kn_n, hK_sI, hR_sI, hK_sL, hR_sL, hI_sL, hL_sI, hL_sL, hI_sI, hN_sI, hN_sL, ch_G, ch_T, nb_0, nb_1, zb_G, d_T, d_F, d_eT, d_eF, b2i_t, b2i_f, tn_nI, fa_lit, fa_litL, m1_e, nI_add, pk_mul, pk_sub, nI_leI, nI_ltI, nI_eq, le_T, le_F, lt_T, lt_F, eq_T, eq_F, if_pos, if_neg, m1_le, m1_lt', m1_gt, m1_le', m1_eq, m1_qe, b2i_eq0, in_N, in_n, in_I, ↓reduceIte, Bool.true_eq_false, Bool.false_eq_true, reduceCtorEq, decide_eq_true_eq, decide_eq_false_iff_not, Nat.not_lt, Nat.not_le, not_true_eq_false, not_false_eq_true, true_and, and_true, and_self, false_and, and_false, true_or, or_true, false_or, or_false, f_X12_isImage_86, b_X12_isImage_86, ↓ko_t T.k, ↓bd_t em]
      by_cases e : 16 ≤ i ∧ emT tp (8 * i) = true
      · rw [e.2, b2i_t] at em
        refine ⟨fun _ => ?_, fun z => absurd (Or.inl e) z⟩
        have c16 := e.1
        simp (disch := omega) only [nm, bd_s, ko_K, ka_K, koK_t, kaK_t, kr_s, kn_s, kn_n, hK_sI, hR_sI, hK_sL, hR_sL, hI_sL, hL_sI, hL_sL, hI_sI, hN_sI, hN_sL, ch_G, ch_T, nb_0, nb_1, zb_G, d_T, d_F, d_eT, d_eF, b2i_t, b2i_f, tn_nI, fa_lit, fa_litL, m1_e, nI_add, pk_mul, pk_sub, nI_leI, nI_ltI, nI_eq, le_T, le_F, lt_T, lt_F, eq_T, eq_F, if_pos, if_neg, m1_le, m1_lt', m1_gt, m1_le', m1_eq, m1_qe, b2i_eq0, in_N, in_n, in_I, ↓reduceIte, Bool.true_eq_false, Bool.false_eq_true, reduceCtorEq, decide_eq_true_eq, decide_eq_false_iff_not, Nat.not_lt, Nat.not_le, not_true_eq_false, not_false_eq_true, true_and, and_true, and_self, false_and, and_false, true_or, or_true, false_or, or_false, f_X12_isImage_86, b_X12_isImage_86, f_X12_isImage_165, ↓ko_t T.k, ↓bd_t em]
      · rw [tail e]
        by_cases cp : ceP M tp (8 * i)
        · have pt : f_X12_isPointerTold (x + 107) (8 * nI i) h = some (nI 1, h) := by rw [sp]; exact p1 cp
          by_cases c16 : i < 16
          · refine ⟨fun _ => ?_, fun z => absurd (Or.inr ⟨cp, fun y => by omega⟩) z⟩
            simp (disch := omega) only [nm, bd_s, ko_K, ka_K, koK_t, kaK_t, kr_s, kn_s, kn_n, hK_sI, hR_sI, hK_sL, hR_sL, hI_sL, hL_sI, hL_sL, hI_sI, hN_sI, hN_sL, ch_G, ch_T, nb_0, nb_1, zb_G, d_T, d_F, d_eT, d_eF, b2i_t, b2i_f, tn_nI, fa_lit, fa_litL, m1_e, nI_add, pk_mul, pk_sub, nI_leI, nI_ltI, nI_eq, le_T, le_F, lt_T, lt_F, eq_T, eq_F, if_pos, if_neg, m1_le, m1_lt', m1_gt, m1_le', m1_eq, m1_qe, b2i_eq0, in_N, in_n, in_I, ↓reduceIte, Bool.true_eq_false, Bool.false_eq_true, reduceCtorEq, decide_eq_true_eq, decide_eq_false_iff_not, Nat.not_lt, Nat.not_le, not_true_eq_false, not_false_eq_true, true_and, and_true, and_self, false_and, and_false, true_or, or_true, false_or, or_false, f_X12_isImage_114, f_X12_isImage_165, ↓ko_t T.k, ↓bd_t pt]
          · have kk : hI h (x + 107 + 30) (4 + (i - 16) / 4) = nI (kd ((i - 16) / 4)) := Q.2.2.1.2.2.2.2.1 ((i - 16) / 4) (by show (i - 16) / 4 < sh; omega) (by omega)
            have k7 := (kd7 ((i - 16) / 4) (by omega)).2
            have dv : nI (i - 16) / nI 4 = nI ((i - 16) / 4) := pk_div (by omega) (by omega) (by omega)
            have v7 := hb (8 * i + 7) (by omega)
            obtain ⟨u, hu⟩ : ∃ u, u = (i - 16) / 4 := ⟨_, rfl⟩
            have u4 : u < 4 := by omega
            rw [← hu] at kk k7 dv
            by_cases ck : tp (8 * i + 7) = kd ((i - 16) / 4)
            · refine ⟨fun _ => ?_, fun z => absurd (Or.inr ⟨cp, fun _ => ck⟩) z⟩
              rw [ck, ← hu] at v7
              simp (disch := omega) only [nm, bd_s, ko_K, ka_K, koK_t, kaK_t, kr_s, kn_s, kn_n, hK_sI, hR_sI, hK_sL, hR_sL, hI_sL, hL_sI, hL_sL, hI_sI, hN_sI, hN_sL, ch_G, ch_T, nb_0, nb_1, zb_G, d_T, d_F, d_eT, d_eF, b2i_t, b2i_f, tn_nI, fa_lit, fa_litL, m1_e, nI_add, pk_mul, pk_sub, nI_leI, nI_ltI, nI_eq, le_T, le_F, lt_T, lt_F, eq_T, eq_F, if_pos, if_neg, m1_le, m1_lt', m1_gt, m1_le', m1_eq, m1_qe, b2i_eq0, in_N, in_n, in_I, ↓reduceIte, Bool.true_eq_false, Bool.false_eq_true, reduceCtorEq, decide_eq_true_eq, decide_eq_false_iff_not, Nat.not_lt, Nat.not_le, not_true_eq_false, not_false_eq_true, true_and, and_true, and_self, false_and, and_false, true_or, or_true, false_or, or_false, f_X12_isImage_114, f_X12_isImage_165, ↓ko_t T.k, ↓bd_t pt, ↓kr_t T.r0, ↓ka_t T.k0, ↓kr_t T.r39, ↓ka_t T.k39, dv, v7, kk]
            · refine ⟨fun z => absurd ((z.resolve_left e).2 (by omega)) ck, fun _ => ?_⟩
              rw [← hu] at ck
              simp (disch := omega) only [nm, bd_s, ko_K, ka_K, koK_t, kaK_t, kr_s, kn_s, kn_n, hK_sI, hR_sI, hK_sL, hR_sL, hI_sL, hL_sI, hL_sL, hI_sI, hN_sI, hN_sL, ch_G, ch_T, nb_0, nb_1, zb_G, d_T, d_F, d_eT, d_eF, b2i_t, b2i_f, tn_nI, fa_lit, fa_litL, m1_e, nI_add, pk_mul, pk_sub, nI_leI, nI_ltI, nI_eq, le_T, le_F, lt_T, lt_F, eq_T, eq_F, if_pos, if_neg, m1_le, m1_lt', m1_gt, m1_le', m1_eq, m1_qe, b2i_eq0, in_N, in_n, in_I, ↓reduceIte, Bool.true_eq_false, Bool.false_eq_true, reduceCtorEq, decide_eq_true_eq, decide_eq_false_iff_not, Nat.not_lt, Nat.not_le, not_true_eq_false, not_false_eq_true, true_and, and_true, and_self, false_and, and_false, true_or, or_true, false_or, or_false, f_X12_isImage_114, f_X12_isImage_163, ↓ko_t T.k, ↓bd_t pt, ↓kr_t T.r0, ↓ka_t T.k0, ↓kr_t T.r39, ↓ka_t T.k39, dv, v7, kk]
        · have pt : f_X12_isPointerTold (x + 107) (8 * nI i) h = some (nI 0, h) := by rw [sp]; exact p2 cp
          refine ⟨fun z => absurd (z.resolve_left e).1 cp, fun _ => ?_⟩
          simp (disch := omega) only [nm, bd_s, ko_K, ka_K, koK_t, kaK_t, kr_s, kn_s, kn_n, hK_sI, hR_sI, hK_sL, hR_sL, hI_sL, hL_sI, hL_sL, hI_sI, hN_sI, hN_sL, ch_G, ch_T, nb_0, nb_1, zb_G, d_T, d_F, d_eT, d_eF, b2i_t, b2i_f, tn_nI, fa_lit, fa_litL, m1_e, nI_add, pk_mul, pk_sub, nI_leI, nI_ltI, nI_eq, le_T, le_F, lt_T, lt_F, eq_T, eq_F, if_pos, if_neg, m1_le, m1_lt', m1_gt, m1_le', m1_eq, m1_qe, b2i_eq0, in_N, in_n, in_I, ↓reduceIte, Bool.true_eq_false, Bool.false_eq_true, reduceCtorEq, decide_eq_true_eq, decide_eq_false_iff_not, Nat.not_lt, Nat.not_le, not_true_eq_false, not_false_eq_true, true_and, and_true, and_self, false_and, and_false, true_or, or_true, false_or, or_false, f_X12_isImage_114, f_X12_isImage_163, ↓ko_t T.k, ↓bd_t pt]
    by_cases cc : clP' M kd tp i
    · rw [one.1 cc]
      refine ⟨fun z => i1 (fun k q1 q2 => z k (by omega) q2), fun z => i2 (fun y => z (fun k q1 q2 => ?_))⟩
      by_cases e : k = i
      · rw [e]; exact cc
      · exact y k (by omega) q2
    · exact ⟨fun z => absurd (z i (by omega) (by omega)) cc, fun _ => one.2 cc⟩
theorem m_objsT (O : Ok (r, tl, tp, rf, ft, fp, sd) (M, mem, sh, ns, kd, cd) N (sl, nx, c, cr) (rn, rw_) (on_, ob)) (hr : r = 1) {o : Nat} (o32 : o ≤ 32) : ∀ (j i n : Nat) (hh : aH), i + j = o → j < n → CM hh (x + 107) (r, 0, tp, rf, ft, fp, sd) (M, mem, sh, ns, kd, cd) N (sl, nx, c, cr) (rn, rw_) (on_, ob) → gst (bT tp sh) (lT tp sh) i ≤ 1024 → ∃ h1, CM h1 (x + 107) (r, 0, tp, rf, ft, fp, sd) (M, mem, sh, ns, kd, cd) N (sl, nx, c, cr) (rn, rw_) (on_, ob) ∧ FM x hh h1 ∧ ((∀ k, i ≤ k → k < o → obP M mem sh tp k) → f_X12_areObjectsTold_6 n (x + 107) (nI (8 * (16 + 4 * sh) + 1)) (nI o) (nI (gst (bT tp sh) (lT tp sh) i)) (nI i) hh = some (nI 1, h1)) ∧ (¬ (∀ k, i ≤ k → k < o → obP M mem sh tp k) → f_X12_areObjectsTold_6 n (x + 107) (nI (8 * (16 + 4 * sh) + 1)) (nI o) (nI (gst (bT tp sh) (lT tp sh) i)) (nI i) hh = some (nI 0, h1)) := by
  obtain ⟨h4, h8, -, mm, s4, -⟩ := O.okb hr
  have tb : ∀ j, tp j ≤ 255 := O.1.2.1
  intro j
  induction j with
  | zero =>
    intro i n hh hi hn Q gl
    obtain ⟨n, rfl⟩ : ∃ k, n = k + 1 := ⟨n - 1, by omega⟩
    have hi : i = o := by omega
    subst hi
    refine ⟨hh, Q, FM.refl x hh, fun _ => ?_, fun z => absurd (fun k h1 h2 => by omega) z⟩
    simp (disch := omega) only [nm, bd_s, ko_K, ka_K, koK_t, kaK_t, kr_s, kn_s, kn_n, hK_sI, hR_sI, hK_sL, hR_sL, hI_sL, hL_sI, hL_sL, hI_sI, hN_sI, hN_sL, ch_G, ch_T, nb_0, nb_1, zb_G, d_T, d_F, d_eT, d_eF, b2i_t, b2i_f, tn_nI, fa_lit, fa_litL, m1_e, nI_add, pk_mul, pk_sub, nI_leI, nI_ltI, nI_eq, le_T, le_F, lt_T, lt_F, eq_T, eq_F, if_pos, if_neg, m1_le, m1_lt', m1_gt, m1_le', m1_eq, m1_qe, b2i_eq0, in_N, in_n, in_I, ↓reduceIte, Bool.true_eq_false, Bool.false_eq_true, reduceCtorEq, decide_eq_true_eq, decide_eq_false_iff_not, Nat.not_lt, Nat.not_le, not_true_eq_false, not_false_eq_true, true_and, and_true, and_self, false_and, and_false, true_or, or_true, false_or, or_false, f_X12_areObjectsTold_6, b_X12_areObjectsTold_6]
  | succ j ih =>
    intro i n hh hi hn Q gl
    obtain ⟨n, rfl⟩ : ∃ k, n = k + 1 := ⟨n - 1, by omega⟩
    have T := Q.1
    have hb : ∀ j, j < 1600 → hI hh (x + 107 + 1) j = nI (tp j) := Q.2.1.2.2.1
    have m1 : hI hh (x + 107 + 28) 4 = nI M := Q.2.2.1.2.1
    have m0 : hI hh (x + 107 + 28) 3 = nI mem := Q.2.2.1.1
    have s6 : nI (8 * (16 + 4 * sh) + 1) + (6 : Int32) * nI i = nI (8 * (16 + 4 * sh) + 1 + 6 * i) := by rw [show (6 : Int32) * nI i = nI (6 * i) from pk_mul 6 i, nI_add]
    have w1 : f_X12_twoAt (x + 107) (nI (8 * (16 + 4 * sh) + 1) + 6 * nI i) hh = some (nI (bT tp sh i), hh) := by rw [s6]; exact m_two T hb (by omega)
    have w2 : f_X12_twoAt (x + 107) (nI (8 * (16 + 4 * sh) + 1) + 6 * nI i + 2) hh = some (nI (lT tp sh i), hh) := by rw [s6, show nI (8 * (16 + 4 * sh) + 1 + 6 * i) + 2 = nI (8 * (16 + 4 * sh) + 1 + 6 * i + 2) from nI_add _ 2]; exact m_two T hb (by omega)
    have w3 : f_X12_twoAt (x + 107) (nI (8 * (16 + 4 * sh) + 1) + 6 * nI i + 4) hh = some (nI (aT tp sh i), hh) := by rw [s6, show nI (8 * (16 + 4 * sh) + 1 + 6 * i) + 4 = nI (8 * (16 + 4 * sh) + 1 + 6 * i + 4) from nI_add _ 4]; exact m_two T hb (by omega)
    have t1 : bT tp sh i ≤ 65535 := tw_le tb _
    have t2 : lT tp sh i ≤ 65535 := tw_le tb _
    have t3 : aT tp sh i ≤ 65535 := tw_le tb _
    have ii : f_X12_isIn (nI (aT tp sh i)).toInt64 1 (nI (lT tp sh i)).toInt64 hh = some (b2i (decide (1 ≤ aT tp sh i ∧ aT tp sh i ≤ lT tp sh i)), hh) := in_I (a := 1) (by omega) (by omega) (by omega)
    have no : f_X12_areObjectsTold_6 (n + 1) (x + 107) (nI (8 * (16 + 4 * sh) + 1)) (nI o) (nI (gst (bT tp sh) (lT tp sh) i)) (nI i) hh = some (nI 0, hh) → ¬ obP M mem sh tp i → ∃ h1, CM h1 (x + 107) (r, 0, tp, rf, ft, fp, sd) (M, mem, sh, ns, kd, cd) N (sl, nx, c, cr) (rn, rw_) (on_, ob) ∧ FM x hh h1 ∧ ((∀ k, i ≤ k → k < o → obP M mem sh tp k) → f_X12_areObjectsTold_6 (n + 1) (x + 107) (nI (8 * (16 + 4 * sh) + 1)) (nI o) (nI (gst (bT tp sh) (lT tp sh) i)) (nI i) hh = some (nI 1, h1)) ∧ (¬ (∀ k, i ≤ k → k < o → obP M mem sh tp k) → f_X12_areObjectsTold_6 (n + 1) (x + 107) (nI (8 * (16 + 4 * sh) + 1)) (nI o) (nI (gst (bT tp sh) (lT tp sh) i)) (nI i) hh = some (nI 0, h1)) := fun e np => ⟨hh, Q, FM.refl x hh, fun z => absurd (z i (by omega) (by omega)) np, fun _ => e⟩
    by_cases c1 : gst (bT tp sh) (lT tp sh) i ≤ bT tp sh i
    · by_cases c2 : bT tp sh i + lT tp sh i ≤ mem
      · by_cases c3 : 1 ≤ aT tp sh i ∧ aT tp sh i ≤ lT tp sh i
        · rw [decide_eq_true c3, b2i_t] at ii
          have en := m_encodes T m1 (b := bT tp sh i) (l := lT tp sh i) (by omega) h4 h8
          obtain ⟨Q1, F1⟩ := Q.enc (bT tp sh i) (bT tp sh i + lT tp sh i) (lexN (bT tp sh i) (bT tp sh i + lT tp sh i) M)
          have le := lexN_le (bT tp sh i) (bT tp sh i + lT tp sh i) M
          have ie := m_isExact Q1.1 (b := bT tp sh i) (l := lT tp sh i) (e := lexN (bT tp sh i) (bT tp sh i + lT tp sh i) M) (enc_53 _ _ _ _ _) (enc_54 _ _ _ _ _) (by omega) (by omega)
          rw [show (decide (dnN (bT tp sh i) (lexN (bT tp sh i) (bT tp sh i + lT tp sh i) M) = bT tp sh i) && decide (upN (bT tp sh i + lT tp sh i) (lexN (bT tp sh i) (bT tp sh i + lT tp sh i) M) = bT tp sh i + lT tp sh i)) = exT M (bT tp sh i) (lT tp sh i) from rfl] at ie
          have gs1 : gst (bT tp sh) (lT tp sh) (i + 1) = bT tp sh i + lT tp sh i := by unfold gst; rw [if_neg (by omega), show i + 1 - 1 = i by omega]
          have T1 := Q1.1
          generalize encM hh (x + 107) (bT tp sh i) (bT tp sh i + lT tp sh i) (lexN (bT tp sh i) (bT tp sh i + lT tp sh i) M) = g1 at *
          by_cases c5 : exT M (bT tp sh i) (lT tp sh i) = true
          · have pp : obP M mem sh tp i := ⟨c1, c2, c3.1, c3.2, c5⟩
            rw [c5, b2i_t] at ie
            obtain ⟨h1, i1, i2, i3, i4⟩ := ih (i + 1) n g1 (by omega) (by omega) Q1 (by rw [gs1]; omega)
            rw [gs1] at i3 i4
            have go : f_X12_areObjectsTold_6 (n + 1) (x + 107) (nI (8 * (16 + 4 * sh) + 1)) (nI o) (nI (gst (bT tp sh) (lT tp sh) i)) (nI i) hh = f_X12_areObjectsTold_6 n (x + 107) (nI (8 * (16 + 4 * sh) + 1)) (nI o) (nI (bT tp sh i + lT tp sh i)) (nI (i + 1)) g1 := by
              generalize gst (bT tp sh) (lT tp sh) i = gg at *
              generalize bT tp sh i = b at *
              generalize lT tp sh i = l at *
              simp (disch := omega) only [nm, bd_s, ko_K, ka_K, koK_t, kaK_t, kr_s, kn_s, kn_n, hK_sI, hR_sI, hK_sL, hR_sL, hI_sL, hL_sI, hL_sL, hI_sI, hN_sI, hN_sL, ch_G, ch_T, nb_0, nb_1, zb_G, d_T, d_F, d_eT, d_eF, b2i_t, b2i_f, tn_nI, fa_lit, fa_litL, m1_e, nI_add, pk_mul, pk_sub, nI_leI, nI_ltI, nI_eq, le_T, le_F, lt_T, lt_F, eq_T, eq_F, if_pos, if_neg, m1_le, m1_lt', m1_gt, m1_le', m1_eq, m1_qe, b2i_eq0, in_N, in_n, in_I, ↓reduceIte, Bool.true_eq_false, Bool.false_eq_true, reduceCtorEq, decide_eq_true_eq, decide_eq_false_iff_not, Nat.not_lt, Nat.not_le, not_true_eq_false, not_false_eq_true, true_and, and_true, and_self, false_and, and_false, true_or, or_true, false_or, or_false, f_X12_areObjectsTold_6, b_X12_areObjectsTold_6, ↓nm, ↓ko_t T.k, ↓ko_t T1.k, ↓bd_t w1, ↓bd_t w2, ↓bd_t w3, ↓kr_t T.r37, ↓ka_t T.k37, m0, ↓bd_t ii, ↓bd_t en, ↓bd_t ie]
            rw [go]
            refine ⟨h1, i1, F1.trans i2, fun z => i3 (fun k q1 q2 => z k (by omega) q2), fun z => i4 (fun y => z (fun k q1 q2 => ?_))⟩
            by_cases e : k = i
            · rw [e]; exact pp
            · exact y k (by omega) q2
          · rw [ts_nt c5, b2i_f] at ie
            refine ⟨g1, Q1, F1, fun z => absurd (z i (by omega) (by omega)).2.2.2.2 c5, fun _ => ?_⟩
            generalize gst (bT tp sh) (lT tp sh) i = gg at *
            generalize bT tp sh i = b at *
            generalize lT tp sh i = l at *
            simp (disch := omega) only [nm, bd_s, ko_K, ka_K, koK_t, kaK_t, kr_s, kn_s, kn_n, hK_sI, hR_sI, hK_sL, hR_sL, hI_sL, hL_sI, hL_sL, hI_sI, hN_sI, hN_sL, ch_G, ch_T, nb_0, nb_1, zb_G, d_T, d_F, d_eT, d_eF, b2i_t, b2i_f, tn_nI, fa_lit, fa_litL, m1_e, nI_add, pk_mul, pk_sub, nI_leI, nI_ltI, nI_eq, le_T, le_F, lt_T, lt_F, eq_T, eq_F, if_pos, if_neg, m1_le, m1_lt', m1_gt, m1_le', m1_eq, m1_qe, b2i_eq0, in_N, in_n, in_I, ↓reduceIte, Bool.true_eq_false, Bool.false_eq_true, reduceCtorEq, decide_eq_true_eq, decide_eq_false_iff_not, Nat.not_lt, Nat.not_le, not_true_eq_false, not_false_eq_true, true_and, and_true, and_self, false_and, and_false, true_or, or_true, false_or, or_false, f_X12_areObjectsTold_6, b_X12_areObjectsTold_6, ↓nm, ↓ko_t T.k, ↓ko_t T1.k, ↓bd_t w1, ↓bd_t w2, ↓bd_t w3, ↓kr_t T.r37, ↓ka_t T.k37, m0, ↓bd_t ii, ↓bd_t en, ↓bd_t ie]
        · rw [decide_eq_false c3, b2i_f] at ii
          refine no ?_ (fun z => c3 ⟨z.2.2.1, z.2.2.2.1⟩)
          generalize gst (bT tp sh) (lT tp sh) i = gg at *
          generalize bT tp sh i = b at *
          generalize lT tp sh i = l at *
          simp (disch := omega) only [nm, bd_s, ko_K, ka_K, koK_t, kaK_t, kr_s, kn_s, kn_n, hK_sI, hR_sI, hK_sL, hR_sL, hI_sL, hL_sI, hL_sL, hI_sI, hN_sI, hN_sL, ch_G, ch_T, nb_0, nb_1, zb_G, d_T, d_F, d_eT, d_eF, b2i_t, b2i_f, tn_nI, fa_lit, fa_litL, m1_e, nI_add, pk_mul, pk_sub, nI_leI, nI_ltI, nI_eq, le_T, le_F, lt_T, lt_F, eq_T, eq_F, if_pos, if_neg, m1_le, m1_lt', m1_gt, m1_le', m1_eq, m1_qe, b2i_eq0, in_N, in_n, in_I, ↓reduceIte, Bool.true_eq_false, Bool.false_eq_true, reduceCtorEq, decide_eq_true_eq, decide_eq_false_iff_not, Nat.not_lt, Nat.not_le, not_true_eq_false, not_false_eq_true, true_and, and_true, and_self, false_and, and_false, true_or, or_true, false_or, or_false, f_X12_areObjectsTold_6, b_X12_areObjectsTold_6, f_X12_areObjectsTold_84, ↓nm, ↓ko_t T.k, ↓bd_t w1, ↓bd_t w2, ↓bd_t w3, ↓kr_t T.r37, ↓ka_t T.k37, m0, ↓bd_t ii]
      · refine no ?_ (fun z => c2 z.2.1)
        generalize gst (bT tp sh) (lT tp sh) i = gg at *
        generalize bT tp sh i = b at *
        generalize lT tp sh i = l at *
        simp (disch := omega) only [nm, bd_s, ko_K, ka_K, koK_t, kaK_t, kr_s, kn_s, kn_n, hK_sI, hR_sI, hK_sL, hR_sL, hI_sL, hL_sI, hL_sL, hI_sI, hN_sI, hN_sL, ch_G, ch_T, nb_0, nb_1, zb_G, d_T, d_F, d_eT, d_eF, b2i_t, b2i_f, tn_nI, fa_lit, fa_litL, m1_e, nI_add, pk_mul, pk_sub, nI_leI, nI_ltI, nI_eq, le_T, le_F, lt_T, lt_F, eq_T, eq_F, if_pos, if_neg, m1_le, m1_lt', m1_gt, m1_le', m1_eq, m1_qe, b2i_eq0, in_N, in_n, in_I, ↓reduceIte, Bool.true_eq_false, Bool.false_eq_true, reduceCtorEq, decide_eq_true_eq, decide_eq_false_iff_not, Nat.not_lt, Nat.not_le, not_true_eq_false, not_false_eq_true, true_and, and_true, and_self, false_and, and_false, true_or, or_true, false_or, or_false, f_X12_areObjectsTold_6, b_X12_areObjectsTold_6, f_X12_areObjectsTold_84, ↓nm, ↓ko_t T.k, ↓bd_t w1, ↓bd_t w2, ↓bd_t w3, ↓kr_t T.r37, ↓ka_t T.k37, m0]
    · refine no ?_ (fun z => c1 z.1)
      generalize gst (bT tp sh) (lT tp sh) i = gg at *
      generalize bT tp sh i = b at *
      generalize lT tp sh i = l at *
      simp (disch := omega) only [nm, bd_s, ko_K, ka_K, koK_t, kaK_t, kr_s, kn_s, kn_n, hK_sI, hR_sI, hK_sL, hR_sL, hI_sL, hL_sI, hL_sL, hI_sI, hN_sI, hN_sL, ch_G, ch_T, nb_0, nb_1, zb_G, d_T, d_F, d_eT, d_eF, b2i_t, b2i_f, tn_nI, fa_lit, fa_litL, m1_e, nI_add, pk_mul, pk_sub, nI_leI, nI_ltI, nI_eq, le_T, le_F, lt_T, lt_F, eq_T, eq_F, if_pos, if_neg, m1_le, m1_lt', m1_gt, m1_le', m1_eq, m1_qe, b2i_eq0, in_N, in_n, in_I, ↓reduceIte, Bool.true_eq_false, Bool.false_eq_true, reduceCtorEq, decide_eq_true_eq, decide_eq_false_iff_not, Nat.not_lt, Nat.not_le, not_true_eq_false, not_false_eq_true, true_and, and_true, and_self, false_and, and_false, true_or, or_true, false_or, or_false, f_X12_areObjectsTold_6, b_X12_areObjectsTold_6, f_X12_areObjectsTold_84, ↓nm, ↓ko_t T.k, ↓bd_t w1, ↓bd_t w2]
end On3
