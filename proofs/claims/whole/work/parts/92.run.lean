/-! formulas of the machine, from end to end -/
theorem WK_0 {h : aH} {x : Nat} : sI h (x + 83) 3 (nI 0) = WK h x 0 (fun j => hI h (x + 85) j) := by
  apply aH_ext
  · intro b; rfl
  · intro b j
    unfold WK
    rw [hI_sI, hI_sI]
    by_cases c1 : b = x + 83 ∧ j = 3
    · rw [if_pos c1, if_pos c1]
    · rw [if_neg c1, if_neg c1, hI_sA]
      by_cases c2 : b = x + 85
      · rw [if_pos c2, c2]
      · rw [if_neg c2]
  · intro b j; rfl
  · intro b j; rfl
  · rfl
  · rfl
theorem PL_0 {h : aH} {m : Nat} : sI h m 98 (nI 0) = PL h m 0 (fun j => hL h (m + 66) j) := by
  apply aH_ext
  · intro b; rfl
  · intro b j; rfl
  · intro b j
    show hL h b j = if b = m + 66 then hL h (m + 66) j else hL h b j
    by_cases c2 : b = m + 66
    · rw [if_pos c2, c2]
    · rw [if_neg c2]
  · intro b j; rfl
  · rfl
  · rfl
section Ru
variable {h : aH} {x r tl : Nat} {tp : Nat → Nat} {rf : Nat → Int32} {ft fp : Int32} {sd : Nat} {M mem sh : Nat} {ns : Nat → List Nat} {kd : Nat → Nat} {cd : Nat → List Nat} {N : tyN} {sl : Nat → tyN} {nx c cr : Nat} {rn : Nat} {rw_ : Nat → Nat} {on_ : Nat} {ob : Nat → Nat}
theorem WK.fx {d : Nat} {f : Nat → Int32} : FX x (SC x) h (WK h x d f) := by
  refine ⟨rfl, fun _ _ _ => rfl, rfl, rfl, fun b j q => ?_, fun _ _ _ => rfl⟩
  unfold SC at q
  exact WK_o (by omega) (by omega)
theorem c_has {a w : Nat} (A : MA h a) (B : mB h a M mem sh ns kd cd) (hw : w < 3) : f_X4_hasFormula a (nI w) h = some (b2i (!(cd w).isEmpty), h) := by
  obtain ⟨f, f1, f2, f3, f4⟩ := B.2.2.2.2.2 w hw
  have e3 : Int32.ofNat 3 = nI 3 := rfl
  by_cases c1 : cd w = []
  · have l0 : (cd w).length = 0 := by rw [c1]; rfl
    rw [l0] at f3 f1
    rw [c1]
    show _ = some (nI 0, h)
    simp (disch := omega) only [nm, bd_s, ko_K, ka_K, koK_t, kaK_t, kr_s, kn_s, kn_n, hK_sI, hR_sI, hK_sL, hR_sL, hI_sL, hL_sI, hL_sL, hI_sI, hN_sI, hN_sL, ch_G, ch_T, nb_0, nb_1, zb_G, d_T, d_F, d_eT, d_eF, b2i_t, b2i_f, tn_nI, fa_lit, fa_litL, m1_e, nI_add, pk_mul, pk_sub, nI_leI, nI_ltI, nI_eq, le_T, le_F, lt_T, lt_F, eq_T, eq_F, if_pos, if_neg, m1_le, m1_lt', m1_gt, m1_le', m1_eq, m1_qe, b2i_eq0, in_N, in_n, in_I, ↓reduceIte, Bool.true_eq_false, Bool.false_eq_true, reduceCtorEq, decide_eq_true_eq, decide_eq_false_iff_not, Nat.not_lt, Nat.not_le, not_true_eq_false, not_false_eq_true, true_and, and_true, and_self, false_and, and_false, true_or, or_true, false_or, or_false, f_X4_hasFormula_33, f_X4_hasFormula_32, f_X4_hasFormula, A.k, A.r8, A.k5, A.r7, A.k4, f2, f3, e3]
  · have l0 : 1 ≤ (cd w).length := List.length_pos_iff.mpr c1
    have e0 : (cd w).isEmpty = false := by cases q : cd w with | nil => exact absurd q c1 | cons _ _ => rfl
    rw [e0]
    show _ = some (nI 1, h)
    simp (disch := omega) only [nm, bd_s, ko_K, ka_K, koK_t, kaK_t, kr_s, kn_s, kn_n, hK_sI, hR_sI, hK_sL, hR_sL, hI_sL, hL_sI, hL_sL, hI_sI, hN_sI, hN_sL, ch_G, ch_T, nb_0, nb_1, zb_G, d_T, d_F, d_eT, d_eF, b2i_t, b2i_f, tn_nI, fa_lit, fa_litL, m1_e, nI_add, pk_mul, pk_sub, nI_leI, nI_ltI, nI_eq, le_T, le_F, lt_T, lt_F, eq_T, eq_F, if_pos, if_neg, m1_le, m1_lt', m1_gt, m1_le', m1_eq, m1_qe, b2i_eq0, in_N, in_n, in_I, ↓reduceIte, Bool.true_eq_false, Bool.false_eq_true, reduceCtorEq, decide_eq_true_eq, decide_eq_false_iff_not, Nat.not_lt, Nat.not_le, not_true_eq_false, not_false_eq_true, true_and, and_true, and_self, false_and, and_false, true_or, or_true, false_or, or_false, f_X4_hasFormula_33, f_X4_hasFormula_32, f_X4_hasFormula, A.k, A.r8, A.k5, A.r7, A.k4, f2, f3, e3]
theorem c_run {a w : Nat} {al : Nat → Bool} {fg : Nat → Int} {o1 : Nat → Int → Int} {t : Bool} (S : XS h x) (A : MA h a) (ha : a = x + 92 ∨ a = x + 98) (B : mB h a M mem sh ns kd cd) (hw : w < 3) (ht : tyC al (cd w) [] = some [t]) (hf : ∀ c, al c = true → c ≤ 50 → OV false (fg c)) (no : al 60 = false ∧ al 61 = false) (gf : ∀ c, al c = true → 40 ≤ c → c ≤ 50 → opN c < 17 ∧ hI h (x + 84) (opN c) = vI (fg c)) : ∃ d' f' v, f_X0_work (x + 83) a (nI w) h = some (vI v, WK h x d' f') ∧ evL fg o1 (cd w) [] = [v] ∧ OV t v := by
  obtain ⟨f, f1, f2, f3, f4⟩ := B.2.2.2.2.2 w hw
  have no' : ∀ c, al c = true → (c = 60 ∨ c = 61) → False := fun c q1 q2 => by
    rcases q2 with rfl | rfl
    · rw [no.1] at q1; cases q1
    · rw [no.2] at q1; cases q1
  obtain ⟨d', f', v, r1, r2, r3⟩ := c_work (h := h) (x := x) (a := a) (al := al) (fg := fg) (o1 := o1) S A ha hf (fun c v q1 q2 _ => (no' c q1 q2).elim) gf (fun c v d f q1 q2 _ => (no' c q1 q2).elim) (e := f + (cd w).length) f1 (cd w) f FU [] (fun j => hI h (x + 85) j) [] t rfl (FU_gt (by omega)) f4 ht trivial (fun i hi => absurd hi (Nat.not_lt_zero _))
  refine ⟨d', f', v, ?_, r2, r3⟩
  rw [← r1]
  have w0 := WK_0 (h := h) (x := x)
  have S1 : XS (WK h x 0 (fun j => hI h (x + 85) j)) x := S.of rfl rfl
  have A1 : MA (WK h x 0 (fun j => hI h (x + 85) j)) a := A.of rfl rfl
  have g2 : hI (WK h x 0 (fun j => hI h (x + 85) j)) (a + 4) w = nI f := by rw [WK_o (by omega) (by omega)]; exact f2
  have g3 : hI (WK h x 0 (fun j => hI h (x + 85) j)) (a + 5) w = nI (f + (cd w).length) := by rw [WK_o (by omega) (by omega)]; exact f3
  have e16 : Int32.ofNat 1600 = nI 1600 := rfl
  have mi : ¬ nI 1600 < nI (f + (cd w).length) := by rw [nI_ltI (by omega) (by omega)]; omega
  have mi : (nI 1600 < nI (f + (cd w).length)) = False := eq_false mi
  show _ = f_X0_work_28 FU (x + 83) a (nI (f + (cd w).length)) (nI f) (WK h x 0 (fun j => hI h (x + 85) j))
  generalize WK h x 0 (fun j => hI h (x + 85) j) = h2 at *
  simp (disch := omega) only [nm, bd_s, ko_K, ka_K, koK_t, kaK_t, kr_s, kn_s, kn_n, hK_sI, hR_sI, hK_sL, hR_sL, hI_sL, hL_sI, hL_sL, hI_sI, hN_sI, hN_sL, ch_G, ch_T, nb_0, nb_1, zb_G, d_T, d_F, d_eT, d_eF, b2i_t, b2i_f, tn_nI, fa_lit, fa_litL, m1_e, nI_add, pk_mul, pk_sub, nI_leI, nI_ltI, nI_eq, le_T, le_F, lt_T, lt_F, eq_T, eq_F, if_pos, if_neg, m1_le, m1_lt', m1_gt, m1_le', m1_eq, m1_qe, b2i_eq0, in_N, in_n, in_I, ↓reduceIte, Bool.true_eq_false, Bool.false_eq_true, reduceCtorEq, decide_eq_true_eq, decide_eq_false_iff_not, Nat.not_lt, Nat.not_le, not_true_eq_false, not_false_eq_true, true_and, and_true, and_self, false_and, and_false, true_or, or_true, false_or, or_false, f_X0_work, S.k83, A.k, A.r8, A.k5, w0, A.r6, A.k3, e16, j_min, A1.k, A1.r7, A1.k4, g2, g3, mi]
theorem PL.sc (Q : CM h (x + 107) (r, tl, tp, rf, ft, fp, sd) (M, mem, sh, ns, kd, cd) N (sl, nx, c, cr) (rn, rw_) (on_, ob)) {w d : Nat} {f : Nat → Int64} : CM (PL (sI h (x + 107) 46 (nI w)) (x + 107) d f) (x + 107) (r, tl, tp, rf, ft, fp, sd) (M, mem, sh, ns, kd, cd) N (sl, nx, c, cr) (rn, rw_) (on_, ob) ∧ FM x h (PL (sI h (x + 107) 46 (nI w)) (x + 107) d f) := by
  refine ⟨Q.sc rfl rfl (fun b j q => ?_) ?_ (fun j hj => ?_), rfl, rfl, rfl, rfl, fun b q j => ⟨?_, ?_⟩⟩
  · unfold LM at q
    rw [PL_o (by omega), hI_sI, if_neg (by omega)]
  · rw [PL_l (by omega)]; rfl
  · rw [PL_l (by omega)]; rfl
  · rw [PL_o (by omega), hI_sI, if_neg (by omega)]
  · rw [PL_l (by omega)]; rfl
theorem m_has (Q : CM h (x + 107) (r, tl, tp, rf, ft, fp, sd) (M, mem, sh, ns, kd, cd) N (sl, nx, c, cr) (rn, rw_) (on_, ob)) {w : Nat} (hw : w < 3) : f_X12_isCoded (x + 107) (nI w) h = some (b2i (!(cd w).isEmpty), h) := by
  have T := Q.1
  rcases Q.2.2.1.2.2.2.2.2 w hw with ⟨c1, c2⟩ | ⟨c1, f, f1, f2, f3, f4⟩
  · simp only at c1
    rw [c1]
    show _ = some (nI 0, h)
    simp (disch := omega) only [nm, bd_s, ko_K, ka_K, koK_t, kaK_t, kr_s, kn_s, kn_n, hK_sI, hR_sI, hK_sL, hR_sL, hI_sL, hL_sI, hL_sL, hI_sI, hN_sI, hN_sL, ch_G, ch_T, nb_0, nb_1, zb_G, d_T, d_F, d_eT, d_eF, b2i_t, b2i_f, tn_nI, fa_lit, fa_litL, m1_e, nI_add, pk_mul, pk_sub, nI_leI, nI_ltI, nI_eq, le_T, le_F, lt_T, lt_F, eq_T, eq_F, if_pos, if_neg, m1_le, m1_lt', m1_gt, m1_le', m1_eq, m1_qe, b2i_eq0, in_N, in_n, in_I, ↓reduceIte, Bool.true_eq_false, Bool.false_eq_true, reduceCtorEq, decide_eq_true_eq, decide_eq_false_iff_not, Nat.not_lt, Nat.not_le, not_true_eq_false, not_false_eq_true, true_and, and_true, and_self, false_and, and_false, true_or, or_true, false_or, or_false, f_X12_isCoded_17, f_X12_isCoded, T.k, T.r40, T.k40, c2]
  · simp only at c1 f1
    have e0 : (cd w).isEmpty = false := by cases q : cd w with | nil => exact absurd q c1 | cons _ _ => rfl
    rw [e0]
    show _ = some (nI 1, h)
    have f5 : (nI f = -nI 1) = False := eq_false (fun z => by
      have : ∀ n, n ≤ 1600 → ¬ nI n = -nI 1 := by decide +kernel
      exact this f (by omega) z)
    simp (disch := omega) only [nm, bd_s, ko_K, ka_K, koK_t, kaK_t, kr_s, kn_s, kn_n, hK_sI, hR_sI, hK_sL, hR_sL, hI_sL, hL_sI, hL_sL, hI_sI, hN_sI, hN_sL, ch_G, ch_T, nb_0, nb_1, zb_G, d_T, d_F, d_eT, d_eF, b2i_t, b2i_f, tn_nI, fa_lit, fa_litL, m1_e, nI_add, pk_mul, pk_sub, nI_leI, nI_ltI, nI_eq, le_T, le_F, lt_T, lt_F, eq_T, eq_F, if_pos, if_neg, m1_le, m1_lt', m1_gt, m1_le', m1_eq, m1_qe, b2i_eq0, in_N, in_n, in_I, ↓reduceIte, Bool.true_eq_false, Bool.false_eq_true, reduceCtorEq, decide_eq_true_eq, decide_eq_false_iff_not, Nat.not_lt, Nat.not_le, not_true_eq_false, not_false_eq_true, true_and, and_true, and_self, false_and, and_false, true_or, or_true, false_or, or_false, f_X12_isCoded_17, f_X12_isCoded, T.k, T.r40, T.k40, f2, f5]
theorem m_run {w : Nat} {al : Nat → Bool} {fg : Nat → Int} {t : Bool} (Q : CM h (x + 107) (r, tl, tp, rf, ft, fp, sd) (M, mem, sh, ns, kd, cd) N (sl, nx, c, cr) (rn, rw_) (on_, ob)) (hw : w < 3) (ht : tyC al (cd w) [] = some [t]) (hf : ∀ c, al c = true → c ≤ 50 → OV false (fg c)) (no : al 60 = false ∧ al 61 = false) (gp : ∀ c d f, al c = true → 40 ≤ c → c ≤ 50 → f_X12_qPartOf (x + 107) (nI (c - 40)) (nI 0) (PL (sI h (x + 107) 46 (nI w)) (x + 107) d f) = some (vL (fg c), PL (sI h (x + 107) 46 (nI w)) (x + 107) d f)) : ∃ d' f' v, f_X12_codesTell (x + 107) (nI w) h = some (vL v, PL (sI h (x + 107) 46 (nI w)) (x + 107) d' f') ∧ evL fg (fun _ v => v) (cd w) [] = [v] ∧ OV t v := by
  have T := Q.1
  rcases Q.2.2.1.2.2.2.2.2 w hw with ⟨c1, c2⟩ | ⟨c1, f, f1, f2, f3, f4⟩
  · simp only at c1
    rw [c1] at ht
    cases ht
  · simp only at c1 f1 f3 f4
    have T1 : MS (sI h (x + 107) 46 (nI w)) (x + 107) := T.of rfl rfl
    obtain ⟨d', f', v, r1, r2, r3⟩ := m_codes (h := sI h (x + 107) 46 (nI w)) (m := x + 107) (w := w) (al := al) (fg := fg) T1 hw hf no gp (e := f + (cd w).length) f1 (by rw [hI_sI, if_neg (by omega)]; exact f3) (cd w) f FU [] (fun j => hL (sI h (x + 107) 46 (nI w)) (x + 107 + 66) j) [] t rfl (FU_gt (by omega)) (fun j hj => by rw [hI_sI, if_neg (by omega)]; exact f4 j hj) ht trivial (fun i hi => absurd hi (Nat.not_lt_zero _))
    refine ⟨d', f', v, ?_, r2, r3⟩
    rw [← r1]
    have p0 := PL_0 (h := sI h (x + 107) 46 (nI w)) (m := x + 107)
    have g2 : hI (PL (sI h (x + 107) 46 (nI w)) (x + 107) 0 (fun j => hL (sI h (x + 107) 46 (nI w)) (x + 107 + 66) j)) (x + 107 + 31) (3 + w) = nI f := by rw [PL_o (by omega), hI_sI, if_neg (by omega)]; exact f2
    show _ = f_X12_codesTell_19 FU (x + 107) (nI w) (nI f) (PL (sI h (x + 107) 46 (nI w)) (x + 107) 0 (fun j => hL (sI h (x + 107) 46 (nI w)) (x + 107 + 66) j))
    generalize PL (sI h (x + 107) 46 (nI w)) (x + 107) 0 (fun j => hL (sI h (x + 107) 46 (nI w)) (x + 107 + 66) j) = h2 at *
    simp (disch := omega) only [nm, bd_s, ko_K, ka_K, koK_t, kaK_t, kr_s, kn_s, kn_n, hK_sI, hR_sI, hK_sL, hR_sL, hI_sL, hL_sI, hL_sL, hI_sI, hN_sI, hN_sL, ch_G, ch_T, nb_0, nb_1, zb_G, d_T, d_F, d_eT, d_eF, b2i_t, b2i_f, tn_nI, fa_lit, fa_litL, m1_e, nI_add, pk_mul, pk_sub, nI_leI, nI_ltI, nI_eq, le_T, le_F, lt_T, lt_F, eq_T, eq_F, if_pos, if_neg, m1_le, m1_lt', m1_gt, m1_le', m1_eq, m1_qe, b2i_eq0, in_N, in_n, in_I, ↓reduceIte, Bool.true_eq_false, Bool.false_eq_true, reduceCtorEq, decide_eq_true_eq, decide_eq_false_iff_not, Nat.not_lt, Nat.not_le, not_true_eq_false, not_false_eq_true, true_and, and_true, and_self, false_and, and_false, true_or, or_true, false_or, or_false, f_X12_codesTell, T.k, T.r40, T.k40, p0, g2]
end Ru
