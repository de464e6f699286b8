/-! the search for room: the reference -/
def atS (σ : tyS) : Int32 := match σ with
  | none => -nI 1
  | some (_, a, _) => nI a
def KSr (σ : tyS) : Prop := match σ with
  | none => True
  | some (_, a, k) => a ≤ 4096 ∧ OV false k
section Ro
variable {h : aH} {x r tl : Nat} {tp : Nat → Nat} {rf : Nat → Int32} {ft fp : Int32} {sd : Nat} {M mem sh : Nat} {ns : Nat → List Nat} {kd : Nat → Nat} {cd : Nat → List Nat} {N : tyN} {sl : Nat → tyN} {nx c cr : Nat} {rn : Nat} {rw_ : Nat → Nat} {on_ : Nat} {ob : Nat → Nat}
theorem m_part0 (T : MS h (x + 107)) {l s z c' : Nat} (h1 : l ≤ 4096) (h2 : s ≤ 4096) (h3 : z ≤ 4096) (hc : 40 ≤ c' ∧ c' ≤ 42) (e49 : hI h (x + 107) 49 = nI l) (e50 : c' = 41 → hI h (x + 107) 50 = nI s) (e51 : c' = 42 → hI h (x + 107) 51 = nI z) : f_X12_qPartOf (x + 107) (nI (c' - 40)) (nI 0) h = some (vL (fgR l s z c'), h) := by
  have s1 : ∀ n, n ≤ 4096 → (nI n).toInt64 = vL (n : Int) := fun n hn => by rw [nI_l (by omega), vL_n]
  rcases (show c' = 40 ∨ c' = 41 ∨ c' = 42 by omega) with rfl | rfl | rfl
  · have s := s1 l h1
    show f_X12_qPartOf (x + 107) (nI 0) (nI 0) h = some (vL (l : Int), h)
    simp (disch := omega) only [nm, bd_s, ko_K, ka_K, koK_t, kaK_t, kr_s, kn_s, kn_n, hK_sI, hR_sI, hK_sL, hR_sL, hI_sL, hL_sI, hL_sL, hI_sI, hN_sI, hN_sL, ch_G, ch_T, nb_0, nb_1, zb_G, d_T, d_F, d_eT, d_eF, b2i_t, b2i_f, tn_nI, fa_lit, fa_litL, m1_e, nI_add, pk_mul, pk_sub, nI_leI, nI_ltI, nI_eq, le_T, le_F, lt_T, lt_F, eq_T, eq_F, if_pos, if_neg, m1_le, m1_lt', m1_gt, m1_le', m1_eq, m1_qe, b2i_eq0, in_N, in_n, in_I, ↓reduceIte, Bool.true_eq_false, Bool.false_eq_true, reduceCtorEq, decide_eq_true_eq, decide_eq_false_iff_not, Nat.not_lt, Nat.not_le, not_true_eq_false, not_false_eq_true, true_and, and_true, and_self, false_and, and_false, true_or, or_true, false_or, or_false, f_X12_qPartOf_192, f_X12_qPartOf_171, f_X12_qPartOf, T.k, e49, s]
  · have st := s1 s h2
    have e50 := e50 rfl
    show f_X12_qPartOf (x + 107) (nI 1) (nI 0) h = some (vL (s : Int), h)
    simp (disch := omega) only [nm, bd_s, ko_K, ka_K, koK_t, kaK_t, kr_s, kn_s, kn_n, hK_sI, hR_sI, hK_sL, hR_sL, hI_sL, hL_sI, hL_sL, hI_sI, hN_sI, hN_sL, ch_G, ch_T, nb_0, nb_1, zb_G, d_T, d_F, d_eT, d_eF, b2i_t, b2i_f, tn_nI, fa_lit, fa_litL, m1_e, nI_add, pk_mul, pk_sub, nI_leI, nI_ltI, nI_eq, le_T, le_F, lt_T, lt_F, eq_T, eq_F, if_pos, if_neg, m1_le, m1_lt', m1_gt, m1_le', m1_eq, m1_qe, b2i_eq0, in_N, in_n, in_I, ↓reduceIte, Bool.true_eq_false, Bool.false_eq_true, reduceCtorEq, decide_eq_true_eq, decide_eq_false_iff_not, Nat.not_lt, Nat.not_le, not_true_eq_false, not_false_eq_true, true_and, and_true, and_self, false_and, and_false, true_or, or_true, false_or, or_false, f_X12_qPartOf_192, f_X12_qPartOf_171, f_X12_qPartOf, T.k, e50, st]
  · have s := s1 z h3
    have e51 := e51 rfl
    show f_X12_qPartOf (x + 107) (nI 2) (nI 0) h = some (vL (z : Int), h)
    simp (disch := omega) only [nm, bd_s, ko_K, ka_K, koK_t, kaK_t, kr_s, kn_s, kn_n, hK_sI, hR_sI, hK_sL, hR_sL, hI_sL, hL_sI, hL_sL, hI_sI, hN_sI, hN_sL, ch_G, ch_T, nb_0, nb_1, zb_G, d_T, d_F, d_eT, d_eF, b2i_t, b2i_f, tn_nI, fa_lit, fa_litL, m1_e, nI_add, pk_mul, pk_sub, nI_leI, nI_ltI, nI_eq, le_T, le_F, lt_T, lt_F, eq_T, eq_F, if_pos, if_neg, m1_le, m1_lt', m1_gt, m1_le', m1_eq, m1_qe, b2i_eq0, in_N, in_n, in_I, ↓reduceIte, Bool.true_eq_false, Bool.false_eq_true, reduceCtorEq, decide_eq_true_eq, decide_eq_false_iff_not, Nat.not_lt, Nat.not_le, not_true_eq_false, not_false_eq_true, true_and, and_true, and_self, false_and, and_false, true_or, or_true, false_or, or_false, f_X12_qPartOf_192, f_X12_qPartOf_171, f_X12_qPartOf, T.k, e51, s]
theorem m_rank (Q : CM h (x + 107) (r, tl, tp, rf, ft, fp, sd) (M, mem, sh, ns, kd, cd) N (sl, nx, c, cr) (rn, rw_) (on_, ob)) (okb : okB M mem sh ns kd cd) {l s z : Nat} (h1 : l ≤ 4096) (h2 : s ≤ 4096) (h3 : z ≤ 4096) (e49 : hI h (x + 107) 49 = nI l) (e50 : hI h (x + 107) 50 = nI s) (e51 : hI h (x + 107) 51 = nI z) : OV false (rkZ cd l s z) ∧ (f_X12_isCoded (x + 107) (nI 0) h = some (nI 0, h) ∧ rkZ cd l s z = (s : Int) ∨ f_X12_isCoded (x + 107) (nI 0) h = some (nI 1, h) ∧ ∃ d f, f_X12_codesTell (x + 107) (nI 0) h = some (vL (rkZ cd l s z), PL (sI h (x + 107) 46 (nI 0)) (x + 107) d f)) := by
  have ic := m_has Q (show 0 < 3 by omega)
  rcases okb.2.2.2.2.2.2.2 0 (by omega) with c1 | ty
  · rw [c1] at ic
    have rk : rkZ cd l s z = (s : Int) := by unfold rkZ; rw [c1]; rfl
    exact ⟨by rw [rk]; exact ⟨by omega, by omega, fun z => by cases z⟩, Or.inl ⟨ic, rk⟩⟩
  · have c1 : ¬ cd 0 = [] := by intro z; rw [z] at ty; cases ty
    rw [emp c1] at ic
    obtain ⟨d', f', v, r1, r2, r3⟩ := m_run (fg := fgR l s z) Q (show 0 < 3 by omega) ty (fun c _ _ => fgR_ok h1 h2 h3 c) ⟨rfl, rfl⟩ (fun c d f q _ _ => m_part0 (PL.sc Q).1.1 h1 h2 h3 (alC_0 q) (by rw [PL_o (by omega), hI_sI, if_neg (by omega)]; exact e49) (fun _ => by rw [PL_o (by omega), hI_sI, if_neg (by omega)]; exact e50) (fun _ => by rw [PL_o (by omega), hI_sI, if_neg (by omega)]; exact e51))
    have rk : rkZ cd l s z = v := by unfold rkZ; rw [r2]
    rw [rk]
    exact ⟨r3, Or.inr ⟨ic, d', f', r1⟩⟩
theorem m_pad (Q : CM h (x + 107) (r, tl, tp, rf, ft, fp, sd) (M, mem, sh, ns, kd, cd) N (sl, nx, c, cr) (rn, rw_) (on_, ob)) (okb : okB M mem sh ns kd cd) {w : Nat} (h1 : w ≤ 4096) (e49 : hI h (x + 107) 49 = nI w) : f_X12_isCoded (x + 107) (nI 1) h = some (nI 0, h) ∧ pdN cd w = 0 ∨ f_X12_isCoded (x + 107) (nI 1) h = some (nI 1, h) ∧ ∃ v d f, f_X12_codesTell (x + 107) (nI 1) h = some (vL v, PL (sI h (x + 107) 46 (nI 1)) (x + 107) d f) ∧ ∀ g, f_X12_clamp (vL v) (nI 99) g = some (nI (pdN cd w), g) := by
  have ic := m_has Q (show 1 < 3 by omega)
  rcases okb.2.2.2.2.2.2.2 1 (by omega) with c1 | ty
  · rw [c1] at ic
    exact Or.inl ⟨ic, by unfold pdN; rw [c1]; rfl⟩
  · have c1 : ¬ cd 1 = [] := by intro z; rw [z] at ty; cases ty
    rw [emp c1] at ic
    obtain ⟨d', f', v, r1, r2, r3⟩ := m_run (fg := fgR w 0 0) Q (show 1 < 3 by omega) ty (fun c _ _ => fgR_ok h1 (by omega) (by omega) c) ⟨rfl, rfl⟩ (fun c d f q _ _ => m_part0 (PL.sc Q).1.1 h1 (by omega) (by omega) (by have := alC_1 q; omega) (by rw [PL_o (by omega), hI_sI, if_neg (by omega)]; exact e49) (fun z => by have := alC_1 q; omega) (fun z => by have := alC_1 q; omega))
    refine Or.inr ⟨ic, v, d', f', r1, fun g => ?_⟩
    have rk : pdN cd w = if v < 0 then 0 else if 99 < v then 99 else v.toNat := by unfold pdN; rw [r2]
    rw [rk]
    obtain ⟨v1, v2, -⟩ := r3
    have n99 : (nI 99).toInt64 = vL 99 := rfl
    have n0 : lN 0 = vL 0 := rfl
    have l1 : (nI 0 ≤ lg_cmp (vL v) (lN 0)) = (0 ≤ v) := by rw [n0, ← vL_le (a := 0) (b := v) (by omega) (by omega) (by omega) (by omega)]; exact propext (lg_cmp_ge _ _)
    have l2 : (lg_cmp (vL v) (vL 99) ≤ nI 0) = (v ≤ 99) := by rw [← vL_le (a := v) (b := 99) (by omega) (by omega) (by omega) (by omega)]; exact propext (lg_cmp_le _ _)
    have l3 : (vL v).toInt32 = vI v := vL_i (by omega) (by omega)
    by_cases c2 : v < 0
    · rw [if_pos c2]
      have l1 := l1.trans (eq_false (by omega))
      simp (disch := omega) only [nm, bd_s, ko_K, ka_K, koK_t, kaK_t, kr_s, kn_s, kn_n, hK_sI, hR_sI, hK_sL, hR_sL, hI_sL, hL_sI, hL_sL, hI_sI, hN_sI, hN_sL, ch_G, ch_T, nb_0, nb_1, zb_G, d_T, d_F, d_eT, d_eF, b2i_t, b2i_f, tn_nI, fa_lit, fa_litL, m1_e, nI_add, pk_mul, pk_sub, nI_leI, nI_ltI, nI_eq, le_T, le_F, lt_T, lt_F, eq_T, eq_F, if_pos, if_neg, m1_le, m1_lt', m1_gt, m1_le', m1_eq, m1_qe, b2i_eq0, in_N, in_n, in_I, ↓reduceIte, Bool.true_eq_false, Bool.false_eq_true, reduceCtorEq, decide_eq_true_eq, decide_eq_false_iff_not, Nat.not_lt, Nat.not_le, not_true_eq_false, not_false_eq_true, true_and, and_true, and_self, false_and, and_false, true_or, or_true, false_or, or_false, f_X12_clamp_23, f_X12_clamp, l1]
    · rw [if_neg c2]
      have l1 := l1.trans (eq_true (by omega))
      by_cases c3 : 99 < v
      · rw [if_pos c3]
        have l2 := l2.trans (eq_false (by omega))
        simp (disch := omega) only [nm, bd_s, ko_K, ka_K, koK_t, kaK_t, kr_s, kn_s, kn_n, hK_sI, hR_sI, hK_sL, hR_sL, hI_sL, hL_sI, hL_sL, hI_sI, hN_sI, hN_sL, ch_G, ch_T, nb_0, nb_1, zb_G, d_T, d_F, d_eT, d_eF, b2i_t, b2i_f, tn_nI, fa_lit, fa_litL, m1_e, nI_add, pk_mul, pk_sub, nI_leI, nI_ltI, nI_eq, le_T, le_F, lt_T, lt_F, eq_T, eq_F, if_pos, if_neg, m1_le, m1_lt', m1_gt, m1_le', m1_eq, m1_qe, b2i_eq0, in_N, in_n, in_I, ↓reduceIte, Bool.true_eq_false, Bool.false_eq_true, reduceCtorEq, decide_eq_true_eq, decide_eq_false_iff_not, Nat.not_lt, Nat.not_le, not_true_eq_false, not_false_eq_true, true_and, and_true, and_self, false_and, and_false, true_or, or_true, false_or, or_false, f_X12_clamp_23, f_X12_clamp, l1, n99, l2]
      · rw [if_neg c3]
        have l2 := l2.trans (eq_true (by omega))
        have ev : vI v = nI v.toNat := by rw [vI_n, Int.toNat_of_nonneg (by omega)]
        simp (disch := omega) only [nm, bd_s, ko_K, ka_K, koK_t, kaK_t, kr_s, kn_s, kn_n, hK_sI, hR_sI, hK_sL, hR_sL, hI_sL, hL_sI, hL_sL, hI_sI, hN_sI, hN_sL, ch_G, ch_T, nb_0, nb_1, zb_G, d_T, d_F, d_eT, d_eF, b2i_t, b2i_f, tn_nI, fa_lit, fa_litL, m1_e, nI_add, pk_mul, pk_sub, nI_leI, nI_ltI, nI_eq, le_T, le_F, lt_T, lt_F, eq_T, eq_F, if_pos, if_neg, m1_le, m1_lt', m1_gt, m1_le', m1_eq, m1_qe, b2i_eq0, in_N, in_n, in_I, ↓reduceIte, Bool.true_eq_false, Bool.false_eq_true, reduceCtorEq, decide_eq_true_eq, decide_eq_false_iff_not, Nat.not_lt, Nat.not_le, not_true_eq_false, not_false_eq_true, true_and, and_true, and_self, false_and, and_false, true_or, or_true, false_or, or_false, f_X12_clamp_23, f_X12_clamp, l1, n99, l2, l3, ev]
end Ro
