/-! the reference works codes out -/
def sAL (h : aH) (a : Nat) (f : Nat → Int64) : aH := (h.1, h.2.1, fun b j => if b = a then f j else hL h b j, h.2.2.2)
def PL (h : aH) (m d : Nat) (f : Nat → Int64) : aH := sI (sAL h (m + 66) f) m 98 (nI d)
section Pl2
variable {h : aH} {m d : Nat} {f : Nat → Int64}
theorem PL_98 : hI (PL h m d f) m 98 = nI d := by unfold PL; rw [hI_sI, if_pos ⟨rfl, rfl⟩]
theorem PL_o {b j : Nat} (q : ¬ (b = m ∧ j = 98)) : hI (PL h m d f) b j = hI h b j := by unfold PL; rw [hI_sI, if_neg q]; rfl
theorem PL_f {j : Nat} : hL (PL h m d f) (m + 66) j = f j := by show (if m + 66 = m + 66 then f j else hL h (m + 66) j) = f j; rw [if_pos rfl]
theorem PL_l {b j : Nat} (q : ¬ b = m + 66) : hL (PL h m d f) b j = hL h b j := by show (if b = m + 66 then f j else hL h b j) = hL h b j; rw [if_neg q]
theorem PL_set (d' : Nat) : sI (PL h m d f) m 98 (nI d') = PL h m d' f := by unfold PL; exact sI_sI _ _ _ _ _
theorem PL_at (j : Nat) (v : Int64) : sL (PL h m d f) (m + 66) j v = PL h m d (fun i => if i = j then v else f i) := by
  apply aH_ext
  · intro b; rfl
  · intro b i; rfl
  · intro b i
    rw [hL_sL]
    by_cases c1 : b = m + 66
    · subst c1
      rw [PL_f, PL_f]
      by_cases c2 : i = j
      · rw [if_pos ⟨rfl, c2⟩, if_pos c2]
      · rw [if_neg (by omega), if_neg c2]
    · rw [if_neg (by omega), PL_l c1, PL_l c1]
  · intro b i; rfl
  · rfl
  · rfl
theorem PL_put (v : Int64) : sI (sL (PL h m d f) (m + 66) d v) m 98 (nI (d + 1)) = PL h m (d + 1) (fun i => if i = d then v else f i) := by
  rw [PL_at, PL_set]
theorem q_puts (T : MS h m) (hd : d < 1700) (v : Int64) : f_X12_qPuts m v (PL h m d f) = some ((), PL h m (d + 1) (fun i => if i = d then v else f i)) := by
  have T1 : MS (PL h m d f) m := T.of rfl rfl
  have e : hI (PL h m d f) m 98 = nI d := PL_98
  have pu := PL_put (h := h) (m := m) (d := d) (f := f) v
  simp (disch := omega) only [nm, bd_s, ko_K, ka_K, koK_t, kaK_t, kr_s, kn_s, kn_n, hK_sI, hR_sI, hK_sL, hR_sL, hI_sL, hL_sI, hL_sL, hI_sI, hN_sI, hN_sL, ch_G, ch_T, nb_0, nb_1, zb_G, d_T, d_F, d_eT, d_eF, b2i_t, b2i_f, tn_nI, fa_lit, fa_litL, m1_e, nI_add, pk_mul, pk_sub, nI_leI, nI_ltI, nI_eq, le_T, le_F, lt_T, lt_F, eq_T, eq_F, if_pos, if_neg, m1_le, m1_lt', m1_gt, m1_le', m1_eq, m1_qe, b2i_eq0, in_N, in_n, in_I, ↓reduceIte, Bool.true_eq_false, Bool.false_eq_true, reduceCtorEq, decide_eq_true_eq, decide_eq_false_iff_not, Nat.not_lt, Nat.not_le, not_true_eq_false, not_false_eq_true, true_and, and_true, and_self, false_and, and_false, true_or, or_true, false_or, or_false, f_X12_qPuts, T1.k, T1.r97, T1.k97, e, pu]
theorem q_joins (T : MS h m) (hd : d + 2 < 1700) {c : Nat} (h1 : 1 ≤ c) (h2 : c ≤ 11) {a b : Int} (ha : OV (decide (10 ≤ c)) a) (hb : OV (decide (10 ≤ c)) b) (fa : f d = vL a) (fb : f (d + 1) = vL b) : f_X12_qJoins m (nI c) (PL h m (d + 2) f) = some ((), PL h m (d + 1) (fun i => if i = d then vL (opZ c a b) else f i)) := by
  obtain ⟨a1, a2, a3⟩ := ha
  obtain ⟨b1, b2, b3⟩ := hb
  have mb := mul_b a1 a2 b1 b2
  have T1 : MS (PL h m (d + 2) f) m := T.of rfl rfl
  have T2 : MS (PL h m d f) m := T.of rfl rfl
  have e : hI (PL h m (d + 2) f) m 98 = nI (d + 2) := PL_98
  have l1 : hL (PL h m (d + 2) f) (m + 66) (d + 1) = vL b := by rw [PL_f]; exact fb
  have l2 : hL (PL h m (d + 2) f) (m + 66) d = vL a := by rw [PL_f]; exact fa
  have st := PL_set (h := h) (m := m) (d := d + 2) (f := f) d
  have s1 : d + 2 - 1 = d + 1 := by omega
  have s2 : d + 2 - 2 = d := by omega
  have pu := fun v => q_puts (f := f) T (show d < 1700 by omega) v
  have z0 : lN 0 = vL 0 := rfl
  have z1 : lN 1 = vL 1 := rfl
  have g1 : (nI 0 ≤ lg_cmp (vL a) (vL b)) = (b ≤ a) := by rw [← vL_le (a := b) (b := a) (by omega) (by omega) (by omega) (by omega)]; exact propext (lg_cmp_ge _ _)
  have g2 : (lg_cmp (vL a) (vL b) ≤ nI 0) = (a ≤ b) := by rw [← vL_le (a := a) (b := b) (by omega) (by omega) (by omega) (by omega)]; exact propext (lg_cmp_le _ _)
  have g3 : (lg_cmp (vL a) (vL b) = nI 0) = (a = b) := by rw [← vL_eq (a := a) (b := b) (by omega) (by omega) (by omega) (by omega)]; exact propext (lg_cmp_eq _ _)
  have g4 : (lg_cmp (vL (a + b)) (vL 0) ≤ nI 0) = (a + b ≤ 0) := by rw [← vL_le (a := a + b) (b := 0) (by omega) (by omega) (by omega) (by omega)]; exact propext (lg_cmp_le _ _)
  rcases (show c = 1 ∨ c = 2 ∨ c = 3 ∨ c = 4 ∨ c = 5 ∨ c = 6 ∨ c = 7 ∨ c = 8 ∨ c = 9 ∨ c = 10 ∨ c = 11 by omega) with rfl | rfl | rfl | rfl | rfl | rfl | rfl | rfl | rfl | rfl | rfl
  · have cl := m_clip (h := PL h m d f) (z := a + b) (by omega) (by omega)
    simp (disch := omega) only [nm, bd_s, ko_K, ka_K, koK_t, kaK_t, kr_s, kn_s, kn_n, hK_sI, hR_sI, hK_sL, hR_sL, hI_sL, hL_sI, hL_sL, hI_sI, hN_sI, hN_sL, ch_G, ch_T, nb_0, nb_1, zb_G, d_T, d_F, d_eT, d_eF, b2i_t, b2i_f, tn_nI, fa_lit, fa_litL, m1_e, nI_add, pk_mul, pk_sub, nI_leI, nI_ltI, nI_eq, le_T, le_F, lt_T, lt_F, eq_T, eq_F, if_pos, if_neg, m1_le, m1_lt', m1_gt, m1_le', m1_eq, m1_qe, b2i_eq0, in_N, in_n, in_I, ↓reduceIte, Bool.true_eq_false, Bool.false_eq_true, reduceCtorEq, decide_eq_true_eq, decide_eq_false_iff_not, Nat.not_lt, Nat.not_le, not_true_eq_false, not_false_eq_true, true_and, and_true, and_self, false_and, and_false, true_or, or_true, false_or, or_false, f_X12_qJoins, f_X12_qJoins_273, T1.k, T1.r97, T1.k97, e, s1, s2, l1, l2, st, vL_add, cl, T2.k, pu]
    rfl
  · have cl := m_clip (h := PL h m d f) (z := a - b) (by omega) (by omega)
    simp (disch := omega) only [nm, bd_s, ko_K, ka_K, koK_t, kaK_t, kr_s, kn_s, kn_n, hK_sI, hR_sI, hK_sL, hR_sL, hI_sL, hL_sI, hL_sL, hI_sI, hN_sI, hN_sL, ch_G, ch_T, nb_0, nb_1, zb_G, d_T, d_F, d_eT, d_eF, b2i_t, b2i_f, tn_nI, fa_lit, fa_litL, m1_e, nI_add, pk_mul, pk_sub, nI_leI, nI_ltI, nI_eq, le_T, le_F, lt_T, lt_F, eq_T, eq_F, if_pos, if_neg, m1_le, m1_lt', m1_gt, m1_le', m1_eq, m1_qe, b2i_eq0, in_N, in_n, in_I, ↓reduceIte, Bool.true_eq_false, Bool.false_eq_true, reduceCtorEq, decide_eq_true_eq, decide_eq_false_iff_not, Nat.not_lt, Nat.not_le, not_true_eq_false, not_false_eq_true, true_and, and_true, and_self, false_and, and_false, true_or, or_true, false_or, or_false, f_X12_qJoins, f_X12_qJoins_273, T1.k, T1.r97, T1.k97, e, s1, s2, l1, l2, st, vL_sub, cl, T2.k, pu]
    rfl
  · have cl := m_clip (h := PL h m d f) (z := a * b) (by omega) (by omega)
    simp (disch := omega) only [nm, bd_s, ko_K, ka_K, koK_t, kaK_t, kr_s, kn_s, kn_n, hK_sI, hR_sI, hK_sL, hR_sL, hI_sL, hL_sI, hL_sL, hI_sI, hN_sI, hN_sL, ch_G, ch_T, nb_0, nb_1, zb_G, d_T, d_F, d_eT, d_eF, b2i_t, b2i_f, tn_nI, fa_lit, fa_litL, m1_e, nI_add, pk_mul, pk_sub, nI_leI, nI_ltI, nI_eq, le_T, le_F, lt_T, lt_F, eq_T, eq_F, if_pos, if_neg, m1_le, m1_lt', m1_gt, m1_le', m1_eq, m1_qe, b2i_eq0, in_N, in_n, in_I, ↓reduceIte, Bool.true_eq_false, Bool.false_eq_true, reduceCtorEq, decide_eq_true_eq, decide_eq_false_iff_not, Nat.not_lt, Nat.not_le, not_true_eq_false, not_false_eq_true, true_and, and_true, and_self, false_and, and_false, true_or, or_true, false_or, or_false, f_X12_qJoins, f_X12_qJoins_273, T1.k, T1.r97, T1.k97, e, s1, s2, l1, l2, st, vL_mul, cl, T2.k, pu]
    rfl
  · have fl := m_floor (h := PL h m d f) a1 a2 b1 b2
    simp (disch := omega) only [nm, bd_s, ko_K, ka_K, koK_t, kaK_t, kr_s, kn_s, kn_n, hK_sI, hR_sI, hK_sL, hR_sL, hI_sL, hL_sI, hL_sL, hI_sI, hN_sI, hN_sL, ch_G, ch_T, nb_0, nb_1, zb_G, d_T, d_F, d_eT, d_eF, b2i_t, b2i_f, tn_nI, fa_lit, fa_litL, m1_e, nI_add, pk_mul, pk_sub, nI_leI, nI_ltI, nI_eq, le_T, le_F, lt_T, lt_F, eq_T, eq_F, if_pos, if_neg, m1_le, m1_lt', m1_gt, m1_le', m1_eq, m1_qe, b2i_eq0, in_N, in_n, in_I, ↓reduceIte, Bool.true_eq_false, Bool.false_eq_true, reduceCtorEq, decide_eq_true_eq, decide_eq_false_iff_not, Nat.not_lt, Nat.not_le, not_true_eq_false, not_false_eq_true, true_and, and_true, and_self, false_and, and_false, true_or, or_true, false_or, or_false, f_X12_qJoins, f_X12_qJoins_273, T1.k, T1.r97, T1.k97, e, s1, s2, l1, l2, st, fl, T2.k, pu]
    rfl
  · show _ = some ((), PL h m (d + 1) (fun i => if i = d then vL (if a ≤ b then a else b) else f i))
    by_cases q : b ≤ a
    · have g1 := g1.trans (eq_true q)
      simp (disch := omega) only [nm, bd_s, ko_K, ka_K, koK_t, kaK_t, kr_s, kn_s, kn_n, hK_sI, hR_sI, hK_sL, hR_sL, hI_sL, hL_sI, hL_sL, hI_sI, hN_sI, hN_sL, ch_G, ch_T, nb_0, nb_1, zb_G, d_T, d_F, d_eT, d_eF, b2i_t, b2i_f, tn_nI, fa_lit, fa_litL, m1_e, nI_add, pk_mul, pk_sub, nI_leI, nI_ltI, nI_eq, le_T, le_F, lt_T, lt_F, eq_T, eq_F, if_pos, if_neg, m1_le, m1_lt', m1_gt, m1_le', m1_eq, m1_qe, b2i_eq0, in_N, in_n, in_I, ↓reduceIte, Bool.true_eq_false, Bool.false_eq_true, reduceCtorEq, decide_eq_true_eq, decide_eq_false_iff_not, Nat.not_lt, Nat.not_le, not_true_eq_false, not_false_eq_true, true_and, and_true, and_self, false_and, and_false, true_or, or_true, false_or, or_false, f_X12_qJoins, f_X12_qJoins_273, f_X12_qJoins_161, T1.k, T1.r97, T1.k97, e, s1, s2, l1, l2, st, g1, T2.k, pu]
      by_cases q2 : a ≤ b
      · rw [if_pos q2, show a = b by omega]
      · rw [if_neg q2]
    · have g1 := g1.trans (eq_false q)
      rw [if_pos (show a ≤ b by omega)]
      simp (disch := omega) only [nm, bd_s, ko_K, ka_K, koK_t, kaK_t, kr_s, kn_s, kn_n, hK_sI, hR_sI, hK_sL, hR_sL, hI_sL, hL_sI, hL_sL, hI_sI, hN_sI, hN_sL, ch_G, ch_T, nb_0, nb_1, zb_G, d_T, d_F, d_eT, d_eF, b2i_t, b2i_f, tn_nI, fa_lit, fa_litL, m1_e, nI_add, pk_mul, pk_sub, nI_leI, nI_ltI, nI_eq, le_T, le_F, lt_T, lt_F, eq_T, eq_F, if_pos, if_neg, m1_le, m1_lt', m1_gt, m1_le', m1_eq, m1_qe, b2i_eq0, in_N, in_n, in_I, ↓reduceIte, Bool.true_eq_false, Bool.false_eq_true, reduceCtorEq, decide_eq_true_eq, decide_eq_false_iff_not, Nat.not_lt, Nat.not_le, not_true_eq_false, not_false_eq_true, true_and, and_true, and_self, false_and, and_false, true_or, or_true, false_or, or_false, f_X12_qJoins, f_X12_qJoins_273, f_X12_qJoins_161, T1.k, T1.r97, T1.k97, e, s1, s2, l1, l2, st, g1, T2.k, pu]
  · show _ = some ((), PL h m (d + 1) (fun i => if i = d then vL (if a ≤ b then b else a) else f i))
    by_cases q : a ≤ b
    · have g2 := g2.trans (eq_true q)
      rw [if_pos q]
      simp (disch := omega) only [nm, bd_s, ko_K, ka_K, koK_t, kaK_t, kr_s, kn_s, kn_n, hK_sI, hR_sI, hK_sL, hR_sL, hI_sL, hL_sI, hL_sL, hI_sI, hN_sI, hN_sL, ch_G, ch_T, nb_0, nb_1, zb_G, d_T, d_F, d_eT, d_eF, b2i_t, b2i_f, tn_nI, fa_lit, fa_litL, m1_e, nI_add, pk_mul, pk_sub, nI_leI, nI_ltI, nI_eq, le_T, le_F, lt_T, lt_F, eq_T, eq_F, if_pos, if_neg, m1_le, m1_lt', m1_gt, m1_le', m1_eq, m1_qe, b2i_eq0, in_N, in_n, in_I, ↓reduceIte, Bool.true_eq_false, Bool.false_eq_true, reduceCtorEq, decide_eq_true_eq, decide_eq_false_iff_not, Nat.not_lt, Nat.not_le, not_true_eq_false, not_false_eq_true, true_and, and_true, and_self, false_and, and_false, true_or, or_true, false_or, or_false, f_X12_qJoins, f_X12_qJoins_273, f_X12_qJoins_181, T1.k, T1.r97, T1.k97, e, s1, s2, l1, l2, st, g2, T2.k, pu]
    · have g2 := g2.trans (eq_false q)
      rw [if_neg q]
      simp (disch := omega) only [nm, bd_s, ko_K, ka_K, koK_t, kaK_t, kr_s, kn_s, kn_n, hK_sI, hR_sI, hK_sL, hR_sL, hI_sL, hL_sI, hL_sL, hI_sI, hN_sI, hN_sL, ch_G, ch_T, nb_0, nb_1, zb_G, d_T, d_F, d_eT, d_eF, b2i_t, b2i_f, tn_nI, fa_lit, fa_litL, m1_e, nI_add, pk_mul, pk_sub, nI_leI, nI_ltI, nI_eq, le_T, le_F, lt_T, lt_F, eq_T, eq_F, if_pos, if_neg, m1_le, m1_lt', m1_gt, m1_le', m1_eq, m1_qe, b2i_eq0, in_N, in_n, in_I, ↓reduceIte, Bool.true_eq_false, Bool.false_eq_true, reduceCtorEq, decide_eq_true_eq, decide_eq_false_iff_not, Nat.not_lt, Nat.not_le, not_true_eq_false, not_false_eq_true, true_and, and_true, and_self, false_and, and_false, true_or, or_true, false_or, or_false, f_X12_qJoins, f_X12_qJoins_273, f_X12_qJoins_181, T1.k, T1.r97, T1.k97, e, s1, s2, l1, l2, st, g2, T2.k, pu]
  · show _ = some ((), PL h m (d + 1) (fun i => if i = d then vL (if a < b then 1 else 0) else f i))
    by_cases q : b ≤ a
    · have g1 := g1.trans (eq_true q)
      rw [if_neg (show ¬ a < b by omega)]
      simp (disch := omega) only [nm, bd_s, ko_K, ka_K, koK_t, kaK_t, kr_s, kn_s, kn_n, hK_sI, hR_sI, hK_sL, hR_sL, hI_sL, hL_sI, hL_sL, hI_sI, hN_sI, hN_sL, ch_G, ch_T, nb_0, nb_1, zb_G, d_T, d_F, d_eT, d_eF, b2i_t, b2i_f, tn_nI, fa_lit, fa_litL, m1_e, nI_add, pk_mul, pk_sub, nI_leI, nI_ltI, nI_eq, le_T, le_F, lt_T, lt_F, eq_T, eq_F, if_pos, if_neg, m1_le, m1_lt', m1_gt, m1_le', m1_eq, m1_qe, b2i_eq0, in_N, in_n, in_I, ↓reduceIte, Bool.true_eq_false, Bool.false_eq_true, reduceCtorEq, decide_eq_true_eq, decide_eq_false_iff_not, Nat.not_lt, Nat.not_le, not_true_eq_false, not_false_eq_true, true_and, and_true, and_self, false_and, and_false, true_or, or_true, false_or, or_false, f_X12_qJoins, f_X12_qJoins_273, f_X12_qJoins_200, T1.k, T1.r97, T1.k97, e, s1, s2, l1, l2, st, g1, T2.k, z0, pu]
    · have g1 := g1.trans (eq_false q)
      rw [if_pos (show a < b by omega)]
      simp (disch := omega) only [nm, bd_s, ko_K, ka_K, koK_t, kaK_t, kr_s, kn_s, kn_n, hK_sI, hR_sI, hK_sL, hR_sL, hI_sL, hL_sI, hL_sL, hI_sI, hN_sI, hN_sL, ch_G, ch_T, nb_0, nb_1, zb_G, d_T, d_F, d_eT, d_eF, b2i_t, b2i_f, tn_nI, fa_lit, fa_litL, m1_e, nI_add, pk_mul, pk_sub, nI_leI, nI_ltI, nI_eq, le_T, le_F, lt_T, lt_F, eq_T, eq_F, if_pos, if_neg, m1_le, m1_lt', m1_gt, m1_le', m1_eq, m1_qe, b2i_eq0, in_N, in_n, in_I, ↓reduceIte, Bool.true_eq_false, Bool.false_eq_true, reduceCtorEq, decide_eq_true_eq, decide_eq_false_iff_not, Nat.not_lt, Nat.not_le, not_true_eq_false, not_false_eq_true, true_and, and_true, and_self, false_and, and_false, true_or, or_true, false_or, or_false, f_X12_qJoins, f_X12_qJoins_273, f_X12_qJoins_200, T1.k, T1.r97, T1.k97, e, s1, s2, l1, l2, st, g1, T2.k, z1, pu]
  · show _ = some ((), PL h m (d + 1) (fun i => if i = d then vL (if b < a then 1 else 0) else f i))
    by_cases q : a ≤ b
    · have g2 := g2.trans (eq_true q)
      rw [if_neg (show ¬ b < a by omega)]
      simp (disch := omega) only [nm, bd_s, ko_K, ka_K, koK_t, kaK_t, kr_s, kn_s, kn_n, hK_sI, hR_sI, hK_sL, hR_sL, hI_sL, hL_sI, hL_sL, hI_sI, hN_sI, hN_sL, ch_G, ch_T, nb_0, nb_1, zb_G, d_T, d_F, d_eT, d_eF, b2i_t, b2i_f, tn_nI, fa_lit, fa_litL, m1_e, nI_add, pk_mul, pk_sub, nI_leI, nI_ltI, nI_eq, le_T, le_F, lt_T, lt_F, eq_T, eq_F, if_pos, if_neg, m1_le, m1_lt', m1_gt, m1_le', m1_eq, m1_qe, b2i_eq0, in_N, in_n, in_I, ↓reduceIte, Bool.true_eq_false, Bool.false_eq_true, reduceCtorEq, decide_eq_true_eq, decide_eq_false_iff_not, Nat.not_lt, Nat.not_le, not_true_eq_false, not_false_eq_true, true_and, and_true, and_self, false_and, and_false, true_or, or_true, false_or, or_false, f_X12_qJoins, f_X12_qJoins_273, f_X12_qJoins_219, T1.k, T1.r97, T1.k97, e, s1, s2, l1, l2, st, g2, T2.k, z0, pu]
    · have g2 := g2.trans (eq_false q)
      rw [if_pos (show b < a by omega)]
      simp (disch := omega) only [nm, bd_s, ko_K, ka_K, koK_t, kaK_t, kr_s, kn_s, kn_n, hK_sI, hR_sI, hK_sL, hR_sL, hI_sL, hL_sI, hL_sL, hI_sI, hN_sI, hN_sL, ch_G, ch_T, nb_0, nb_1, zb_G, d_T, d_F, d_eT, d_eF, b2i_t, b2i_f, tn_nI, fa_lit, fa_litL, m1_e, nI_add, pk_mul, pk_sub, nI_leI, nI_ltI, nI_eq, le_T, le_F, lt_T, lt_F, eq_T, eq_F, if_pos, if_neg, m1_le, m1_lt', m1_gt, m1_le', m1_eq, m1_qe, b2i_eq0, in_N, in_n, in_I, ↓reduceIte, Bool.true_eq_false, Bool.false_eq_true, reduceCtorEq, decide_eq_true_eq, decide_eq_false_iff_not, Nat.not_lt, Nat.not_le, not_true_eq_false, not_false_eq_true, true_and, and_true, and_self, false_and, and_false, true_or, or_true, false_or, or_false, f_X12_qJoins, f_X12_qJoins_273, f_X12_qJoins_219, T1.k, T1.r97, T1.k97, e, s1, s2, l1, l2, st, g2, T2.k, z1, pu]
  · show _ = some ((), PL h m (d + 1) (fun i => if i = d then vL (if a = b then 1 else 0) else f i))
    by_cases q : a = b
    · have g3 := g3.trans (eq_true q)
      rw [if_pos q]
      simp (disch := omega) only [nm, bd_s, ko_K, ka_K, koK_t, kaK_t, kr_s, kn_s, kn_n, hK_sI, hR_sI, hK_sL, hR_sL, hI_sL, hL_sI, hL_sL, hI_sI, hN_sI, hN_sL, ch_G, ch_T, nb_0, nb_1, zb_G, d_T, d_F, d_eT, d_eF, b2i_t, b2i_f, tn_nI, fa_lit, fa_litL, m1_e, nI_add, pk_mul, pk_sub, nI_leI, nI_ltI, nI_eq, le_T, le_F, lt_T, lt_F, eq_T, eq_F, if_pos, if_neg, m1_le, m1_lt', m1_gt, m1_le', m1_eq, m1_qe, b2i_eq0, in_N, in_n, in_I, ↓reduceIte, Bool.true_eq_false, Bool.false_eq_true, reduceCtorEq, decide_eq_true_eq, decide_eq_false_iff_not, Nat.not_lt, Nat.not_le, not_true_eq_false, not_false_eq_true, true_and, and_true, and_self, false_and, and_false, true_or, or_true, false_or, or_false, f_X12_qJoins, f_X12_qJoins_273, f_X12_qJoins_238, T1.k, T1.r97, T1.k97, e, s1, s2, l1, l2, st, g3, T2.k, z1, pu]
    · have g3 := g3.trans (eq_false q)
      rw [if_neg q]
      simp (disch := omega) only [nm, bd_s, ko_K, ka_K, koK_t, kaK_t, kr_s, kn_s, kn_n, hK_sI, hR_sI, hK_sL, hR_sL, hI_sL, hL_sI, hL_sL, hI_sI, hN_sI, hN_sL, ch_G, ch_T, nb_0, nb_1, zb_G, d_T, d_F, d_eT, d_eF, b2i_t, b2i_f, tn_nI, fa_lit, fa_litL, m1_e, nI_add, pk_mul, pk_sub, nI_leI, nI_ltI, nI_eq, le_T, le_F, lt_T, lt_F, eq_T, eq_F, if_pos, if_neg, m1_le, m1_lt', m1_gt, m1_le', m1_eq, m1_qe, b2i_eq0, in_N, in_n, in_I, ↓reduceIte, Bool.true_eq_false, Bool.false_eq_true, reduceCtorEq, decide_eq_true_eq, decide_eq_false_iff_not, Nat.not_lt, Nat.not_le, not_true_eq_false, not_false_eq_true, true_and, and_true, and_self, false_and, and_false, true_or, or_true, false_or, or_false, f_X12_qJoins, f_X12_qJoins_273, f_X12_qJoins_238, T1.k, T1.r97, T1.k97, e, s1, s2, l1, l2, st, g3, T2.k, z0, pu]
  · simp (disch := omega) only [nm, bd_s, ko_K, ka_K, koK_t, kaK_t, kr_s, kn_s, kn_n, hK_sI, hR_sI, hK_sL, hR_sL, hI_sL, hL_sI, hL_sL, hI_sI, hN_sI, hN_sL, ch_G, ch_T, nb_0, nb_1, zb_G, d_T, d_F, d_eT, d_eF, b2i_t, b2i_f, tn_nI, fa_lit, fa_litL, m1_e, nI_add, pk_mul, pk_sub, nI_leI, nI_ltI, nI_eq, le_T, le_F, lt_T, lt_F, eq_T, eq_F, if_pos, if_neg, m1_le, m1_lt', m1_gt, m1_le', m1_eq, m1_qe, b2i_eq0, in_N, in_n, in_I, ↓reduceIte, Bool.true_eq_false, Bool.false_eq_true, reduceCtorEq, decide_eq_true_eq, decide_eq_false_iff_not, Nat.not_lt, Nat.not_le, not_true_eq_false, not_false_eq_true, true_and, and_true, and_self, false_and, and_false, true_or, or_true, false_or, or_false, f_X12_qJoins, f_X12_qJoins_273, T1.k, T1.r97, T1.k97, e, s1, s2, l1, l2, st, vL_mul, T2.k, pu]
    rfl
  · show _ = some ((), PL h m (d + 1) (fun i => if i = d then vL (if 0 < a + b then 1 else 0) else f i))
    by_cases q : a + b ≤ 0
    · have g4 := g4.trans (eq_true q)
      rw [if_neg (show ¬ 0 < a + b by omega)]
      simp (disch := omega) only [nm, bd_s, ko_K, ka_K, koK_t, kaK_t, kr_s, kn_s, kn_n, hK_sI, hR_sI, hK_sL, hR_sL, hI_sL, hL_sI, hL_sL, hI_sI, hN_sI, hN_sL, ch_G, ch_T, nb_0, nb_1, zb_G, d_T, d_F, d_eT, d_eF, b2i_t, b2i_f, tn_nI, fa_lit, fa_litL, m1_e, nI_add, pk_mul, pk_sub, nI_leI, nI_ltI, nI_eq, le_T, le_F, lt_T, lt_F, eq_T, eq_F, if_pos, if_neg, m1_le, m1_lt', m1_gt, m1_le', m1_eq, m1_qe, b2i_eq0, in_N, in_n, in_I, ↓reduceIte, Bool.true_eq_false, Bool.false_eq_true, reduceCtorEq, decide_eq_true_eq, decide_eq_false_iff_not, Nat.not_lt, Nat.not_le, not_true_eq_false, not_false_eq_true, true_and, and_true, and_self, false_and, and_false, true_or, or_true, false_or, or_false, f_X12_qJoins, f_X12_qJoins_273, f_X12_qJoins_255, f_X12_qJoins_270, T1.k, T1.r97, T1.k97, e, s1, s2, l1, l2, st, vL_add, z0, g4, T2.k, pu]
    · have g4 := g4.trans (eq_false q)
      rw [if_pos (show 0 < a + b by omega)]
      simp (disch := omega) only [nm, bd_s, ko_K, ka_K, koK_t, kaK_t, kr_s, kn_s, kn_n, hK_sI, hR_sI, hK_sL, hR_sL, hI_sL, hL_sI, hL_sL, hI_sI, hN_sI, hN_sL, ch_G, ch_T, nb_0, nb_1, zb_G, d_T, d_F, d_eT, d_eF, b2i_t, b2i_f, tn_nI, fa_lit, fa_litL, m1_e, nI_add, pk_mul, pk_sub, nI_leI, nI_ltI, nI_eq, le_T, le_F, lt_T, lt_F, eq_T, eq_F, if_pos, if_neg, m1_le, m1_lt', m1_gt, m1_le', m1_eq, m1_qe, b2i_eq0, in_N, in_n, in_I, ↓reduceIte, Bool.true_eq_false, Bool.false_eq_true, reduceCtorEq, decide_eq_true_eq, decide_eq_false_iff_not, Nat.not_lt, Nat.not_le, not_true_eq_false, not_false_eq_true, true_and, and_true, and_self, false_and, and_false, true_or, or_true, false_or, or_false, f_X12_qJoins, f_X12_qJoins_273, f_X12_qJoins_255, f_X12_qJoins_270, T1.k, T1.r97, T1.k97, e, s1, s2, l1, l2, st, vL_add, z0, z1, g4, T2.k, pu]
/-- all codes of a machine's formula, from one on -/
theorem m_codes {w : Nat} {al : Nat → Bool} {fg : Nat → Int} (T : MS h m) (hw : w < 3) (hf : ∀ c, al c = true → c ≤ 50 → OV false (fg c)) (no : al 60 = false ∧ al 61 = false) (gp : ∀ c d f, al c = true → 40 ≤ c → c ≤ 50 → f_X12_qPartOf m (nI (c - 40)) (nI 0) (PL h m d f) = some (vL (fg c), PL h m d f)) {e : Nat} (he : e ≤ 1600) (e32 : hI h (m + 32) (3 + w) = nI e) : ∀ (l : List Nat) (i n : Nat) (s : List Int) (f : Nat → Int64) (ty : List Bool) (t : Bool), i + l.length = e → l.length < n → (∀ j, j < l.length → hI h (m + 33) (1600 + (i + j)) = nI (l.getD j 0)) → tyC al l ty = some [t] → TM ty s → SKL f s → ∃ d' f' v, f_X12_codesTell_19 n m (nI w) (nI i) (PL h m s.length f) = some (vL v, PL h m d' f') ∧ evL fg (fun _ v => v) l s = [v] ∧ OV t v := by
  intro l
  induction l with
  | nil =>
    intro i n s f ty t hi hn hc ht hs hk
    obtain ⟨n, rfl⟩ : ∃ m, n = m + 1 := ⟨n - 1, by omega⟩
    have hi : i = e := by simpa using hi
    subst hi
    rw [tyC.eq_def] at ht
    cases ht
    obtain ⟨v, s1, rfl, v1, v2⟩ := hs.c1
    have : s1 = [] := List.length_eq_zero_iff.mp v2.len.symm
    subst this
    have T1 : MS (PL h m 1 f) m := T.of rfl rfl
    have l0 : hL (PL h m 1 f) (m + 66) 0 = vL v := by rw [PL_f]; exact hk.pop.1
    have e1 : hI (PL h m 1 f) (m + 32) (3 + w) = nI i := by rw [PL_o (by omega)]; exact e32
    refine ⟨1, f, v, ?_, rfl, v1⟩
    show f_X12_codesTell_19 (n + 1) m (nI w) (nI i) (PL h m 1 f) = _
    simp (disch := omega) only [nm, bd_s, ko_K, ka_K, koK_t, kaK_t, kr_s, kn_s, kn_n, hK_sI, hR_sI, hK_sL, hR_sL, hI_sL, hL_sI, hL_sL, hI_sI, hN_sI, hN_sL, ch_G, ch_T, nb_0, nb_1, zb_G, d_T, d_F, d_eT, d_eF, b2i_t, b2i_f, tn_nI, fa_lit, fa_litL, m1_e, nI_add, pk_mul, pk_sub, nI_leI, nI_ltI, nI_eq, le_T, le_F, lt_T, lt_F, eq_T, eq_F, if_pos, if_neg, m1_le, m1_lt', m1_gt, m1_le', m1_eq, m1_qe, b2i_eq0, in_N, in_n, in_I, ↓reduceIte, Bool.true_eq_false, Bool.false_eq_true, reduceCtorEq, decide_eq_true_eq, decide_eq_false_iff_not, Nat.not_lt, Nat.not_le, not_true_eq_false, not_false_eq_true, true_and, and_true, and_self, false_and, and_false, true_or, or_true, false_or, or_false, f_X12_codesTell_19, b_X12_codesTell_19, T1.k, T1.r41, T1.k41, e1, T1.r97, T1.k97, l0]
  | cons c l ih =>
    intro i n s f ty t hi hn hc ht hs hk
    obtain ⟨n, rfl⟩ : ∃ m, n = m + 1 := ⟨n - 1, by omega⟩
    rw [List.length_cons] at hi hn
    obtain ⟨l60, ⟨ty1, t1, t2⟩, cs⟩ := ev_c (o1 := fun _ v => v) hf (fun _ _ _ _ q => q) ht hs
    have c0 : hI h (m + 33) (1600 + i) = nI c := hc 0 (by rw [List.length_cons]; omega)
    have hc' : ∀ j, j < l.length → hI h (m + 33) (1600 + (i + 1 + j)) = nI (l.getD j 0) := fun j hj => by
      have := hc (j + 1) (by rw [List.length_cons]; omega)
      rw [show i + 1 + j = i + (j + 1) by omega, this, List.getD_cons_succ]
    have nxt := fun (f2 : Nat → Int64) (hk2 : SKL f2 (evS fg (fun _ v => v) c s)) => ih (i + 1) n (evS fg (fun _ v => v) c s) f2 ty1 t (by omega) (by omega) hc' t1 t2 hk2
    have ev : evL fg (fun _ v => v) (c :: l) s = evL fg (fun _ v => v) l (evS fg (fun _ v => v) c s) := rfl
    rw [ev]
    have T1 : MS (PL h m s.length f) m := T.of rfl rfl
    have w1 : hI (PL h m s.length f) (m + 33) (1600 + i) = nI c := by rw [PL_o (by omega)]; exact c0
    have e1 : hI (PL h m s.length f) (m + 32) (3 + w) = nI e := by rw [PL_o (by omega)]; exact e32
    have e98 : hI (PL h m s.length f) m 98 = nI s.length := PL_98
    rcases cs with ⟨a1, a2, a3⟩ | ⟨a1, a2, v, s1, rfl, v1, v2, a3⟩ | ⟨a1, a2, a3, a4, a5⟩ | ⟨rfl, a2⟩ | ⟨rfl, v, s1, rfl, v1, a3⟩ | ⟨a1, a2, b, a', s2, rfl, v1, v2, a3⟩
    · rw [a3] at nxt ⊢
      obtain ⟨d', f', v, r1, r2⟩ := nxt _ (hk.push _)
      refine ⟨d', f', v, ?_, r2⟩
      have le : (nI (c - 1000)).toInt64 = vL ((c - 1000 : Nat) : Int) := by rw [nI_l (by omega), vL_n]
      have pu := q_puts (f := f) T (show s.length < 1700 by omega) (vL ((c - 1000 : Nat) : Int))
      rw [List.length_cons] at r1
      simp (disch := omega) only [nm, bd_s, ko_K, ka_K, koK_t, kaK_t, kr_s, kn_s, kn_n, hK_sI, hR_sI, hK_sL, hR_sL, hI_sL, hL_sI, hL_sL, hI_sI, hN_sI, hN_sL, ch_G, ch_T, nb_0, nb_1, zb_G, d_T, d_F, d_eT, d_eF, b2i_t, b2i_f, tn_nI, fa_lit, fa_litL, m1_e, nI_add, pk_mul, pk_sub, nI_leI, nI_ltI, nI_eq, le_T, le_F, lt_T, lt_F, eq_T, eq_F, if_pos, if_neg, m1_le, m1_lt', m1_gt, m1_le', m1_eq, m1_qe, b2i_eq0, in_N, in_n, in_I, ↓reduceIte, Bool.true_eq_false, Bool.false_eq_true, reduceCtorEq, decide_eq_true_eq, decide_eq_false_iff_not, Nat.not_lt, Nat.not_le, not_true_eq_false, not_false_eq_true, true_and, and_true, and_self, false_and, and_false, true_or, or_true, false_or, or_false, f_X12_codesTell_19, b_X12_codesTell_19, f_X12_codesTell_136, T1.k, T1.r41, T1.k41, e1, T1.r42, T1.k42, w1, le, pu, r1]
    · rcases a1 with rfl | rfl
      · rw [no.1] at a2; cases a2
      · rw [no.2] at a2; cases a2
    · rw [a5] at nxt ⊢
      obtain ⟨d', f', v', r1, r2⟩ := nxt _ (hk.push _)
      refine ⟨d', f', v', ?_, r2⟩
      have g1 := gp c s.length f a3 a1 a2
      have pu := q_puts (f := f) T (show s.length < 1700 by omega) (vL (fg c))
      rw [List.length_cons] at r1
      simp (disch := omega) only [nm, bd_s, ko_K, ka_K, koK_t, kaK_t, kr_s, kn_s, kn_n, hK_sI, hR_sI, hK_sL, hR_sL, hI_sL, hL_sI, hL_sL, hI_sI, hN_sI, hN_sL, ch_G, ch_T, nb_0, nb_1, zb_G, d_T, d_F, d_eT, d_eF, b2i_t, b2i_f, tn_nI, fa_lit, fa_litL, m1_e, nI_add, pk_mul, pk_sub, nI_leI, nI_ltI, nI_eq, le_T, le_F, lt_T, lt_F, eq_T, eq_F, if_pos, if_neg, m1_le, m1_lt', m1_gt, m1_le', m1_eq, m1_qe, b2i_eq0, in_N, in_n, in_I, ↓reduceIte, Bool.true_eq_false, Bool.false_eq_true, reduceCtorEq, decide_eq_true_eq, decide_eq_false_iff_not, Nat.not_lt, Nat.not_le, not_true_eq_false, not_false_eq_true, true_and, and_true, and_self, false_and, and_false, true_or, or_true, false_or, or_false, f_X12_codesTell_19, b_X12_codesTell_19, f_X12_codesTell_136, T1.k, T1.r41, T1.k41, e1, T1.r42, T1.k42, w1, g1, pu, r1]
    · rw [a2] at nxt ⊢
      obtain ⟨d', f', v', r1, r2⟩ := nxt _ (hk.push _)
      refine ⟨d', f', v', ?_, r2⟩
      have pu := q_puts (f := f) T (show s.length < 1700 by omega) (lN 1)
      rw [List.length_cons, show vL 1 = lN 1 from rfl] at r1
      simp (disch := omega) only [nm, bd_s, ko_K, ka_K, koK_t, kaK_t, kr_s, kn_s, kn_n, hK_sI, hR_sI, hK_sL, hR_sL, hI_sL, hL_sI, hL_sL, hI_sI, hN_sI, hN_sL, ch_G, ch_T, nb_0, nb_1, zb_G, d_T, d_F, d_eT, d_eF, b2i_t, b2i_f, tn_nI, fa_lit, fa_litL, m1_e, nI_add, pk_mul, pk_sub, nI_leI, nI_ltI, nI_eq, le_T, le_F, lt_T, lt_F, eq_T, eq_F, if_pos, if_neg, m1_le, m1_lt', m1_gt, m1_le', m1_eq, m1_qe, b2i_eq0, in_N, in_n, in_I, ↓reduceIte, Bool.true_eq_false, Bool.false_eq_true, reduceCtorEq, decide_eq_true_eq, decide_eq_false_iff_not, Nat.not_lt, Nat.not_le, not_true_eq_false, not_false_eq_true, true_and, and_true, and_self, false_and, and_false, true_or, or_true, false_or, or_false, f_X12_codesTell_19, b_X12_codesTell_19, f_X12_codesTell_136, T1.k, T1.r41, T1.k41, e1, T1.r42, T1.k42, w1, pu, r1]
    · rw [a3] at nxt ⊢
      have pp := hk.pop
      rw [List.length_cons] at l60 w1 e1 e98 T1
      obtain ⟨d', f', v', r1, r2⟩ := nxt _ (pp.2.push _)
      refine ⟨d', f', v', ?_, r2⟩
      have l1 : hL (PL h m (s1.length + 1) f) (m + 66) s1.length = vL v := by rw [PL_f]; exact pp.1
      have o : lN 1 - vL v = vL (1 - v) := by rw [vL_n, vL_sub]; rfl
      have at1 := PL_at (h := h) (m := m) (d := s1.length + 1) (f := f) s1.length (vL (1 - v))
      rw [List.length_cons] at r1 ⊢
      simp (disch := omega) only [nm, bd_s, ko_K, ka_K, koK_t, kaK_t, kr_s, kn_s, kn_n, hK_sI, hR_sI, hK_sL, hR_sL, hI_sL, hL_sI, hL_sL, hI_sI, hN_sI, hN_sL, ch_G, ch_T, nb_0, nb_1, zb_G, d_T, d_F, d_eT, d_eF, b2i_t, b2i_f, tn_nI, fa_lit, fa_litL, m1_e, nI_add, pk_mul, pk_sub, nI_leI, nI_ltI, nI_eq, le_T, le_F, lt_T, lt_F, eq_T, eq_F, if_pos, if_neg, m1_le, m1_lt', m1_gt, m1_le', m1_eq, m1_qe, b2i_eq0, in_N, in_n, in_I, ↓reduceIte, Bool.true_eq_false, Bool.false_eq_true, reduceCtorEq, decide_eq_true_eq, decide_eq_false_iff_not, Nat.not_lt, Nat.not_le, not_true_eq_false, not_false_eq_true, true_and, and_true, and_self, false_and, and_false, true_or, or_true, false_or, or_false, f_X12_codesTell_19, b_X12_codesTell_19, f_X12_codesTell_136, T1.k, T1.r41, T1.k41, e1, T1.r42, T1.k42, w1, e98, T1.r97, T1.k97, Nat.add_sub_cancel, l1, o, at1, r1]
    · rw [a3] at nxt ⊢
      have pp := hk.pop
      have pq := pp.2.pop
      rw [List.length_cons, List.length_cons] at l60 w1 e1 e98 T1
      obtain ⟨d', f', v', r1, r2⟩ := nxt _ (pq.2.push _)
      refine ⟨d', f', v', ?_, r2⟩
      rw [List.length_cons] at pp
      have jo := q_joins (f := f) (d := s2.length) T (by omega) a1 a2 v2 v1 pq.1 pp.1
      rw [List.length_cons] at r1
      rw [List.length_cons, List.length_cons]
      simp (disch := omega) only [nm, bd_s, ko_K, ka_K, koK_t, kaK_t, kr_s, kn_s, kn_n, hK_sI, hR_sI, hK_sL, hR_sL, hI_sL, hL_sI, hL_sL, hI_sI, hN_sI, hN_sL, ch_G, ch_T, nb_0, nb_1, zb_G, d_T, d_F, d_eT, d_eF, b2i_t, b2i_f, tn_nI, fa_lit, fa_litL, m1_e, nI_add, pk_mul, pk_sub, nI_leI, nI_ltI, nI_eq, le_T, le_F, lt_T, lt_F, eq_T, eq_F, if_pos, if_neg, m1_le, m1_lt', m1_gt, m1_le', m1_eq, m1_qe, b2i_eq0, in_N, in_n, in_I, ↓reduceIte, Bool.true_eq_false, Bool.false_eq_true, reduceCtorEq, decide_eq_true_eq, decide_eq_false_iff_not, Nat.not_lt, Nat.not_le, not_true_eq_false, not_false_eq_true, true_and, and_true, and_self, false_and, and_false, true_or, or_true, false_or, or_false, f_X12_codesTell_19, b_X12_codesTell_19, f_X12_codesTell_136, T1.k, T1.r41, T1.k41, e1, T1.r42, T1.k42, w1, jo, r1]
end Pl2
