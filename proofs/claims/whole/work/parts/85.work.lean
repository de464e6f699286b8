/-! the class works a formula out -/
def WK (h : aH) (x d : Nat) (f : Nat → Int32) : aH := sI (sA h (x + 85) f) (x + 83) 3 (nI d)
section Wk
variable {h : aH} {x d : Nat} {f : Nat → Int32}
theorem WK_o {b j : Nat} (h1 : ¬ b = x + 85) (h2 : ¬ (b = x + 83 ∧ j = 3)) : hI (WK h x d f) b j = hI h b j := by unfold WK; rw [hI_sI, if_neg h2, hI_sA, if_neg h1]
theorem WK_3 : hI (WK h x d f) (x + 83) 3 = nI d := by unfold WK; rw [hI_sI, if_pos ⟨rfl, rfl⟩]
theorem WK_f {j : Nat} : hI (WK h x d f) (x + 85) j = f j := by unfold WK; rw [hI_sI, if_neg (by omega), hI_sA, if_pos rfl]
theorem WK_push (v : Int32) : sI (sI (WK h x d f) (x + 85) d v) (x + 83) 3 (nI (d + 1)) = WK h x (d + 1) (fun j => if j = d then v else f j) := by
  apply aH_ext
  · intro b; rfl
  · intro b j
    unfold WK
    simp only [hI_sI, hI_sA]
    by_cases c1 : b = x + 83 ∧ j = 3
    · rw [if_pos c1, if_pos c1]
    · rw [if_neg c1, if_neg c1]
      by_cases c2 : b = x + 85
      · subst c2
        by_cases c3 : j = d
        · rw [if_pos ⟨rfl, c3⟩, if_neg c1, if_pos rfl, if_pos c3]
        · rw [if_neg (by omega), if_neg c1, if_pos rfl, if_pos rfl, if_neg c3]
      · rw [if_neg (by omega), if_neg c1, if_neg c2, if_neg c2]
  · intro b j; rfl
  · intro b j; rfl
  · rfl
  · rfl
theorem WK_pop (d' : Nat) : sI (WK h x d f) (x + 83) 3 (nI d') = WK h x d' f := by
  unfold WK; exact sI_sI _ _ _ _ _
theorem k_push (S : XS h x) (hd : d < 64) (v : Int32) : f_X0_push (x + 83) v (WK h x d f) = some ((), WK h x (d + 1) (fun j => if j = d then v else f j)) := by
  have S1 : XS (WK h x d f) x := S.of rfl rfl
  have e3 : hI (WK h x d f) (x + 83) 3 = nI d := WK_3
  have e4 : Int32.ofNat 64 = nI 64 := rfl
  have pu := WK_push (h := h) (x := x) (d := d) (f := f) v
  simp (disch := omega) only [nm, bd_s, ko_K, ka_K, koK_t, kaK_t, kr_s, kn_s, kn_n, hK_sI, hR_sI, hK_sL, hR_sL, hI_sL, hL_sI, hL_sL, hI_sI, hN_sI, hN_sL, ch_G, ch_T, nb_0, nb_1, zb_G, d_T, d_F, d_eT, d_eF, b2i_t, b2i_f, tn_nI, fa_lit, fa_litL, m1_e, nI_add, pk_mul, pk_sub, nI_leI, nI_ltI, nI_eq, le_T, le_F, lt_T, lt_F, eq_T, eq_F, if_pos, if_neg, m1_le, m1_lt', m1_gt, m1_le', m1_eq, m1_qe, b2i_eq0, in_N, in_n, in_I, ↓reduceIte, Bool.true_eq_false, Bool.false_eq_true, reduceCtorEq, decide_eq_true_eq, decide_eq_false_iff_not, Nat.not_lt, Nat.not_le, not_true_eq_false, not_false_eq_true, true_and, and_true, and_self, false_and, and_false, true_or, or_true, false_or, or_false, f_X0_push_32, f_X0_push, S1.k83, S1.r83_2, S1.k85, e3, e4, pu]
theorem k_pop (S : XS h x) (hd : d < 64) : f_X0_pop (x + 83) (WK h x (d + 1) f) = some (f d, WK h x d f) := by
  have S1 : XS (WK h x (d + 1) f) x := S.of rfl rfl
  have e3 : hI (WK h x (d + 1) f) (x + 83) 3 = nI (d + 1) := WK_3
  have ef : hI (WK h x (d + 1) f) (x + 85) d = f d := WK_f
  have po := WK_pop (h := h) (x := x) (d := d + 1) (f := f) d
  have e3' : hI (WK h x d f) (x + 83) 3 = nI d := WK_3
  have ef' : hI (WK h x d f) (x + 85) d = f d := WK_f
  simp (disch := omega) only [nm, bd_s, ko_K, ka_K, koK_t, kaK_t, kr_s, kn_s, kn_n, hK_sI, hR_sI, hK_sL, hR_sL, hI_sL, hL_sI, hL_sL, hI_sI, hN_sI, hN_sL, ch_G, ch_T, nb_0, nb_1, zb_G, d_T, d_F, d_eT, d_eF, b2i_t, b2i_f, tn_nI, fa_lit, fa_litL, m1_e, nI_add, pk_mul, pk_sub, nI_leI, nI_ltI, nI_eq, le_T, le_F, lt_T, lt_F, eq_T, eq_F, if_pos, if_neg, m1_le, m1_lt', m1_gt, m1_le', m1_eq, m1_qe, b2i_eq0, in_N, in_n, in_I, ↓reduceIte, Bool.true_eq_false, Bool.false_eq_true, reduceCtorEq, decide_eq_true_eq, decide_eq_false_iff_not, Nat.not_lt, Nat.not_le, not_true_eq_false, not_false_eq_true, true_and, and_true, and_self, false_and, and_false, true_or, or_true, false_or, or_false, f_X0_pop, S1.k83, S1.r83_2, S1.k85, e3, ef, po, e3', ef', Nat.add_sub_cancel]
theorem cc_op : ∀ n, n < 100 → ((-1 : Int32) - nI n < 0) ∧ (-1 : Int32) - (-1 - nI n) = nI n := by decide +kernel
theorem o2_c {c : Nat} (h1 : 1 ≤ c) (h2 : c ≤ 11) {a b : Int} (ha : OV (decide (10 ≤ c)) a) (hb : OV (decide (10 ≤ c)) b) : f_X0_ofTwo (nI (opN c)) (vI a) (vI b) h = some (vI (opZ c a b), h) := by
  obtain ⟨a1, a2, a3⟩ := ha
  obtain ⟨b1, b2, b3⟩ := hb
  have mb := mul_b a1 a2 b1 b2
  have la : (vI a).toInt64 = vL a := vI_l (by omega) (by omega)
  have lb : (vI b).toInt64 = vL b := vI_l (by omega) (by omega)
  have z0 : (vI b = nI 0) = (b = 0) := by rw [vI_n]; exact vI_eq (by omega) (by omega) (by omega) (by omega)
  have l1 : (vI a ≤ vI b) = (a ≤ b) := vI_le (by omega) (by omega) (by omega) (by omega)
  have l2 : (vI b ≤ vI a) = (b ≤ a) := vI_le (by omega) (by omega) (by omega) (by omega)
  have l3 : (vI a = vI b) = (a = b) := vI_eq (by omega) (by omega) (by omega) (by omega)
  have l4 : (vI a < vI b) = (a < b) := vI_lt (by omega) (by omega) (by omega) (by omega)
  have l5 : (vI b < vI a) = (b < a) := vI_lt (by omega) (by omega) (by omega) (by omega)
  have n1 : nI 1 = vI 1 := rfl
  have n0 : nI 0 = vI 0 := rfl
  rcases (show c = 1 ∨ c = 2 ∨ c = 3 ∨ c = 4 ∨ c = 5 ∨ c = 6 ∨ c = 7 ∨ c = 8 ∨ c = 9 ∨ c = 10 ∨ c = 11 by omega) with rfl | rfl | rfl | rfl | rfl | rfl | rfl | rfl | rfl | rfl | rfl
  · have cl := c_clamp (h := h) (z := a + b) (by omega) (by omega)
    rw [show opN 1 = 43 from rfl]
    simp (disch := omega) only [nm, bd_s, ko_K, ka_K, koK_t, kaK_t, kr_s, kn_s, kn_n, hK_sI, hR_sI, hK_sL, hR_sL, hI_sL, hL_sI, hL_sL, hI_sI, hN_sI, hN_sL, ch_G, ch_T, nb_0, nb_1, zb_G, d_T, d_F, d_eT, d_eF, b2i_t, b2i_f, tn_nI, fa_lit, fa_litL, m1_e, nI_add, pk_mul, pk_sub, nI_leI, nI_ltI, nI_eq, le_T, le_F, lt_T, lt_F, eq_T, eq_F, if_pos, if_neg, m1_le, m1_lt', m1_gt, m1_le', m1_eq, m1_qe, b2i_eq0, in_N, in_n, in_I, ↓reduceIte, Bool.true_eq_false, Bool.false_eq_true, reduceCtorEq, decide_eq_true_eq, decide_eq_false_iff_not, Nat.not_lt, Nat.not_le, not_true_eq_false, not_false_eq_true, true_and, and_true, and_self, false_and, and_false, true_or, or_true, false_or, or_false, f_X0_ofTwo, la, lb, vL_add, cl]
    rfl
  · have cl := c_clamp (h := h) (z := a - b) (by omega) (by omega)
    rw [show opN 2 = 45 from rfl]
    simp (disch := omega) only [nm, bd_s, ko_K, ka_K, koK_t, kaK_t, kr_s, kn_s, kn_n, hK_sI, hR_sI, hK_sL, hR_sL, hI_sL, hL_sI, hL_sL, hI_sI, hN_sI, hN_sL, ch_G, ch_T, nb_0, nb_1, zb_G, d_T, d_F, d_eT, d_eF, b2i_t, b2i_f, tn_nI, fa_lit, fa_litL, m1_e, nI_add, pk_mul, pk_sub, nI_leI, nI_ltI, nI_eq, le_T, le_F, lt_T, lt_F, eq_T, eq_F, if_pos, if_neg, m1_le, m1_lt', m1_gt, m1_le', m1_eq, m1_qe, b2i_eq0, in_N, in_n, in_I, ↓reduceIte, Bool.true_eq_false, Bool.false_eq_true, reduceCtorEq, decide_eq_true_eq, decide_eq_false_iff_not, Nat.not_lt, Nat.not_le, not_true_eq_false, not_false_eq_true, true_and, and_true, and_self, false_and, and_false, true_or, or_true, false_or, or_false, f_X0_ofTwo, la, lb, vL_sub, cl]
    rfl
  · have cl := c_clamp (h := h) (z := a * b) (by omega) (by omega)
    rw [show opN 3 = 42 from rfl]
    simp (disch := omega) only [nm, bd_s, ko_K, ka_K, koK_t, kaK_t, kr_s, kn_s, kn_n, hK_sI, hR_sI, hK_sL, hR_sL, hI_sL, hL_sI, hL_sL, hI_sI, hN_sI, hN_sL, ch_G, ch_T, nb_0, nb_1, zb_G, d_T, d_F, d_eT, d_eF, b2i_t, b2i_f, tn_nI, fa_lit, fa_litL, m1_e, nI_add, pk_mul, pk_sub, nI_leI, nI_ltI, nI_eq, le_T, le_F, lt_T, lt_F, eq_T, eq_F, if_pos, if_neg, m1_le, m1_lt', m1_gt, m1_le', m1_eq, m1_qe, b2i_eq0, in_N, in_n, in_I, ↓reduceIte, Bool.true_eq_false, Bool.false_eq_true, reduceCtorEq, decide_eq_true_eq, decide_eq_false_iff_not, Nat.not_lt, Nat.not_le, not_true_eq_false, not_false_eq_true, true_and, and_true, and_self, false_and, and_false, true_or, or_true, false_or, or_false, f_X0_ofTwo, la, lb, vL_mul, cl]
    rfl
  · rw [show opN 4 = 47 from rfl]
    show _ = some (vI (flZ a b), h)
    by_cases b0 : b = 0
    · have z1 := z0.trans (eq_true b0)
      simp (disch := omega) only [nm, bd_s, ko_K, ka_K, koK_t, kaK_t, kr_s, kn_s, kn_n, hK_sI, hR_sI, hK_sL, hR_sL, hI_sL, hL_sI, hL_sL, hI_sI, hN_sI, hN_sL, ch_G, ch_T, nb_0, nb_1, zb_G, d_T, d_F, d_eT, d_eF, b2i_t, b2i_f, tn_nI, fa_lit, fa_litL, m1_e, nI_add, pk_mul, pk_sub, nI_leI, nI_ltI, nI_eq, le_T, le_F, lt_T, lt_F, eq_T, eq_F, if_pos, if_neg, m1_le, m1_lt', m1_gt, m1_le', m1_eq, m1_qe, b2i_eq0, in_N, in_n, in_I, ↓reduceIte, Bool.true_eq_false, Bool.false_eq_true, reduceCtorEq, decide_eq_true_eq, decide_eq_false_iff_not, Nat.not_lt, Nat.not_le, not_true_eq_false, not_false_eq_true, true_and, and_true, and_self, false_and, and_false, true_or, or_true, false_or, or_false, f_X0_ofTwo, f_X0_ofTwo_185, z1]
      unfold flZ
      rw [if_pos b0]
      rfl
    · have z1 := z0.trans (eq_false b0)
      have fl := c_floor (h := h) a1 a2 b1 b2 b0
      simp (disch := omega) only [nm, bd_s, ko_K, ka_K, koK_t, kaK_t, kr_s, kn_s, kn_n, hK_sI, hR_sI, hK_sL, hR_sL, hI_sL, hL_sI, hL_sL, hI_sI, hN_sI, hN_sL, ch_G, ch_T, nb_0, nb_1, zb_G, d_T, d_F, d_eT, d_eF, b2i_t, b2i_f, tn_nI, fa_lit, fa_litL, m1_e, nI_add, pk_mul, pk_sub, nI_leI, nI_ltI, nI_eq, le_T, le_F, lt_T, lt_F, eq_T, eq_F, if_pos, if_neg, m1_le, m1_lt', m1_gt, m1_le', m1_eq, m1_qe, b2i_eq0, in_N, in_n, in_I, ↓reduceIte, Bool.true_eq_false, Bool.false_eq_true, reduceCtorEq, decide_eq_true_eq, decide_eq_false_iff_not, Nat.not_lt, Nat.not_le, not_true_eq_false, not_false_eq_true, true_and, and_true, and_self, false_and, and_false, true_or, or_true, false_or, or_false, f_X0_ofTwo, f_X0_ofTwo_185, z1, fl]
  · rw [show opN 5 = 23 from rfl]
    show _ = some (vI (if a ≤ b then a else b), h)
    by_cases q : a ≤ b
    · have l5 := l5.trans (eq_false (show ¬ b < a by omega))
      rw [if_pos q]
      simp (disch := omega) only [nm, bd_s, ko_K, ka_K, koK_t, kaK_t, kr_s, kn_s, kn_n, hK_sI, hR_sI, hK_sL, hR_sL, hI_sL, hL_sI, hL_sL, hI_sI, hN_sI, hN_sL, ch_G, ch_T, nb_0, nb_1, zb_G, d_T, d_F, d_eT, d_eF, b2i_t, b2i_f, tn_nI, fa_lit, fa_litL, m1_e, nI_add, pk_mul, pk_sub, nI_leI, nI_ltI, nI_eq, le_T, le_F, lt_T, lt_F, eq_T, eq_F, if_pos, if_neg, m1_le, m1_lt', m1_gt, m1_le', m1_eq, m1_qe, b2i_eq0, in_N, in_n, in_I, ↓reduceIte, Bool.true_eq_false, Bool.false_eq_true, reduceCtorEq, decide_eq_true_eq, decide_eq_false_iff_not, Nat.not_lt, Nat.not_le, not_true_eq_false, not_false_eq_true, true_and, and_true, and_self, false_and, and_false, true_or, or_true, false_or, or_false, f_X0_ofTwo, j_min, l5]
    · have l5 := l5.trans (eq_true (show b < a by omega))
      rw [if_neg q]
      simp (disch := omega) only [nm, bd_s, ko_K, ka_K, koK_t, kaK_t, kr_s, kn_s, kn_n, hK_sI, hR_sI, hK_sL, hR_sL, hI_sL, hL_sI, hL_sL, hI_sI, hN_sI, hN_sL, ch_G, ch_T, nb_0, nb_1, zb_G, d_T, d_F, d_eT, d_eF, b2i_t, b2i_f, tn_nI, fa_lit, fa_litL, m1_e, nI_add, pk_mul, pk_sub, nI_leI, nI_ltI, nI_eq, le_T, le_F, lt_T, lt_F, eq_T, eq_F, if_pos, if_neg, m1_le, m1_lt', m1_gt, m1_le', m1_eq, m1_qe, b2i_eq0, in_N, in_n, in_I, ↓reduceIte, Bool.true_eq_false, Bool.false_eq_true, reduceCtorEq, decide_eq_true_eq, decide_eq_false_iff_not, Nat.not_lt, Nat.not_le, not_true_eq_false, not_false_eq_true, true_and, and_true, and_self, false_and, and_false, true_or, or_true, false_or, or_false, f_X0_ofTwo, j_min, l5]
  · rw [show opN 6 = 24 from rfl]
    show _ = some (vI (if a ≤ b then b else a), h)
    by_cases q : a < b
    · have l4 := l4.trans (eq_true q)
      rw [if_pos (by omega)]
      simp (disch := omega) only [nm, bd_s, ko_K, ka_K, koK_t, kaK_t, kr_s, kn_s, kn_n, hK_sI, hR_sI, hK_sL, hR_sL, hI_sL, hL_sI, hL_sL, hI_sI, hN_sI, hN_sL, ch_G, ch_T, nb_0, nb_1, zb_G, d_T, d_F, d_eT, d_eF, b2i_t, b2i_f, tn_nI, fa_lit, fa_litL, m1_e, nI_add, pk_mul, pk_sub, nI_leI, nI_ltI, nI_eq, le_T, le_F, lt_T, lt_F, eq_T, eq_F, if_pos, if_neg, m1_le, m1_lt', m1_gt, m1_le', m1_eq, m1_qe, b2i_eq0, in_N, in_n, in_I, ↓reduceIte, Bool.true_eq_false, Bool.false_eq_true, reduceCtorEq, decide_eq_true_eq, decide_eq_false_iff_not, Nat.not_lt, Nat.not_le, not_true_eq_false, not_false_eq_true, true_and, and_true, and_self, false_and, and_false, true_or, or_true, false_or, or_false, f_X0_ofTwo, j_max, l4]
    · have l4 := l4.trans (eq_false q)
      simp (disch := omega) only [nm, bd_s, ko_K, ka_K, koK_t, kaK_t, kr_s, kn_s, kn_n, hK_sI, hR_sI, hK_sL, hR_sL, hI_sL, hL_sI, hL_sL, hI_sI, hN_sI, hN_sL, ch_G, ch_T, nb_0, nb_1, zb_G, d_T, d_F, d_eT, d_eF, b2i_t, b2i_f, tn_nI, fa_lit, fa_litL, m1_e, nI_add, pk_mul, pk_sub, nI_leI, nI_ltI, nI_eq, le_T, le_F, lt_T, lt_F, eq_T, eq_F, if_pos, if_neg, m1_le, m1_lt', m1_gt, m1_le', m1_eq, m1_qe, b2i_eq0, in_N, in_n, in_I, ↓reduceIte, Bool.true_eq_false, Bool.false_eq_true, reduceCtorEq, decide_eq_true_eq, decide_eq_false_iff_not, Nat.not_lt, Nat.not_le, not_true_eq_false, not_false_eq_true, true_and, and_true, and_self, false_and, and_false, true_or, or_true, false_or, or_false, f_X0_ofTwo, j_max, l4]
      by_cases q2 : a ≤ b
      · rw [if_pos q2, show a = b by omega]
      · rw [if_neg q2]
  · rw [show opN 7 = 60 from rfl]
    show _ = some (vI (if a < b then 1 else 0), h)
    by_cases q : a < b
    · have l2 := l2.trans (eq_false (show ¬ b ≤ a by omega))
      rw [if_pos q]
      simp (disch := omega) only [nm, bd_s, ko_K, ka_K, koK_t, kaK_t, kr_s, kn_s, kn_n, hK_sI, hR_sI, hK_sL, hR_sL, hI_sL, hL_sI, hL_sL, hI_sI, hN_sI, hN_sL, ch_G, ch_T, nb_0, nb_1, zb_G, d_T, d_F, d_eT, d_eF, b2i_t, b2i_f, tn_nI, fa_lit, fa_litL, m1_e, nI_add, pk_mul, pk_sub, nI_leI, nI_ltI, nI_eq, le_T, le_F, lt_T, lt_F, eq_T, eq_F, if_pos, if_neg, m1_le, m1_lt', m1_gt, m1_le', m1_eq, m1_qe, b2i_eq0, in_N, in_n, in_I, ↓reduceIte, Bool.true_eq_false, Bool.false_eq_true, reduceCtorEq, decide_eq_true_eq, decide_eq_false_iff_not, Nat.not_lt, Nat.not_le, not_true_eq_false, not_false_eq_true, true_and, and_true, and_self, false_and, and_false, true_or, or_true, false_or, or_false, f_X0_ofTwo, f_X0_ofTwo_122, l2, n1]
    · have l2 := l2.trans (eq_true (show b ≤ a by omega))
      rw [if_neg q]
      simp (disch := omega) only [nm, bd_s, ko_K, ka_K, koK_t, kaK_t, kr_s, kn_s, kn_n, hK_sI, hR_sI, hK_sL, hR_sL, hI_sL, hL_sI, hL_sL, hI_sI, hN_sI, hN_sL, ch_G, ch_T, nb_0, nb_1, zb_G, d_T, d_F, d_eT, d_eF, b2i_t, b2i_f, tn_nI, fa_lit, fa_litL, m1_e, nI_add, pk_mul, pk_sub, nI_leI, nI_ltI, nI_eq, le_T, le_F, lt_T, lt_F, eq_T, eq_F, if_pos, if_neg, m1_le, m1_lt', m1_gt, m1_le', m1_eq, m1_qe, b2i_eq0, in_N, in_n, in_I, ↓reduceIte, Bool.true_eq_false, Bool.false_eq_true, reduceCtorEq, decide_eq_true_eq, decide_eq_false_iff_not, Nat.not_lt, Nat.not_le, not_true_eq_false, not_false_eq_true, true_and, and_true, and_self, false_and, and_false, true_or, or_true, false_or, or_false, f_X0_ofTwo, f_X0_ofTwo_122, l2, n0]
  · rw [show opN 8 = 62 from rfl]
    show _ = some (vI (if b < a then 1 else 0), h)
    by_cases q : b < a
    · have l1 := l1.trans (eq_false (show ¬ a ≤ b by omega))
      rw [if_pos q]
      simp (disch := omega) only [nm, bd_s, ko_K, ka_K, koK_t, kaK_t, kr_s, kn_s, kn_n, hK_sI, hR_sI, hK_sL, hR_sL, hI_sL, hL_sI, hL_sL, hI_sI, hN_sI, hN_sL, ch_G, ch_T, nb_0, nb_1, zb_G, d_T, d_F, d_eT, d_eF, b2i_t, b2i_f, tn_nI, fa_lit, fa_litL, m1_e, nI_add, pk_mul, pk_sub, nI_leI, nI_ltI, nI_eq, le_T, le_F, lt_T, lt_F, eq_T, eq_F, if_pos, if_neg, m1_le, m1_lt', m1_gt, m1_le', m1_eq, m1_qe, b2i_eq0, in_N, in_n, in_I, ↓reduceIte, Bool.true_eq_false, Bool.false_eq_true, reduceCtorEq, decide_eq_true_eq, decide_eq_false_iff_not, Nat.not_lt, Nat.not_le, not_true_eq_false, not_false_eq_true, true_and, and_true, and_self, false_and, and_false, true_or, or_true, false_or, or_false, f_X0_ofTwo, f_X0_ofTwo_133, l1, n1]
    · have l1 := l1.trans (eq_true (show a ≤ b by omega))
      rw [if_neg q]
      simp (disch := omega) only [nm, bd_s, ko_K, ka_K, koK_t, kaK_t, kr_s, kn_s, kn_n, hK_sI, hR_sI, hK_sL, hR_sL, hI_sL, hL_sI, hL_sL, hI_sI, hN_sI, hN_sL, ch_G, ch_T, nb_0, nb_1, zb_G, d_T, d_F, d_eT, d_eF, b2i_t, b2i_f, tn_nI, fa_lit, fa_litL, m1_e, nI_add, pk_mul, pk_sub, nI_leI, nI_ltI, nI_eq, le_T, le_F, lt_T, lt_F, eq_T, eq_F, if_pos, if_neg, m1_le, m1_lt', m1_gt, m1_le', m1_eq, m1_qe, b2i_eq0, in_N, in_n, in_I, ↓reduceIte, Bool.true_eq_false, Bool.false_eq_true, reduceCtorEq, decide_eq_true_eq, decide_eq_false_iff_not, Nat.not_lt, Nat.not_le, not_true_eq_false, not_false_eq_true, true_and, and_true, and_self, false_and, and_false, true_or, or_true, false_or, or_false, f_X0_ofTwo, f_X0_ofTwo_133, l1, n0]
  · rw [show opN 9 = 61 from rfl]
    show _ = some (vI (if a = b then 1 else 0), h)
    by_cases q : a = b
    · have l3 := l3.trans (eq_true q)
      rw [if_pos q]
      simp (disch := omega) only [nm, bd_s, ko_K, ka_K, koK_t, kaK_t, kr_s, kn_s, kn_n, hK_sI, hR_sI, hK_sL, hR_sL, hI_sL, hL_sI, hL_sL, hI_sI, hN_sI, hN_sL, ch_G, ch_T, nb_0, nb_1, zb_G, d_T, d_F, d_eT, d_eF, b2i_t, b2i_f, tn_nI, fa_lit, fa_litL, m1_e, nI_add, pk_mul, pk_sub, nI_leI, nI_ltI, nI_eq, le_T, le_F, lt_T, lt_F, eq_T, eq_F, if_pos, if_neg, m1_le, m1_lt', m1_gt, m1_le', m1_eq, m1_qe, b2i_eq0, in_N, in_n, in_I, ↓reduceIte, Bool.true_eq_false, Bool.false_eq_true, reduceCtorEq, decide_eq_true_eq, decide_eq_false_iff_not, Nat.not_lt, Nat.not_le, not_true_eq_false, not_false_eq_true, true_and, and_true, and_self, false_and, and_false, true_or, or_true, false_or, or_false, f_X0_ofTwo, f_X0_ofTwo_144, l3, n1]
    · have l3 := l3.trans (eq_false q)
      rw [if_neg q]
      simp (disch := omega) only [nm, bd_s, ko_K, ka_K, koK_t, kaK_t, kr_s, kn_s, kn_n, hK_sI, hR_sI, hK_sL, hR_sL, hI_sL, hL_sI, hL_sL, hI_sI, hN_sI, hN_sL, ch_G, ch_T, nb_0, nb_1, zb_G, d_T, d_F, d_eT, d_eF, b2i_t, b2i_f, tn_nI, fa_lit, fa_litL, m1_e, nI_add, pk_mul, pk_sub, nI_leI, nI_ltI, nI_eq, le_T, le_F, lt_T, lt_F, eq_T, eq_F, if_pos, if_neg, m1_le, m1_lt', m1_gt, m1_le', m1_eq, m1_qe, b2i_eq0, in_N, in_n, in_I, ↓reduceIte, Bool.true_eq_false, Bool.false_eq_true, reduceCtorEq, decide_eq_true_eq, decide_eq_false_iff_not, Nat.not_lt, Nat.not_le, not_true_eq_false, not_false_eq_true, true_and, and_true, and_self, false_and, and_false, true_or, or_true, false_or, or_false, f_X0_ofTwo, f_X0_ofTwo_144, l3, n0]
  · rw [show opN 10 = 20 from rfl]
    show _ = some (vI (a * b), h)
    have e : vI a &&& vI b = vI (a * b) := by
      rcases a3 rfl with rfl | rfl <;> rcases b3 rfl with rfl | rfl <;> decide
    simp (disch := omega) only [nm, bd_s, ko_K, ka_K, koK_t, kaK_t, kr_s, kn_s, kn_n, hK_sI, hR_sI, hK_sL, hR_sL, hI_sL, hL_sI, hL_sL, hI_sI, hN_sI, hN_sL, ch_G, ch_T, nb_0, nb_1, zb_G, d_T, d_F, d_eT, d_eF, b2i_t, b2i_f, tn_nI, fa_lit, fa_litL, m1_e, nI_add, pk_mul, pk_sub, nI_leI, nI_ltI, nI_eq, le_T, le_F, lt_T, lt_F, eq_T, eq_F, if_pos, if_neg, m1_le, m1_lt', m1_gt, m1_le', m1_eq, m1_qe, b2i_eq0, in_N, in_n, in_I, ↓reduceIte, Bool.true_eq_false, Bool.false_eq_true, reduceCtorEq, decide_eq_true_eq, decide_eq_false_iff_not, Nat.not_lt, Nat.not_le, not_true_eq_false, not_false_eq_true, true_and, and_true, and_self, false_and, and_false, true_or, or_true, false_or, or_false, f_X0_ofTwo, e]
  · rw [show opN 11 = 19 from rfl]
    show _ = some (vI (if 0 < a + b then 1 else 0), h)
    have e : vI a ||| vI b = vI (if 0 < a + b then 1 else 0) := by
      rcases a3 rfl with rfl | rfl <;> rcases b3 rfl with rfl | rfl <;> decide
    simp (disch := omega) only [nm, bd_s, ko_K, ka_K, koK_t, kaK_t, kr_s, kn_s, kn_n, hK_sI, hR_sI, hK_sL, hR_sL, hI_sL, hL_sI, hL_sL, hI_sI, hN_sI, hN_sL, ch_G, ch_T, nb_0, nb_1, zb_G, d_T, d_F, d_eT, d_eF, b2i_t, b2i_f, tn_nI, fa_lit, fa_litL, m1_e, nI_add, pk_mul, pk_sub, nI_leI, nI_ltI, nI_eq, le_T, le_F, lt_T, lt_F, eq_T, eq_F, if_pos, if_neg, m1_le, m1_lt', m1_gt, m1_le', m1_eq, m1_qe, b2i_eq0, in_N, in_n, in_I, ↓reduceIte, Bool.true_eq_false, Bool.false_eq_true, reduceCtorEq, decide_eq_true_eq, decide_eq_false_iff_not, Nat.not_lt, Nat.not_le, not_true_eq_false, not_false_eq_true, true_and, and_true, and_self, false_and, and_false, true_or, or_true, false_or, or_false, f_X0_ofTwo, e]
/-- one code each -/
theorem w_num {a e i n k : Nat} (S : XS h x) (A : MA h a) (ha : a = x + 92 ∨ a = x + 98) (hi : i < e) (he : e ≤ 1600) (w : hI h (a + 3) i = nI k) (hk : k < 2 ^ 31) (hd : d < 64) : f_X0_work_28 (n + 1) (x + 83) a (nI e) (nI i) (WK h x d f) = f_X0_work_28 n (x + 83) a (nI e) (nI (i + 1)) (WK h x (d + 1) (fun j => if j = d then nI k else f j)) := by
  have S1 : XS (WK h x d f) x := S.of rfl rfl
  have A1 : MA (WK h x d f) a := A.of rfl rfl
  have w1 : hI (WK h x d f) (a + 3) i = nI k := by rw [WK_o (by omega) (by omega)]; exact w
  have pu := k_push (f := f) S hd (nI k)
  simp (disch := omega) only [nm, bd_s, ko_K, ka_K, koK_t, kaK_t, kr_s, kn_s, kn_n, hK_sI, hR_sI, hK_sL, hR_sL, hI_sL, hL_sI, hL_sL, hI_sI, hN_sI, hN_sL, ch_G, ch_T, nb_0, nb_1, zb_G, d_T, d_F, d_eT, d_eF, b2i_t, b2i_f, tn_nI, fa_lit, fa_litL, m1_e, nI_add, pk_mul, pk_sub, nI_leI, nI_ltI, nI_eq, le_T, le_F, lt_T, lt_F, eq_T, eq_F, if_pos, if_neg, m1_le, m1_lt', m1_gt, m1_le', m1_eq, m1_qe, b2i_eq0, in_N, in_n, in_I, ↓reduceIte, Bool.true_eq_false, Bool.false_eq_true, reduceCtorEq, decide_eq_true_eq, decide_eq_false_iff_not, Nat.not_lt, Nat.not_le, not_true_eq_false, not_false_eq_true, true_and, and_true, and_self, false_and, and_false, true_or, or_true, false_or, or_false, f_X0_work_28, b_X0_work_28, f_X0_work_154, A1.k, A1.r6, A1.k3, S1.k83, w1, pu]
theorem w_fig {a e i n q : Nat} {v : Int32} (S : XS h x) (A : MA h a) (ha : a = x + 92 ∨ a = x + 98) (hi : i < e) (he : e ≤ 1600) (w : hI h (a + 3) i = -1 - nI q) (hq : q < 17) (g : hI h (x + 84) q = v) (hd : d < 64) : f_X0_work_28 (n + 1) (x + 83) a (nI e) (nI i) (WK h x d f) = f_X0_work_28 n (x + 83) a (nI e) (nI (i + 1)) (WK h x (d + 1) (fun j => if j = d then v else f j)) := by
  have S1 : XS (WK h x d f) x := S.of rfl rfl
  have A1 : MA (WK h x d f) a := A.of rfl rfl
  have w1 : hI (WK h x d f) (a + 3) i = -1 - nI q := by rw [WK_o (by omega) (by omega)]; exact w
  have w2 : hI (WK h x d f) (x + 84) q = v := by rw [WK_o (by omega) (by omega)]; exact g
  have oc := cc_op q (by omega)
  have pu := k_push (f := f) S hd v
  have e17 : Int32.ofNat 17 = nI 17 := rfl
  have zl : ((-1 : Int32) - nI q < nI 0) = True := eq_true oc.1
  have zo : -nI 1 - ((-1 : Int32) - nI q) = nI q := oc.2
  clear oc w
  generalize (-1 : Int32) - nI q = z at *
  simp (disch := omega) only [nm, bd_s, ko_K, ka_K, koK_t, kaK_t, kr_s, kn_s, kn_n, hK_sI, hR_sI, hK_sL, hR_sL, hI_sL, hL_sI, hL_sL, hI_sI, hN_sI, hN_sL, ch_G, ch_T, nb_0, nb_1, zb_G, d_T, d_F, d_eT, d_eF, b2i_t, b2i_f, tn_nI, fa_lit, fa_litL, m1_e, nI_add, pk_mul, pk_sub, nI_leI, nI_ltI, nI_eq, le_T, le_F, lt_T, lt_F, eq_T, eq_F, if_pos, if_neg, m1_le, m1_lt', m1_gt, m1_le', m1_eq, m1_qe, b2i_eq0, in_N, in_n, in_I, ↓reduceIte, Bool.true_eq_false, Bool.false_eq_true, reduceCtorEq, decide_eq_true_eq, decide_eq_false_iff_not, Nat.not_lt, Nat.not_le, not_true_eq_false, not_false_eq_true, true_and, and_true, and_self, false_and, and_false, true_or, or_true, false_or, or_false, f_X0_work_28, b_X0_work_28, f_X0_work_154, A1.k, A1.r6, A1.k3, S1.k83, S1.r83_1, S1.k84, w1, zl, zo, e17, w2, pu]
theorem w_all {a e i n : Nat} (S : XS h x) (A : MA h a) (ha : a = x + 92 ∨ a = x + 98) (hi : i < e) (he : e ≤ 1600) (w : hI h (a + 3) i = -1 - nI 22) (hd : d < 64) : f_X0_work_28 (n + 1) (x + 83) a (nI e) (nI i) (WK h x d f) = f_X0_work_28 n (x + 83) a (nI e) (nI (i + 1)) (WK h x (d + 1) (fun j => if j = d then nI 1 else f j)) := by
  have S1 : XS (WK h x d f) x := S.of rfl rfl
  have A1 : MA (WK h x d f) a := A.of rfl rfl
  have w1 : hI (WK h x d f) (a + 3) i = -1 - nI 22 := by rw [WK_o (by omega) (by omega)]; exact w
  have oc := cc_op 22 (by omega)
  have pu := k_push (f := f) S hd (nI 1)
  have e17 : Int32.ofNat 17 = nI 17 := rfl
  have zl : ((-1 : Int32) - nI 22 < nI 0) = True := eq_true oc.1
  have zo : -nI 1 - ((-1 : Int32) - nI 22) = nI 22 := oc.2
  clear oc w
  generalize (-1 : Int32) - nI 22 = z at *
  simp (disch := omega) only [nm, bd_s, ko_K, ka_K, koK_t, kaK_t, kr_s, kn_s, kn_n, hK_sI, hR_sI, hK_sL, hR_sL, hI_sL, hL_sI, hL_sL, hI_sI, hN_sI, hN_sL, ch_G, ch_T, nb_0, nb_1, zb_G, d_T, d_F, d_eT, d_eF, b2i_t, b2i_f, tn_nI, fa_lit, fa_litL, m1_e, nI_add, pk_mul, pk_sub, nI_leI, nI_ltI, nI_eq, le_T, le_F, lt_T, lt_F, eq_T, eq_F, if_pos, if_neg, m1_le, m1_lt', m1_gt, m1_le', m1_eq, m1_qe, b2i_eq0, in_N, in_n, in_I, ↓reduceIte, Bool.true_eq_false, Bool.false_eq_true, reduceCtorEq, decide_eq_true_eq, decide_eq_false_iff_not, Nat.not_lt, Nat.not_le, not_true_eq_false, not_false_eq_true, true_and, and_true, and_self, false_and, and_false, true_or, or_true, false_or, or_false, f_X0_work_28, b_X0_work_28, f_X0_work_154, A1.k, A1.r6, A1.k3, S1.k83, S1.r83_1, S1.k84, w1, zl, zo, e17, pu]
theorem w_one {a e i n q : Nat} {v v' : Int32} (S : XS h x) (A : MA h a) (ha : a = x + 92 ∨ a = x + 98) (hi : i < e) (he : e ≤ 1600) (w : hI h (a + 3) i = -1 - nI q) (hq : q = 17 ∨ q = 18 ∨ q = 21) (hd : d < 63) (fv : f d = v) (o : f_X0_ofOne (x + 83) (nI q) v (WK h x d f) = some (v', WK h x d f)) : f_X0_work_28 (n + 1) (x + 83) a (nI e) (nI i) (WK h x (d + 1) f) = f_X0_work_28 n (x + 83) a (nI e) (nI (i + 1)) (WK h x (d + 1) (fun j => if j = d then v' else f j)) := by
  have S1 : XS (WK h x (d + 1) f) x := S.of rfl rfl
  have A1 : MA (WK h x (d + 1) f) a := A.of rfl rfl
  have S2 : XS (WK h x d f) x := S.of rfl rfl
  have w1 : hI (WK h x (d + 1) f) (a + 3) i = -1 - nI q := by rw [WK_o (by omega) (by omega)]; exact w
  have oc := cc_op q (by omega)
  have po := k_pop (f := f) (d := d) S (by omega)
  rw [fv] at po
  have pu := k_push (f := f) S (show d < 64 by omega) v'
  have e17 : Int32.ofNat 17 = nI 17 := rfl
  have zl : ((-1 : Int32) - nI q < nI 0) = True := eq_true oc.1
  have zo : -nI 1 - ((-1 : Int32) - nI q) = nI q := oc.2
  clear oc w
  generalize (-1 : Int32) - nI q = z at *
  by_cases q21 : q = 21
  · simp (disch := omega) only [nm, bd_s, ko_K, ka_K, koK_t, kaK_t, kr_s, kn_s, kn_n, hK_sI, hR_sI, hK_sL, hR_sL, hI_sL, hL_sI, hL_sL, hI_sI, hN_sI, hN_sL, ch_G, ch_T, nb_0, nb_1, zb_G, d_T, d_F, d_eT, d_eF, b2i_t, b2i_f, tn_nI, fa_lit, fa_litL, m1_e, nI_add, pk_mul, pk_sub, nI_leI, nI_ltI, nI_eq, le_T, le_F, lt_T, lt_F, eq_T, eq_F, if_pos, if_neg, m1_le, m1_lt', m1_gt, m1_le', m1_eq, m1_qe, b2i_eq0, in_N, in_n, in_I, ↓reduceIte, Bool.true_eq_false, Bool.false_eq_true, reduceCtorEq, decide_eq_true_eq, decide_eq_false_iff_not, Nat.not_lt, Nat.not_le, not_true_eq_false, not_false_eq_true, true_and, and_true, and_self, false_and, and_false, true_or, or_true, false_or, or_false, f_X0_work_28, b_X0_work_28, f_X0_work_154, f_X0_work_116, A1.k, A1.r6, A1.k3, S1.k83, S1.r83_1, S1.k84, w1, zl, zo, e17, po, S2.k83, o, pu]
  · simp (disch := omega) only [nm, bd_s, ko_K, ka_K, koK_t, kaK_t, kr_s, kn_s, kn_n, hK_sI, hR_sI, hK_sL, hR_sL, hI_sL, hL_sI, hL_sL, hI_sI, hN_sI, hN_sL, ch_G, ch_T, nb_0, nb_1, zb_G, d_T, d_F, d_eT, d_eF, b2i_t, b2i_f, tn_nI, fa_lit, fa_litL, m1_e, nI_add, pk_mul, pk_sub, nI_leI, nI_ltI, nI_eq, le_T, le_F, lt_T, lt_F, eq_T, eq_F, if_pos, if_neg, m1_le, m1_lt', m1_gt, m1_le', m1_eq, m1_qe, b2i_eq0, in_N, in_n, in_I, ↓reduceIte, Bool.true_eq_false, Bool.false_eq_true, reduceCtorEq, decide_eq_true_eq, decide_eq_false_iff_not, Nat.not_lt, Nat.not_le, not_true_eq_false, not_false_eq_true, true_and, and_true, and_self, false_and, and_false, true_or, or_true, false_or, or_false, f_X0_work_28, b_X0_work_28, f_X0_work_154, f_X0_work_116, A1.k, A1.r6, A1.k3, S1.k83, S1.r83_1, S1.k84, w1, zl, zo, e17, po, S2.k83, o, pu]
theorem w_tw2 {n a e i q : Nat} {g1 g2 g3 g4 : aH} {u v w' : Int32} (k1 : hK g1 (x + 83) = some (.inl 0)) (k2 : hK g2 (x + 83) = some (.inl 0)) (k3 : hK g3 (x + 83) = some (.inl 0)) (po : f_X0_pop (x + 83) g1 = some (v, g2)) (po2 : f_X0_pop (x + 83) g2 = some (u, g3)) (o : f_X0_ofTwo (nI q) u v g3 = some (w', g3)) (pu : f_X0_push (x + 83) w' g3 = some ((), g4)) : (bd (f_X0_pop (x + 83) g1) fun v37 h38 => ko h38 (x + 83) 0 <| bd (f_X0_pop (x + 83) h38) fun v40 h41 => bd (f_X0_ofTwo (nI q) v40 v37 h41) fun v43 h44 => ko h44 (x + 83) 0 <| bd (f_X0_push (x + 83) v43 h44) fun _ h47 => f_X0_work_154 (f_X0_work_28 n) (x + 83) a (nI e) (nI i) h47) = f_X0_work_28 n (x + 83) a (nI e) (nI i + 1) g4 := by
  rw [po]
  show ko g2 (x + 83) 0 _ = _
  rw [ko_t k2, po2]
  show bd (f_X0_ofTwo (nI q) u v g3) (fun v43 h44 => ko h44 (x + 83) 0 <| bd (f_X0_push (x + 83) v43 h44) fun _ h47 => f_X0_work_154 (f_X0_work_28 n) (x + 83) a (nI e) (nI i) h47) = _
  rw [o]
  show ko g3 (x + 83) 0 (bd (f_X0_push (x + 83) w' g3) fun _ h47 => f_X0_work_154 (f_X0_work_28 n) (x + 83) a (nI e) (nI i) h47) = _
  rw [ko_t k3, pu]
  rfl
theorem w_two {a e i n q : Nat} {u v w' : Int32} (S : XS h x) (A : MA h a) (ha : a = x + 92 ∨ a = x + 98) (hi : i < e) (he : e ≤ 1600) (w : hI h (a + 3) i = -1 - nI q) (q1 : 19 ≤ q) (q2 : ¬ q = 21) (q3 : ¬ q = 22) (q4 : q < 63) (hd : d < 62) (fu : f d = u) (fv : f (d + 1) = v) (o : f_X0_ofTwo (nI q) u v (WK h x d f) = some (w', WK h x d f)) : f_X0_work_28 (n + 1) (x + 83) a (nI e) (nI i) (WK h x (d + 1 + 1) f) = f_X0_work_28 n (x + 83) a (nI e) (nI (i + 1)) (WK h x (d + 1) (fun j => if j = d then w' else f j)) := by
  have S1 : XS (WK h x (d + 1 + 1) f) x := S.of rfl rfl
  have A1 : MA (WK h x (d + 1 + 1) f) a := A.of rfl rfl
  have S2 : XS (WK h x (d + 1) f) x := S.of rfl rfl
  have S3 : XS (WK h x d f) x := S.of rfl rfl
  have w1 : hI (WK h x (d + 1 + 1) f) (a + 3) i = -1 - nI q := by rw [WK_o (by omega) (by omega)]; exact w
  have oc := cc_op q (by omega)
  have po := k_pop (f := f) (d := d + 1) S (by omega)
  rw [fv] at po
  have po2 := k_pop (f := f) (d := d) S (by omega)
  rw [fu] at po2
  have pu := k_push (f := f) S (show d < 64 by omega) w'
  have tw := w_tw2 (n := n) (a := a) (e := e) (i := i) S1.k83 S2.k83 S3.k83 po po2 o pu
  have e17 : Int32.ofNat 17 = nI 17 := rfl
  have zl : ((-1 : Int32) - nI q < nI 0) = True := eq_true oc.1
  have zo : -nI 1 - ((-1 : Int32) - nI q) = nI q := oc.2
  clear oc w fu fv ha po po2 o pu S2 S3
  generalize (-1 : Int32) - nI q = z at *
  generalize WK h x (d + 1 + 1) f = g1 at *
  rw [show f_X0_work_28 (n + 1) = b_X0_work_28 (f_X0_work_28 n) from rfl]
  simp (disch := omega) only [nm, bd_s, ko_K, ka_K, koK_t, kaK_t, kr_s, kn_s, kn_n, hK_sI, hR_sI, hK_sL, hR_sL, hI_sL, hL_sI, hL_sL, hI_sI, hN_sI, hN_sL, ch_G, ch_T, nb_0, nb_1, zb_G, d_T, d_F, d_eT, d_eF, b2i_t, b2i_f, tn_nI, fa_lit, fa_litL, m1_e, nI_add, pk_mul, pk_sub, nI_leI, nI_ltI, nI_eq, le_T, le_F, lt_T, lt_F, eq_T, eq_F, if_pos, if_neg, m1_le, m1_lt', m1_gt, m1_le', m1_eq, m1_qe, b2i_eq0, in_N, in_n, in_I, ↓reduceIte, Bool.true_eq_false, Bool.false_eq_true, reduceCtorEq, decide_eq_true_eq, decide_eq_false_iff_not, Nat.not_lt, Nat.not_le, not_true_eq_false, not_false_eq_true, true_and, and_true, and_self, false_and, and_false, true_or, or_true, false_or, or_false, b_X0_work_28, A1.k, A1.r6, A1.k3, S1.k83, S1.r83_1, S1.k84, w1, zl, zo, e17]
  rw [← show nI i + 1 = nI (i + 1) from (Int32.ofNat_add i 1).symm]
  exact tw
theorem cc_hi {c : Nat} (h : 1000 ≤ c) : ccI c = nI (c - 1000) := if_pos h
theorem cc_lo {c : Nat} (h : c < 1000) : ccI c = -1 - nI (opN c) := if_neg (by omega)
theorem op_1 {c : Nat} (h : c = 60 ∨ c = 61) : opN c = 17 ∨ opN c = 18 ∨ opN c = 21 := by rcases h with rfl | rfl; exact Or.inl rfl; exact Or.inr (Or.inl rfl)
theorem op_2 {c : Nat} (h1 : 1 ≤ c) (h2 : c ≤ 11) : 19 ≤ opN c ∧ ¬ opN c = 21 ∧ ¬ opN c = 22 ∧ opN c < 63 := by
  rcases (show c = 1 ∨ c = 2 ∨ c = 3 ∨ c = 4 ∨ c = 5 ∨ c = 6 ∨ c = 7 ∨ c = 8 ∨ c = 9 ∨ c = 10 ∨ c = 11 by omega) with rfl | rfl | rfl | rfl | rfl | rfl | rfl | rfl | rfl | rfl | rfl <;> decide
/-- all codes, from one on -/
theorem c_work {a : Nat} {al : Nat → Bool} {fg : Nat → Int} {o1 : Nat → Int → Int} (S : XS h x) (A : MA h a) (ha : a = x + 92 ∨ a = x + 98) (hf : ∀ c, al c = true → c ≤ 50 → OV false (fg c)) (ho : ∀ c v, al c = true → (c = 60 ∨ c = 61) → OV false v → OV false (o1 c v)) (gf : ∀ c, al c = true → 40 ≤ c → c ≤ 50 → opN c < 17 ∧ hI h (x + 84) (opN c) = vI (fg c)) (go : ∀ c v d f, al c = true → (c = 60 ∨ c = 61) → OV false v → f_X0_ofOne (x + 83) (nI (opN c)) (vI v) (WK h x d f) = some (vI (o1 c v), WK h x d f)) {e : Nat} (he : e ≤ 1600) : ∀ (l : List Nat) (i n : Nat) (s : List Int) (f : Nat → Int32) (ty : List Bool) (t : Bool), i + l.length = e → l.length < n → (∀ j, j < l.length → hI h (a + 3) (i + j) = ccI (l.getD j 0)) → tyC al l ty = some [t] → TM ty s → SK f s → ∃ d' f' v, f_X0_work_28 n (x + 83) a (nI e) (nI i) (WK h x s.length f) = some (vI v, WK h x d' f') ∧ evL fg o1 l s = [v] ∧ OV t v := by
  intro l
  induction l with
  | nil =>
    intro i n s f ty t hi hn hc ht hs hk
    obtain ⟨n, rfl⟩ : ∃ m, n = m + 1 := ⟨n - 1, by omega⟩
    have hi : i = e := by simpa using hi
    subst hi
    rw [tyC.eq_def] at ht
    cases ht
    obtain ⟨v, s1, rfl, v1, v2⟩ := hs.c1
    have : s1 = [] := List.length_eq_zero_iff.mp v2.len.symm
    subst this
    have po := k_pop (f := f) (d := 0) S (by omega)
    have f0 : f 0 = vI v := hk.pop.1
    rw [f0] at po
    have S1 : XS (WK h x (0 + 1) f) x := S.of rfl rfl
    refine ⟨0, f, v, ?_, rfl, v1⟩
    show f_X0_work_28 (n + 1) (x + 83) a (nI i) (nI i) (WK h x (0 + 1) f) = _
    simp (disch := omega) only [nm, bd_s, ko_K, ka_K, koK_t, kaK_t, kr_s, kn_s, kn_n, hK_sI, hR_sI, hK_sL, hR_sL, hI_sL, hL_sI, hL_sL, hI_sI, hN_sI, hN_sL, ch_G, ch_T, nb_0, nb_1, zb_G, d_T, d_F, d_eT, d_eF, b2i_t, b2i_f, tn_nI, fa_lit, fa_litL, m1_e, nI_add, pk_mul, pk_sub, nI_leI, nI_ltI, nI_eq, le_T, le_F, lt_T, lt_F, eq_T, eq_F, if_pos, if_neg, m1_le, m1_lt', m1_gt, m1_le', m1_eq, m1_qe, b2i_eq0, in_N, in_n, in_I, ↓reduceIte, Bool.true_eq_false, Bool.false_eq_true, reduceCtorEq, decide_eq_true_eq, decide_eq_false_iff_not, Nat.not_lt, Nat.not_le, not_true_eq_false, not_false_eq_true, true_and, and_true, and_self, false_and, and_false, true_or, or_true, false_or, or_false, f_X0_work_28, b_X0_work_28, S1.k83, po]
  | cons c l ih =>
    intro i n s f ty t hi hn hc ht hs hk
    obtain ⟨n, rfl⟩ : ∃ m, n = m + 1 := ⟨n - 1, by omega⟩
    rw [List.length_cons] at hi hn
    obtain ⟨l60, ⟨ty1, t1, t2⟩, cs⟩ := ev_c hf ho ht hs
    have c0 : hI h (a + 3) i = ccI c := hc 0 (by rw [List.length_cons]; omega)
    have hc' : ∀ j, j < l.length → hI h (a + 3) (i + 1 + j) = ccI (l.getD j 0) := fun j hj => by
      have := hc (j + 1) (by rw [List.length_cons]; omega)
      rw [show i + 1 + j = i + (j + 1) by omega, this, List.getD_cons_succ]
    have nxt := fun (f2 : Nat → Int32) (hk2 : SK f2 (evS fg o1 c s)) => ih (i + 1) n (evS fg o1 c s) f2 ty1 t (by omega) (by omega) hc' t1 t2 hk2
    show ∃ d' f' v, f_X0_work_28 (n + 1) (x + 83) a (nI e) (nI i) (WK h x s.length f) = some (vI v, WK h x d' f') ∧ evL fg o1 l (evS fg o1 c s) = [v] ∧ OV t v
    rcases cs with ⟨a1, a2, a3⟩ | ⟨a1, a2, v, s1, rfl, v1, v2, a3⟩ | ⟨a1, a2, a3, a4, a5⟩ | ⟨rfl, a2⟩ | ⟨rfl, v, s1, rfl, v1, a3⟩ | ⟨a1, a2, b, a', s2, rfl, v1, v2, a3⟩
    · rw [a3] at nxt ⊢
      rw [cc_hi a1] at c0
      rw [w_num S A ha (by omega) he c0 (by omega) (by omega), vI_n (c - 1000)]
      exact nxt _ (hk.push _)
    · rw [a3] at nxt ⊢
      rw [cc_lo (by omega)] at c0
      have pp := hk.pop
      rw [List.length_cons] at l60 ⊢
      rw [w_one S A ha (by omega) he c0 (op_1 a1) (by omega) pp.1 (go c v s1.length f a2 a1 v1)]
      exact nxt _ (pp.2.push _)
    · rw [a5] at nxt ⊢
      rw [cc_lo (by omega)] at c0
      obtain ⟨g1, g2⟩ := gf c a3 a1 a2
      rw [w_fig S A ha (by omega) he c0 g1 g2 (by omega)]
      exact nxt _ (hk.push _)
    · rw [a2] at nxt ⊢
      rw [cc_lo (by omega)] at c0
      rw [w_all S A ha (by omega) he c0 (by omega)]
      exact nxt _ (hk.push 1)
    · rw [a3] at nxt ⊢
      rw [cc_lo (by omega)] at c0
      have pp := hk.pop
      rw [List.length_cons] at l60 ⊢
      have o : ∀ g : aH, f_X0_ofOne (x + 83) (nI (opN 12)) (vI v) g = some (vI (1 - v), g) := by
        intro g
        have o : nI 1 - vI v = vI (1 - v) := by rw [vI_n, vI_sub]; rfl
        rw [show opN 12 = 21 from rfl]
        simp (disch := omega) only [nm, bd_s, ko_K, ka_K, koK_t, kaK_t, kr_s, kn_s, kn_n, hK_sI, hR_sI, hK_sL, hR_sL, hI_sL, hL_sI, hL_sL, hI_sI, hN_sI, hN_sL, ch_G, ch_T, nb_0, nb_1, zb_G, d_T, d_F, d_eT, d_eF, b2i_t, b2i_f, tn_nI, fa_lit, fa_litL, m1_e, nI_add, pk_mul, pk_sub, nI_leI, nI_ltI, nI_eq, le_T, le_F, lt_T, lt_F, eq_T, eq_F, if_pos, if_neg, m1_le, m1_lt', m1_gt, m1_le', m1_eq, m1_qe, b2i_eq0, in_N, in_n, in_I, ↓reduceIte, Bool.true_eq_false, Bool.false_eq_true, reduceCtorEq, decide_eq_true_eq, decide_eq_false_iff_not, Nat.not_lt, Nat.not_le, not_true_eq_false, not_false_eq_true, true_and, and_true, and_self, false_and, and_false, true_or, or_true, false_or, or_false, f_X0_ofOne, o]
      rw [w_one S A ha (by omega) he c0 (Or.inr (Or.inr rfl)) (by omega) pp.1 (o _)]
      exact nxt _ (pp.2.push _)
    · rw [a3] at nxt ⊢
      rw [cc_lo (by omega)] at c0
      have pp := hk.pop
      have pq := pp.2.pop
      rw [List.length_cons] at pp
      rw [List.length_cons, List.length_cons] at l60 ⊢
      have o2 := op_2 a1 a2
      rw [w_two S A ha (by omega) he c0 o2.1 o2.2.1 o2.2.2.1 o2.2.2.2 (by omega) pq.1 pp.1 (o2_c a1 a2 v2 v1)]
      exact nxt _ (pq.2.push _)
end Wk
