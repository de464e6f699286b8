/-! QUESTIONS: a pointer's value by the reference -/
/-- the rows of pointers, the mantissa, that a machine stands -/
def MP (h : aH) (x M : Nat) (N : tyN) : Prop := MS h (x + 107) ∧ hI h (x + 107 + 28) 4 = nI M ∧ hI h (x + 107) 45 = nI 1 ∧ ∀ j, j < 1498 → hI h (x + 107 + 34) j = mN N j
/-- a value was reckoned -/
def RF (x : Nat) (h h1 : aH) : Prop := hK h1 = hK h ∧ hR h1 = hR h ∧ hN h1 = hN h ∧ hS h1 = hS h ∧ (∀ b j, ¬ (b = x + 107 ∧ (j = 48 ∨ j = 98 ∨ j = 100)) → hI h1 b j = hI h b j) ∧ (∀ b j, ¬ (b = x + 107 ∧ j = 99 ∨ b = x + 107 + 66) → hL h1 b j = hL h b j)
theorem RF.refl (x : Nat) (h : aH) : RF x h h := ⟨rfl, rfl, rfl, rfl, fun _ _ _ => rfl, fun _ _ _ => rfl⟩
theorem RF.trans {x : Nat} {h h1 h2 : aH} (p : RF x h h1) (q : RF x h1 h2) : RF x h h2 := ⟨q.1.trans p.1, q.2.1.trans p.2.1, q.2.2.1.trans p.2.2.1, q.2.2.2.1.trans p.2.2.2.1, fun b j z => (q.2.2.2.2.1 b j z).trans (p.2.2.2.2.1 b j z), fun b j z => (q.2.2.2.2.2 b j z).trans (p.2.2.2.2.2 b j z)⟩
theorem RF.s {x : Nat} {h : aH} {j : Nat} {v : Int32} (z : j = 48 ∨ j = 98 ∨ j = 100) : RF x h (sI h (x + 107) j v) := ⟨rfl, rfl, rfl, rfl, fun b i y => by rw [hI_sI, if_neg (by omega)], fun _ _ _ => rfl⟩
theorem RF.l {x : Nat} {h : aH} {v : Int64} : RF x h (sL h (x + 107) 99 v) := ⟨rfl, rfl, rfl, rfl, fun _ _ _ => rfl, fun b i y => by rw [hL_sL, if_neg (by omega)]⟩
theorem RF.pl {x d : Nat} {h : aH} {f : Nat → Int64} : RF x h (PL h (x + 107) d f) := ⟨rfl, rfl, rfl, rfl, fun b i y => PL_o (by omega), fun b i y => PL_l (by omega)⟩
theorem MP.fr {x M : Nat} {N : tyN} {h h1 : aH} (P : MP h x M N) (f : RF x h h1) : MP h1 x M N := ⟨P.1.of f.1 f.2.1, (f.2.2.2.2.1 _ _ (by omega)).trans P.2.1, (f.2.2.2.2.1 _ _ (by omega)).trans P.2.2.1, fun j hj => (f.2.2.2.2.1 _ _ (by omega)).trans (P.2.2.2 j hj)⟩
theorem CDm.fr {x : Nat} {h h1 : aH} {c : List Nat} (P : CDm h x c) (f : RF x h h1) : CDm h1 x c := ⟨(f.2.2.2.2.1 _ _ (by omega)).trans P.1, fun i hi => (f.2.2.2.2.1 _ _ (by omega)).trans (P.2 i hi)⟩
section Dv
variable {h : aH} {x M mem sh : Nat} {N : tyN}
theorem MP.q (Q : MP h x M N) {k : Nat} (hk : k < 32) (fl : N (8 * k) ≤ 1) : hI h (x + 107 + 34) (8 * k) = nI (N (8 * k)) ∧ hI h (x + 107 + 34) (8 * k + 1) = nI (N (8 * k + 1)) ∧ hI h (x + 107 + 34) (8 * k + 2) = nI (N (8 * k + 2)) ∧ hI h (x + 107 + 34) (8 * k + 3) = nI (N (8 * k + 3)) ∧ hI h (x + 107 + 34) (8 * k + 4) = nI (N (8 * k + 4)) ∧ hI h (x + 107 + 34) (8 * k + 5) = nI (N (8 * k + 5)) ∧ hI h (x + 107 + 34) (8 * k + 6) = nI (N (8 * k + 6)) := by
  have q := Q.2.2.2
  refine ⟨?_, ?_, ?_, ?_, ?_, ?_, ?_⟩
  · rw [q _ (by omega), mN_f fl]
  · rw [q _ (by omega), mN_n (by omega)]
  · rw [q _ (by omega), mN_n (by omega)]
  · rw [q _ (by omega), mN_n (by omega)]
  · rw [q _ (by omega), mN_n (by omega)]
  · rw [q _ (by omega), mN_n (by omega)]
  · rw [q _ (by omega), mN_n (by omega)]
theorem m_partQ (Q : MP h x M N) (q : okN M mem sh N) (h4 : 4 ≤ M) (h8 : M ≤ 8) {k c' : Nat} (hk : k < 16) (h3 : 43 ≤ c' ∧ c' ≤ 50) (e48 : hI h (x + 107) 48 = nI k) (y : Int32) : f_X12_qPartOf (x + 107) (nI (c' - 40)) y h = some (vL (fgQ M N k c'), h) := by
  have T := Q.1
  have fl := q.fl hk
  obtain ⟨q0, q1, q2, q3, q4, q5, q6⟩ := Q.q (show k < 32 by omega) fl
  have okp := q.2.1 k (by omega)
  have m1 := Q.2.1
  have g1 := m_baseOf T (k := 8 * k) (by omega)
  have g2 := m_lengthOf T (k := 8 * k) (by omega)
  have a4 := okp.2.1
  have a5 := okp.2.2.1
  have o5 := okp.2.2.2.2.2.2.1
  have o6 := okp.2.2.2.2.2.2.2
  rw [m1, q1, q2, q3, bas_nI h4 h8 okp.2.2.1 okp.2.2.2.1 (by omega)] at g1
  rw [m1, q2, q3, q4, len_nI h4 h8 okp.2.2.1 okp.2.2.2.1] at g2
  have g2 : f_X12_lengthOf (x + 107) (nI (8 * k)) h = some (nI (lnN M (N (8 * k + 2)) (N (8 * k + 3)) (N (8 * k + 4))), h) := g2
  have l1 := lnN_le h4 h8 okp.2.2.1 okp.2.2.2.2.2.1
  have l2 := basN_lt M (N (8 * k + 2)) (N (8 * k + 3)) (N (8 * k + 1))
  have s1 : ∀ n, n ≤ 4096 → (nI n).toInt64 = vL (n : Int) := fun n hn => by rw [nI_l (by omega), vL_n]
  rcases (show c' = 43 ∨ c' = 44 ∨ c' = 45 ∨ c' = 46 ∨ c' = 47 ∨ c' = 48 ∨ c' = 49 ∨ c' = 50 by omega) with rfl | rfl | rfl | rfl | rfl | rfl | rfl | rfl
  · have s := s1 (N (8 * k + 1)) (by omega)
    show f_X12_qPartOf (x + 107) (nI 3) y h = some (vL (N (8 * k + 1) : Int), h)
    simp (disch := omega) only [nm, bd_s, ko_K, ka_K, koK_t, kaK_t, kr_s, kn_s, kn_n, hK_sI, hR_sI, hK_sL, hR_sL, hI_sL, hL_sI, hL_sL, hI_sI, hN_sI, hN_sL, ch_G, ch_T, nb_0, nb_1, zb_G, d_T, d_F, d_eT, d_eF, b2i_t, b2i_f, tn_nI, fa_lit, fa_litL, m1_e, nI_add, pk_mul, pk_sub, nI_leI, nI_ltI, nI_eq, le_T, le_F, lt_T, lt_F, eq_T, eq_F, if_pos, if_neg, m1_le, m1_lt', m1_gt, m1_le', m1_eq, m1_qe, b2i_eq0, in_N, in_n, in_I, ↓reduceIte, Bool.true_eq_false, Bool.false_eq_true, reduceCtorEq, decide_eq_true_eq, decide_eq_false_iff_not, Nat.not_lt, Nat.not_le, not_true_eq_false, not_false_eq_true, true_and, and_true, and_self, false_and, and_false, true_or, or_true, false_or, or_false, f_X12_qPartOf_192, f_X12_qPartOf_171, f_X12_qPartOf, T.k, T.r47, T.k47, e48, q1, s]
  · have s := s1 _ (Nat.le_of_lt l2)
    show f_X12_qPartOf (x + 107) (nI 4) y h = some (vL (basN M (N (8 * k + 2)) (N (8 * k + 3)) (N (8 * k + 1)) : Int), h)
    simp (disch := omega) only [nm, bd_s, ko_K, ka_K, koK_t, kaK_t, kr_s, kn_s, kn_n, hK_sI, hR_sI, hK_sL, hR_sL, hI_sL, hL_sI, hL_sL, hI_sI, hN_sI, hN_sL, ch_G, ch_T, nb_0, nb_1, zb_G, d_T, d_F, d_eT, d_eF, b2i_t, b2i_f, tn_nI, fa_lit, fa_litL, m1_e, nI_add, pk_mul, pk_sub, nI_leI, nI_ltI, nI_eq, le_T, le_F, lt_T, lt_F, eq_T, eq_F, if_pos, if_neg, m1_le, m1_lt', m1_gt, m1_le', m1_eq, m1_qe, b2i_eq0, in_N, in_n, in_I, ↓reduceIte, Bool.true_eq_false, Bool.false_eq_true, reduceCtorEq, decide_eq_true_eq, decide_eq_false_iff_not, Nat.not_lt, Nat.not_le, not_true_eq_false, not_false_eq_true, true_and, and_true, and_self, false_and, and_false, true_or, or_true, false_or, or_false, f_X12_qPartOf_192, f_X12_qPartOf_171, f_X12_qPartOf, T.k, e48, g1, s]
  · have s := s1 _ l1
    show f_X12_qPartOf (x + 107) (nI 5) y h = some (vL (lnN M (N (8 * k + 2)) (N (8 * k + 3)) (N (8 * k + 4)) : Int), h)
    simp (disch := omega) only [nm, bd_s, ko_K, ka_K, koK_t, kaK_t, kr_s, kn_s, kn_n, hK_sI, hR_sI, hK_sL, hR_sL, hI_sL, hL_sI, hL_sL, hI_sI, hN_sI, hN_sL, ch_G, ch_T, nb_0, nb_1, zb_G, d_T, d_F, d_eT, d_eF, b2i_t, b2i_f, tn_nI, fa_lit, fa_litL, m1_e, nI_add, pk_mul, pk_sub, nI_leI, nI_ltI, nI_eq, le_T, le_F, lt_T, lt_F, eq_T, eq_F, if_pos, if_neg, m1_le, m1_lt', m1_gt, m1_le', m1_eq, m1_qe, b2i_eq0, in_N, in_n, in_I, ↓reduceIte, Bool.true_eq_false, Bool.false_eq_true, reduceCtorEq, decide_eq_true_eq, decide_eq_false_iff_not, Nat.not_lt, Nat.not_le, not_true_eq_false, not_false_eq_true, true_and, and_true, and_self, false_and, and_false, true_or, or_true, false_or, or_false, f_X12_qPartOf_192, f_X12_qPartOf_171, f_X12_qPartOf, T.k, e48, g2, s]
  · have s := s1 (N (8 * k + 5)) (by omega)
    show f_X12_qPartOf (x + 107) (nI 6) y h = some (vL (N (8 * k + 5) : Int), h)
    simp (disch := omega) only [nm, bd_s, ko_K, ka_K, koK_t, kaK_t, kr_s, kn_s, kn_n, hK_sI, hR_sI, hK_sL, hR_sL, hI_sL, hL_sI, hL_sL, hI_sI, hN_sI, hN_sL, ch_G, ch_T, nb_0, nb_1, zb_G, d_T, d_F, d_eT, d_eF, b2i_t, b2i_f, tn_nI, fa_lit, fa_litL, m1_e, nI_add, pk_mul, pk_sub, nI_leI, nI_ltI, nI_eq, le_T, le_F, lt_T, lt_F, eq_T, eq_F, if_pos, if_neg, m1_le, m1_lt', m1_gt, m1_le', m1_eq, m1_qe, b2i_eq0, in_N, in_n, in_I, ↓reduceIte, Bool.true_eq_false, Bool.false_eq_true, reduceCtorEq, decide_eq_true_eq, decide_eq_false_iff_not, Nat.not_lt, Nat.not_le, not_true_eq_false, not_false_eq_true, true_and, and_true, and_self, false_and, and_false, true_or, or_true, false_or, or_false, f_X12_qPartOf_192, f_X12_qPartOf_171, f_X12_qPartOf, T.k, T.r47, T.k47, e48, q5, s]
  · have s := s1 k (by omega)
    show f_X12_qPartOf (x + 107) (nI 7) y h = some (vL (k : Int), h)
    simp (disch := omega) only [nm, bd_s, ko_K, ka_K, koK_t, kaK_t, kr_s, kn_s, kn_n, hK_sI, hR_sI, hK_sL, hR_sL, hI_sL, hL_sI, hL_sL, hI_sI, hN_sI, hN_sL, ch_G, ch_T, nb_0, nb_1, zb_G, d_T, d_F, d_eT, d_eF, b2i_t, b2i_f, tn_nI, fa_lit, fa_litL, m1_e, nI_add, pk_mul, pk_sub, nI_leI, nI_ltI, nI_eq, le_T, le_F, lt_T, lt_F, eq_T, eq_F, if_pos, if_neg, m1_le, m1_lt', m1_gt, m1_le', m1_eq, m1_qe, b2i_eq0, in_N, in_n, in_I, ↓reduceIte, Bool.true_eq_false, Bool.false_eq_true, reduceCtorEq, decide_eq_true_eq, decide_eq_false_iff_not, Nat.not_lt, Nat.not_le, not_true_eq_false, not_false_eq_true, true_and, and_true, and_self, false_and, and_false, true_or, or_true, false_or, or_false, f_X12_qPartOf_192, f_X12_qPartOf_171, f_X12_qPartOf, T.k, T.r47, T.k47, e48, s]
  · have s := s1 (N (8 * k + 2)) (by omega)
    show f_X12_qPartOf (x + 107) (nI 8) y h = some (vL (N (8 * k + 2) : Int), h)
    simp (disch := omega) only [nm, bd_s, ko_K, ka_K, koK_t, kaK_t, kr_s, kn_s, kn_n, hK_sI, hR_sI, hK_sL, hR_sL, hI_sL, hL_sI, hL_sL, hI_sI, hN_sI, hN_sL, ch_G, ch_T, nb_0, nb_1, zb_G, d_T, d_F, d_eT, d_eF, b2i_t, b2i_f, tn_nI, fa_lit, fa_litL, m1_e, nI_add, pk_mul, pk_sub, nI_leI, nI_ltI, nI_eq, le_T, le_F, lt_T, lt_F, eq_T, eq_F, if_pos, if_neg, m1_le, m1_lt', m1_gt, m1_le', m1_eq, m1_qe, b2i_eq0, in_N, in_n, in_I, ↓reduceIte, Bool.true_eq_false, Bool.false_eq_true, reduceCtorEq, decide_eq_true_eq, decide_eq_false_iff_not, Nat.not_lt, Nat.not_le, not_true_eq_false, not_false_eq_true, true_and, and_true, and_self, false_and, and_false, true_or, or_true, false_or, or_false, f_X12_qPartOf_192, f_X12_qPartOf_171, f_X12_qPartOf, T.k, T.r47, T.k47, e48, q2, s]
  · have s := s1 (N (8 * k + 6)) (by omega)
    show f_X12_qPartOf (x + 107) (nI 9) y h = some (vL (N (8 * k + 6) : Int), h)
    simp (disch := omega) only [nm, bd_s, ko_K, ka_K, koK_t, kaK_t, kr_s, kn_s, kn_n, hK_sI, hR_sI, hK_sL, hR_sL, hI_sL, hL_sI, hL_sL, hI_sI, hN_sI, hN_sL, ch_G, ch_T, nb_0, nb_1, zb_G, d_T, d_F, d_eT, d_eF, b2i_t, b2i_f, tn_nI, fa_lit, fa_litL, m1_e, nI_add, pk_mul, pk_sub, nI_leI, nI_ltI, nI_eq, le_T, le_F, lt_T, lt_F, eq_T, eq_F, if_pos, if_neg, m1_le, m1_lt', m1_gt, m1_le', m1_eq, m1_qe, b2i_eq0, in_N, in_n, in_I, ↓reduceIte, Bool.true_eq_false, Bool.false_eq_true, reduceCtorEq, decide_eq_true_eq, decide_eq_false_iff_not, Nat.not_lt, Nat.not_le, not_true_eq_false, not_false_eq_true, true_and, and_true, and_self, false_and, and_false, true_or, or_true, false_or, or_false, f_X12_qPartOf_192, f_X12_qPartOf_171, f_X12_qPartOf, T.k, T.r47, T.k47, e48, q6, s]
  · show f_X12_qPartOf (x + 107) (nI 10) y h = some (vL (N (8 * k) : Int), h)
    rcases (show N (8 * k) = 0 ∨ N (8 * k) = 1 by omega) with z | z
    · rw [z] at q0 ⊢
      show _ = some (lN 0, h)
      simp (disch := omega) only [nm, bd_s, ko_K, ka_K, koK_t, kaK_t, kr_s, kn_s, kn_n, hK_sI, hR_sI, hK_sL, hR_sL, hI_sL, hL_sI, hL_sL, hI_sI, hN_sI, hN_sL, ch_G, ch_T, nb_0, nb_1, zb_G, d_T, d_F, d_eT, d_eF, b2i_t, b2i_f, tn_nI, fa_lit, fa_litL, m1_e, nI_add, pk_mul, pk_sub, nI_leI, nI_ltI, nI_eq, le_T, le_F, lt_T, lt_F, eq_T, eq_F, if_pos, if_neg, m1_le, m1_lt', m1_gt, m1_le', m1_eq, m1_qe, b2i_eq0, in_N, in_n, in_I, ↓reduceIte, Bool.true_eq_false, Bool.false_eq_true, reduceCtorEq, decide_eq_true_eq, decide_eq_false_iff_not, Nat.not_lt, Nat.not_le, not_true_eq_false, not_false_eq_true, true_and, and_true, and_self, false_and, and_false, true_or, or_true, false_or, or_false, f_X12_qPartOf_192, f_X12_qPartOf_171, f_X12_qPartOf, T.k, T.r47, T.k47, e48, q0]
    · rw [z] at q0 ⊢
      show _ = some (lN 1, h)
      simp (disch := omega) only [nm, bd_s, ko_K, ka_K, koK_t, kaK_t, kr_s, kn_s, kn_n, hK_sI, hR_sI, hK_sL, hR_sL, hI_sL, hL_sI, hL_sL, hI_sI, hN_sI, hN_sL, ch_G, ch_T, nb_0, nb_1, zb_G, d_T, d_F, d_eT, d_eF, b2i_t, b2i_f, tn_nI, fa_lit, fa_litL, m1_e, nI_add, pk_mul, pk_sub, nI_leI, nI_ltI, nI_eq, le_T, le_F, lt_T, lt_F, eq_T, eq_F, if_pos, if_neg, m1_le, m1_lt', m1_gt, m1_le', m1_eq, m1_qe, b2i_eq0, in_N, in_n, in_I, ↓reduceIte, Bool.true_eq_false, Bool.false_eq_true, reduceCtorEq, decide_eq_true_eq, decide_eq_false_iff_not, Nat.not_lt, Nat.not_le, not_true_eq_false, not_false_eq_true, true_and, and_true, and_self, false_and, and_false, true_or, or_true, false_or, or_false, f_X12_qPartOf_192, f_X12_qPartOf_171, f_X12_qPartOf, T.k, T.r47, T.k47, e48, q0]
theorem m_ofQ (Q : MP h x M N) (q : okN M mem sh N) (h4 : 4 ≤ M) (h8 : M ≤ 8) {k c' : Nat} (hk : k < 16) (h3 : c' = 60 ∨ c' = 61) {v : Int} (v1 : OV false v) : f_X12_qOf (x + 107) (nI (c' - 60)) (vL v) (nI k) h = some (vL (o1Q M N k c' v), h) := by
  have T := Q.1
  have b1 := v1.1
  have b2 := v1.2.1
  have m1 := Q.2.1
  have r1 : ¬ hI h (x + 107) 45 = 0 := by rw [Q.2.2.1]; decide
  have vl : vL v = (vI v).toInt64 := (vI_l (by omega) (by omega)).symm
  have vi : (vL v).toInt32 = vI v := vL_i (by omega) (by omega)
  rcases h3 with rfl | rfl
  · unfold f_X12_qOf o1Q
    rw [if_pos (show nI (60 - 60) = (0 : Int32) from rfl), if_pos (show 60 = 60 from rfl), ko_t T.k]
    by_cases c1 : 0 ≤ v ∧ v < 16
    · rw [if_pos c1]
      obtain ⟨n, rfl⟩ : ∃ n : Nat, v = n := ⟨v.toNat, by omega⟩
      have hn : n < 16 := by omega
      rw [Int.toNat_natCast, vi, vl, ← vI_n n]
      obtain ⟨q0, q1, q2, q3, q4, q5, q6⟩ := Q.q (show n < 32 by omega) (q.fl hn)
      have okp := q.2.1 n (by omega)
      have a4 := okp.2.1
      have g1 := m_baseOf T (k := 8 * n) (by omega)
      rw [m1, q1, q2, q3, bas_nI h4 h8 okp.2.2.1 okp.2.2.2.1 (by omega)] at g1
      have l2 := basN_lt M (N (8 * n + 2)) (N (8 * n + 3)) (N (8 * n + 1))
      have e8 : (8 : Int32) * nI n = nI (8 * n) := pk_mul 8 n
      rw [bd_t (m_isPointer_t T r1 hn), if_neg (show ¬ (1 : Int32) = 0 by decide), ko_t T.k, e8, bd_t g1, nI_l (by omega), vL_n]
      rfl
    · rw [if_neg c1, vl]
      have l0 : (vI v < (0 : Int32)) = (v < 0) := by rw [show (0 : Int32) = vI 0 by decide]; exact vI_lt (by omega) (by omega) (by omega) (by omega)
      have l1 : ((16 : Int32) ≤ vI v) = (16 ≤ v) := by rw [show (16 : Int32) = vI 16 by decide]; exact vI_le (by omega) (by omega) (by omega) (by omega)
      rw [bd_t (m_isPointer_f T (p := vI v) (Or.inr (by rw [l0, l1]; omega))), if_pos rfl]
      rfl
  · have ss := vI_s b1 b2
    obtain ⟨q0, q1, q2, q3, q4, q5, q6⟩ := Q.q (show k < 32 by omega) (q.fl hk)
    have t2 := m_doesFit T (k := 8 * k) (by omega) (vI v)
    rw [m1, q1, q2, q3] at t2
    have e8 : (8 : Int32) * nI k = nI (8 * k) := pk_mul 8 k
    unfold f_X12_qOf o1Q
    rw [if_neg (show ¬ nI (61 - 60) = (0 : Int32) by decide), if_neg (show ¬ 61 = 60 by omega), vi, vl]
    by_cases hs : -4095 ≤ vI v ∧ vI v ≤ 4095
    · have hs2 := ss.mp hs
      have st : f_X12_isIn (vI v).toInt64 (-4095) 4095 h = some (nI 1, h) := m_isStep_t hs
      rw [bd_t st, if_neg (show ¬ nI 1 = (0 : Int32) by decide), ko_t T.k, e8, bd_t t2]
      by_cases hf : basI (nI M) (nI (N (8 * k + 2))) (nI (N (8 * k + 3))) ((nI (N (8 * k + 1)) + vI v) &&& 4095) = basI (nI M) (nI (N (8 * k + 2))) (nI (N (8 * k + 3))) (nI (N (8 * k + 1)))
      · rw [b2i_d hf, if_neg (show ¬ nI 1 = (0 : Int32) by decide), if_pos ⟨hs2, hf⟩]
        rfl
      · rw [b2i_n hf, if_pos (show nI 0 = (0 : Int32) from rfl), if_neg (fun z => hf z.2)]
        rfl
    · have hs2 : ¬ (-4095 ≤ v ∧ v ≤ 4095) := fun z => hs (ss.mpr z)
      have st : f_X12_isIn (vI v).toInt64 (-4095) 4095 h = some (nI 0, h) := m_isStep_f hs
      rw [bd_t st, if_pos (show nI 0 = (0 : Int32) from rfl), if_neg (fun z => hs2 z.1)]
      rfl
theorem m_told0 {k : Nat} {t : Bool} {l : List Nat} (Q : MP h x M N) (q : okN M mem sh N) (h4 : 4 ≤ M) (h8 : M ≤ 8) (cd : CDm h x l) (hl : l.length ≤ 1650) (ht : tyC (alC 3) l [] = some [t]) (hk : k < 16) : ∃ h1, f_X12_qTold (x + 107) (nI k) (sI h (x + 107) 48 (nI k)) = some (vL (vlQ M N l k), h1) ∧ OV t (vlQ M N l k) ∧ RF x h h1 ∧ hL h1 (x + 107) 99 = hL h (x + 107) 99 ∧ hI h1 (x + 107) 100 = hI h (x + 107) 100 := by
  obtain ⟨g, hg⟩ : ∃ g, g = sI h (x + 107) 48 (nI k) := ⟨_, rfl⟩
  have F0 : RF x h g := by rw [hg]; exact RF.s (Or.inl rfl)
  have Q0 := Q.fr F0
  have c0 := cd.fr F0
  have e48 : hI g (x + 107) 48 = nI k := by rw [hg, hI_sI, if_pos ⟨rfl, rfl⟩]
  rw [← hg]
  have T := Q0.1
  obtain ⟨d', f', v, e1, e2, e3⟩ := m_toldQ (h := g) (m := x + 107) (k := k) (al := alC 3) (fg := fgQ M N k) (o1 := o1Q M N k) T (fun c _ _ => fgQ_ok q h4 h8 hk c) (fun c v _ _ _ => o1Q_ok) (fun c d f z1 z2 z3 => m_partQ (Q0.fr RF.pl) q h4 h8 hk ⟨(alC_3 z1).1, z3⟩ (by rw [PL_o (by omega)]; exact e48) _) (fun c v d f z1 z2 z3 => m_ofQ (Q0.fr RF.pl) q h4 h8 hk z2 z3) (e := l.length) hl c0.1 l 0 FU [] (fun j => hL g (x + 107 + 66) j) [] t (Nat.zero_add _) (FU_gt (by omega)) (fun j hj => by rw [Nat.zero_add]; exact c0.2 j hj) ht trivial (fun i hi => absurd hi (Nat.not_lt_zero _))
  have vv : vlQ M N l k = v := by unfold vlQ; rw [e2]; rfl
  rw [vv]
  refine ⟨PL g (x + 107) d' f', ?_, e3, F0.trans RF.pl, by rw [PL_l (by omega), hg]; rfl, by rw [PL_o (by omega), hg, hI_sI, if_neg (by omega)]⟩
  rw [← e1]
  have p0 := PL_0 (h := g) (m := x + 107)
  unfold f_X12_qTold
  rw [ko_t T.k]
  show f_X12_qTold_7 FU (x + 107) (nI k) (nI 0) (sI g (x + 107) 98 (nI 0)) = _
  rw [p0]
  rfl
end Dv
