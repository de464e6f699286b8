/-! places of the reference; window, places -/
theorem an_f : nI 0 &&& nI 1 = nI 0 := by decide
theorem an_t : nI 1 &&& nI 1 = nI 1 := by decide
section Mp
variable {h : aH} {m k M e b a0 rn : Nat} {rw_ : Nat → Nat}
/-- a pointer of the reference at k -/
def PK (h : aH) (m k M e b a0 : Nat) : Prop := MS h m ∧ k + 8 ≤ 1498 ∧ hI h (m + 28) 4 = nI M ∧ hI h (m + 34) (k + 1) = nI a0 ∧ hI h (m + 34) (k + 2) = nI e ∧ hI h (m + 34) (k + 3) = nI b ∧ 4 ≤ M ∧ M ≤ 8 ∧ e ≤ 13 - M ∧ b < 2 ^ M ∧ a0 < 4096
theorem PK.bf (P : PK h m k M e b a0) {a : Nat} (ha : a < 4096) : f_X12_baseFrom m (nI k) (nI a) h = some (nI (basN M e b a), h) := by
  obtain ⟨T, hk, m4, p1, p2, p3, h4, h8, he, hb, ha0⟩ := P
  rw [m_baseFrom T hk, m4, p2, p3, bas_nI h4 h8 he hb (by omega)]
theorem PK.bo (P : PK h m k M e b a0) : f_X12_baseOf m (nI k) h = some (nI (basN M e b a0), h) := by
  obtain ⟨T, hk, m4, p1, p2, p3, h4, h8, he, hb, ha0⟩ := P
  rw [m_baseOf T hk, m4, p1, p2, p3, bas_nI h4 h8 he hb (by omega)]
theorem PK.ff (P : PK h m k M e b a0) (a t : Nat) : f_X12_fitsFrom m (nI k) (nI a) (stp t) h = some (b2i (decide (basN M e b ((a + 4032 + t) % 4096) = basN M e b a0)), h) := by
  have b1 := P.bf (a := (a + 4032 + t) % 4096) (Nat.mod_lt _ (by omega))
  have b2 := P.bo
  have T := P.1
  have l1 := basN_lt M e b ((a + 4032 + t) % 4096)
  have l2 := basN_lt M e b a0
  have as := ad_st a t
  by_cases c : basN M e b ((a + 4032 + t) % 4096) = basN M e b a0
  · rw [b2i_d c]
    simp (disch := omega) only [nm, bd_s, ko_K, ka_K, koK_t, kaK_t, kr_s, kn_s, kn_n, hK_sI, hR_sI, hK_sL, hR_sL, hI_sL, hL_sI, hL_sL, hI_sI, hN_sI, hN_sL, ch_G, ch_T, nb_0, nb_1, zb_G, d_T, d_F, d_eT, d_eF, b2i_t, b2i_f, tn_nI, fa_lit, fa_litL, m1_e, nI_add, pk_mul, pk_sub, nI_leI, nI_ltI, nI_eq, le_T, le_F, lt_T, lt_F, eq_T, eq_F, if_pos, if_neg, m1_le, m1_lt', m1_gt, m1_le', m1_eq, m1_qe, b2i_eq0, in_N, in_n, in_I, ↓reduceIte, Bool.true_eq_false, Bool.false_eq_true, reduceCtorEq, decide_eq_true_eq, decide_eq_false_iff_not, Nat.not_lt, Nat.not_le, not_true_eq_false, not_false_eq_true, true_and, and_true, and_self, false_and, and_false, true_or, or_true, false_or, or_false, f_X12_fitsFrom_25, f_X12_fitsFrom, T.k, as, b1, b2, c]
  · rw [b2i_n c]
    simp (disch := omega) only [nm, bd_s, ko_K, ka_K, koK_t, kaK_t, kr_s, kn_s, kn_n, hK_sI, hR_sI, hK_sL, hR_sL, hI_sL, hL_sI, hL_sL, hI_sI, hN_sI, hN_sL, ch_G, ch_T, nb_0, nb_1, zb_G, d_T, d_F, d_eT, d_eF, b2i_t, b2i_f, tn_nI, fa_lit, fa_litL, m1_e, nI_add, pk_mul, pk_sub, nI_leI, nI_ltI, nI_eq, le_T, le_F, lt_T, lt_F, eq_T, eq_F, if_pos, if_neg, m1_le, m1_lt', m1_gt, m1_le', m1_eq, m1_qe, b2i_eq0, in_N, in_n, in_I, ↓reduceIte, Bool.true_eq_false, Bool.false_eq_true, reduceCtorEq, decide_eq_true_eq, decide_eq_false_iff_not, Nat.not_lt, Nat.not_le, not_true_eq_false, not_false_eq_true, true_and, and_true, and_self, false_and, and_false, true_or, or_true, false_or, or_false, f_X12_fitsFrom_25, f_X12_fitsFrom, T.k, as, b1, b2, c]
/-- what is seen, as the reference has it -/
def RW (h : aH) (m rn : Nat) (rw_ : Nat → Nat) : Prop := hI h m 58 = nI rn ∧ rn ≤ 16 ∧ ∀ j, j < 2 * rn → hI h (m + 36) j = nI (rw_ j) ∧ rw_ j ≤ 127
theorem m_isPlace (P : PK h m k M e b a0) (R : RW h m rn rw_) {a : Nat} (ha : a < 4096) : f_X12_isPlace m (nI k) (nI a) h = some (b2i (plP M e b a0 rn rw_ a), h) := by
  have b1 := P.bf ha
  have b2 := P.bo
  have T := P.1
  have l1 := basN_lt M e b a
  have l2 := basN_lt M e b a0
  obtain ⟨r58, r16, hr⟩ := R
  unfold plP
  by_cases c : basN M e b a = basN M e b a0
  · have L1 := loop_fnd (fun n i => f_X12_isPlace_18 n m (nI k) (nI a) (nI i) h) rn (fun i => !rwP M e b a0 rw_ a i) (fun _ => (nI 0, h)) (nI 1, h) (fun n i hi => ?_) (fun n => ?_) rn 0 FU (by omega) (FU_gt (by omega))
    · have e1 : f_X12_isPlace m (nI k) (nI a) h = f_X12_isPlace_18 FU m (nI k) (nI a) (nI 0) h := by
        simp (disch := omega) only [nm, bd_s, ko_K, ka_K, koK_t, kaK_t, kr_s, kn_s, kn_n, hK_sI, hR_sI, hK_sL, hR_sL, hI_sL, hL_sI, hL_sL, hI_sI, hN_sI, hN_sL, ch_G, ch_T, nb_0, nb_1, zb_G, d_T, d_F, d_eT, d_eF, b2i_t, b2i_f, tn_nI, fa_lit, fa_litL, m1_e, nI_add, pk_mul, pk_sub, nI_leI, nI_ltI, nI_eq, le_T, le_F, lt_T, lt_F, eq_T, eq_F, if_pos, if_neg, m1_le, m1_lt', m1_gt, m1_le', m1_eq, m1_qe, b2i_eq0, in_N, in_n, in_I, ↓reduceIte, Bool.true_eq_false, Bool.false_eq_true, reduceCtorEq, decide_eq_true_eq, decide_eq_false_iff_not, Nat.not_lt, Nat.not_le, not_true_eq_false, not_false_eq_true, true_and, and_true, and_self, false_and, and_false, true_or, or_true, false_or, or_false, f_X12_isPlace, T.k, b1, b2, c]
      rw [e1]
      refine Eq.trans L1 ?_
      cases fnd (fun i => !rwP M e b a0 rw_ a i) rn 0
      · simp [c, b2i]; rfl
      · simp [c, b2i]; rfl
    · obtain ⟨s1, s3⟩ := hr (2 * i) (by omega)
      obtain ⟨s2, s4⟩ := hr (2 * i + 1) (by omega)
      have ff := P.ff a (rw_ (2 * i))
      have es : nI (rw_ (2 * i)) - nI 64 = stp (rw_ (2 * i)) := rfl
      have el : ∀ q : 64 ≤ rw_ (2 * i), nI (rw_ (2 * i) - 64) = stp (rw_ (2 * i)) := fun q => (pk_sub q).symm
      unfold rwP
      generalize decide (basN M e b ((a + 4032 + rw_ (2 * i)) % 4096) = basN M e b a0) = z1 at ff
      by_cases g1 : 64 ≤ rw_ (2 * i)
      · have el := el g1
        by_cases c2 : rw_ (2 * i + 1) = 1
        · rw [show decide (rw_ (2 * i + 1) = 1) = true by simp [c2]]
          cases z1
          · rw [show (!(false == true)) = true from rfl]
            simp (disch := omega) only [nm, bd_s, ko_K, ka_K, koK_t, kaK_t, kr_s, kn_s, kn_n, hK_sI, hR_sI, hK_sL, hR_sL, hI_sL, hL_sI, hL_sL, hI_sI, hN_sI, hN_sL, ch_G, ch_T, nb_0, nb_1, zb_G, d_T, d_F, d_eT, d_eF, b2i_t, b2i_f, tn_nI, fa_lit, fa_litL, m1_e, nI_add, pk_mul, pk_sub, nI_leI, nI_ltI, nI_eq, le_T, le_F, lt_T, lt_F, eq_T, eq_F, if_pos, if_neg, m1_le, m1_lt', m1_gt, m1_le', m1_eq, m1_qe, b2i_eq0, in_N, in_n, in_I, ↓reduceIte, Bool.true_eq_false, Bool.false_eq_true, reduceCtorEq, decide_eq_true_eq, decide_eq_false_iff_not, Nat.not_lt, Nat.not_le, not_true_eq_false, not_false_eq_true, true_and, and_true, and_self, false_and, and_false, true_or, or_true, false_or, or_false, f_X12_isPlace_18, b_X12_isPlace_18, f_X12_isPlace_62, T.k, T.r59, T.k59, r58, s1, s2, el, ff, c2]
          · rw [show (!(true == true)) = false from rfl]
            simp (disch := omega) only [nm, bd_s, ko_K, ka_K, koK_t, kaK_t, kr_s, kn_s, kn_n, hK_sI, hR_sI, hK_sL, hR_sL, hI_sL, hL_sI, hL_sL, hI_sI, hN_sI, hN_sL, ch_G, ch_T, nb_0, nb_1, zb_G, d_T, d_F, d_eT, d_eF, b2i_t, b2i_f, tn_nI, fa_lit, fa_litL, m1_e, nI_add, pk_mul, pk_sub, nI_leI, nI_ltI, nI_eq, le_T, le_F, lt_T, lt_F, eq_T, eq_F, if_pos, if_neg, m1_le, m1_lt', m1_gt, m1_le', m1_eq, m1_qe, b2i_eq0, in_N, in_n, in_I, ↓reduceIte, Bool.true_eq_false, Bool.false_eq_true, reduceCtorEq, decide_eq_true_eq, decide_eq_false_iff_not, Nat.not_lt, Nat.not_le, not_true_eq_false, not_false_eq_true, true_and, and_true, and_self, false_and, and_false, true_or, or_true, false_or, or_false, f_X12_isPlace_18, b_X12_isPlace_18, f_X12_isPlace_62, T.k, T.r59, T.k59, r58, s1, s2, el, ff, c2]
        · rw [show decide (rw_ (2 * i + 1) = 1) = false by simp [c2]]
          cases z1
          · rw [show (!(false == false)) = false from rfl]
            simp (disch := omega) only [nm, bd_s, ko_K, ka_K, koK_t, kaK_t, kr_s, kn_s, kn_n, hK_sI, hR_sI, hK_sL, hR_sL, hI_sL, hL_sI, hL_sL, hI_sI, hN_sI, hN_sL, ch_G, ch_T, nb_0, nb_1, zb_G, d_T, d_F, d_eT, d_eF, b2i_t, b2i_f, tn_nI, fa_lit, fa_litL, m1_e, nI_add, pk_mul, pk_sub, nI_leI, nI_ltI, nI_eq, le_T, le_F, lt_T, lt_F, eq_T, eq_F, if_pos, if_neg, m1_le, m1_lt', m1_gt, m1_le', m1_eq, m1_qe, b2i_eq0, in_N, in_n, in_I, ↓reduceIte, Bool.true_eq_false, Bool.false_eq_true, reduceCtorEq, decide_eq_true_eq, decide_eq_false_iff_not, Nat.not_lt, Nat.not_le, not_true_eq_false, not_false_eq_true, true_and, and_true, and_self, false_and, and_false, true_or, or_true, false_or, or_false, f_X12_isPlace_18, b_X12_isPlace_18, f_X12_isPlace_62, T.k, T.r59, T.k59, r58, s1, s2, el, ff, c2]
          · rw [show (!(true == false)) = true from rfl]
            simp (disch := omega) only [nm, bd_s, ko_K, ka_K, koK_t, kaK_t, kr_s, kn_s, kn_n, hK_sI, hR_sI, hK_sL, hR_sL, hI_sL, hL_sI, hL_sL, hI_sI, hN_sI, hN_sL, ch_G, ch_T, nb_0, nb_1, zb_G, d_T, d_F, d_eT, d_eF, b2i_t, b2i_f, tn_nI, fa_lit, fa_litL, m1_e, nI_add, pk_mul, pk_sub, nI_leI, nI_ltI, nI_eq, le_T, le_F, lt_T, lt_F, eq_T, eq_F, if_pos, if_neg, m1_le, m1_lt', m1_gt, m1_le', m1_eq, m1_qe, b2i_eq0, in_N, in_n, in_I, ↓reduceIte, Bool.true_eq_false, Bool.false_eq_true, reduceCtorEq, decide_eq_true_eq, decide_eq_false_iff_not, Nat.not_lt, Nat.not_le, not_true_eq_false, not_false_eq_true, true_and, and_true, and_self, false_and, and_false, true_or, or_true, false_or, or_false, f_X12_isPlace_18, b_X12_isPlace_18, f_X12_isPlace_62, T.k, T.r59, T.k59, r58, s1, s2, el, ff, c2]
      · by_cases c2 : rw_ (2 * i + 1) = 1
        · rw [show decide (rw_ (2 * i + 1) = 1) = true by simp [c2]]
          cases z1
          · rw [show (!(false == true)) = true from rfl]
            simp (disch := omega) only [nm, bd_s, ko_K, ka_K, koK_t, kaK_t, kr_s, kn_s, kn_n, hK_sI, hR_sI, hK_sL, hR_sL, hI_sL, hL_sI, hL_sL, hI_sI, hN_sI, hN_sL, ch_G, ch_T, nb_0, nb_1, zb_G, d_T, d_F, d_eT, d_eF, b2i_t, b2i_f, tn_nI, fa_lit, fa_litL, m1_e, nI_add, pk_mul, pk_sub, nI_leI, nI_ltI, nI_eq, le_T, le_F, lt_T, lt_F, eq_T, eq_F, if_pos, if_neg, m1_le, m1_lt', m1_gt, m1_le', m1_eq, m1_qe, b2i_eq0, in_N, in_n, in_I, ↓reduceIte, Bool.true_eq_false, Bool.false_eq_true, reduceCtorEq, decide_eq_true_eq, decide_eq_false_iff_not, Nat.not_lt, Nat.not_le, not_true_eq_false, not_false_eq_true, true_and, and_true, and_self, false_and, and_false, true_or, or_true, false_or, or_false, f_X12_isPlace_18, b_X12_isPlace_18, f_X12_isPlace_62, T.k, T.r59, T.k59, r58, s1, s2, es, ff, c2]
          · rw [show (!(true == true)) = false from rfl]
            simp (disch := omega) only [nm, bd_s, ko_K, ka_K, koK_t, kaK_t, kr_s, kn_s, kn_n, hK_sI, hR_sI, hK_sL, hR_sL, hI_sL, hL_sI, hL_sL, hI_sI, hN_sI, hN_sL, ch_G, ch_T, nb_0, nb_1, zb_G, d_T, d_F, d_eT, d_eF, b2i_t, b2i_f, tn_nI, fa_lit, fa_litL, m1_e, nI_add, pk_mul, pk_sub, nI_leI, nI_ltI, nI_eq, le_T, le_F, lt_T, lt_F, eq_T, eq_F, if_pos, if_neg, m1_le, m1_lt', m1_gt, m1_le', m1_eq, m1_qe, b2i_eq0, in_N, in_n, in_I, ↓reduceIte, Bool.true_eq_false, Bool.false_eq_true, reduceCtorEq, decide_eq_true_eq, decide_eq_false_iff_not, Nat.not_lt, Nat.not_le, not_true_eq_false, not_false_eq_true, true_and, and_true, and_self, false_and, and_false, true_or, or_true, false_or, or_false, f_X12_isPlace_18, b_X12_isPlace_18, f_X12_isPlace_62, T.k, T.r59, T.k59, r58, s1, s2, es, ff, c2]
        · rw [show decide (rw_ (2 * i + 1) = 1) = false by simp [c2]]
          cases z1
          · rw [show (!(false == false)) = false from rfl]
            simp (disch := omega) only [nm, bd_s, ko_K, ka_K, koK_t, kaK_t, kr_s, kn_s, kn_n, hK_sI, hR_sI, hK_sL, hR_sL, hI_sL, hL_sI, hL_sL, hI_sI, hN_sI, hN_sL, ch_G, ch_T, nb_0, nb_1, zb_G, d_T, d_F, d_eT, d_eF, b2i_t, b2i_f, tn_nI, fa_lit, fa_litL, m1_e, nI_add, pk_mul, pk_sub, nI_leI, nI_ltI, nI_eq, le_T, le_F, lt_T, lt_F, eq_T, eq_F, if_pos, if_neg, m1_le, m1_lt', m1_gt, m1_le', m1_eq, m1_qe, b2i_eq0, in_N, in_n, in_I, ↓reduceIte, Bool.true_eq_false, Bool.false_eq_true, reduceCtorEq, decide_eq_true_eq, decide_eq_false_iff_not, Nat.not_lt, Nat.not_le, not_true_eq_false, not_false_eq_true, true_and, and_true, and_self, false_and, and_false, true_or, or_true, false_or, or_false, f_X12_isPlace_18, b_X12_isPlace_18, f_X12_isPlace_62, T.k, T.r59, T.k59, r58, s1, s2, es, ff, c2]
          · rw [show (!(true == false)) = true from rfl]
            simp (disch := omega) only [nm, bd_s, ko_K, ka_K, koK_t, kaK_t, kr_s, kn_s, kn_n, hK_sI, hR_sI, hK_sL, hR_sL, hI_sL, hL_sI, hL_sL, hI_sI, hN_sI, hN_sL, ch_G, ch_T, nb_0, nb_1, zb_G, d_T, d_F, d_eT, d_eF, b2i_t, b2i_f, tn_nI, fa_lit, fa_litL, m1_e, nI_add, pk_mul, pk_sub, nI_leI, nI_ltI, nI_eq, le_T, le_F, lt_T, lt_F, eq_T, eq_F, if_pos, if_neg, m1_le, m1_lt', m1_gt, m1_le', m1_eq, m1_qe, b2i_eq0, in_N, in_n, in_I, ↓reduceIte, Bool.true_eq_false, Bool.false_eq_true, reduceCtorEq, decide_eq_true_eq, decide_eq_false_iff_not, Nat.not_lt, Nat.not_le, not_true_eq_false, not_false_eq_true, true_and, and_true, and_self, false_and, and_false, true_or, or_true, false_or, or_false, f_X12_isPlace_18, b_X12_isPlace_18, f_X12_isPlace_62, T.k, T.r59, T.k59, r58, s1, s2, es, ff, c2]
    · simp (disch := omega) only [nm, bd_s, ko_K, ka_K, koK_t, kaK_t, kr_s, kn_s, kn_n, hK_sI, hR_sI, hK_sL, hR_sL, hI_sL, hL_sI, hL_sL, hI_sI, hN_sI, hN_sL, ch_G, ch_T, nb_0, nb_1, zb_G, d_T, d_F, d_eT, d_eF, b2i_t, b2i_f, tn_nI, fa_lit, fa_litL, m1_e, nI_add, pk_mul, pk_sub, nI_leI, nI_ltI, nI_eq, le_T, le_F, lt_T, lt_F, eq_T, eq_F, if_pos, if_neg, m1_le, m1_lt', m1_gt, m1_le', m1_eq, m1_qe, b2i_eq0, in_N, in_n, in_I, ↓reduceIte, Bool.true_eq_false, Bool.false_eq_true, reduceCtorEq, decide_eq_true_eq, decide_eq_false_iff_not, Nat.not_lt, Nat.not_le, not_true_eq_false, not_false_eq_true, true_and, and_true, and_self, false_and, and_false, true_or, or_true, false_or, or_false, f_X12_isPlace_18, b_X12_isPlace_18, T.k, r58]
  · rw [show (decide (basN M e b a = basN M e b a0) && (fnd (fun i => !rwP M e b a0 rw_ a i) rn 0).isNone) = false by simp [c], b2i_f]
    simp (disch := omega) only [nm, bd_s, ko_K, ka_K, koK_t, kaK_t, kr_s, kn_s, kn_n, hK_sI, hR_sI, hK_sL, hR_sL, hI_sL, hL_sI, hL_sL, hI_sI, hN_sI, hN_sL, ch_G, ch_T, nb_0, nb_1, zb_G, d_T, d_F, d_eT, d_eF, b2i_t, b2i_f, tn_nI, fa_lit, fa_litL, m1_e, nI_add, pk_mul, pk_sub, nI_leI, nI_ltI, nI_eq, le_T, le_F, lt_T, lt_F, eq_T, eq_F, if_pos, if_neg, m1_le, m1_lt', m1_gt, m1_le', m1_eq, m1_qe, b2i_eq0, in_N, in_n, in_I, ↓reduceIte, Bool.true_eq_false, Bool.false_eq_true, reduceCtorEq, decide_eq_true_eq, decide_eq_false_iff_not, Nat.not_lt, Nat.not_le, not_true_eq_false, not_false_eq_true, true_and, and_true, and_self, false_and, and_false, true_or, or_true, false_or, or_false, f_X12_isPlace, T.k, b1, b2, c]
/-- g places laid -/
def LPl (h : aH) (m : Nat) (pl : Nat → Bool) (g : Nat) : aH := sA (sI h m 61 (nI (ctN pl g))) (m + 37) (fun j => if j < g then b2i (pl j) else hI h (m + 37) j)
theorem LPl_o {pl : Nat → Bool} {g q j : Nat} (h1 : ¬ q = m + 37) (h2 : ¬ (q = m ∧ j = 61)) : hI (LPl h m pl g) q j = hI h q j := by
  unfold LPl; rw [hI_sA, if_neg h1, hI_sI, if_neg h2]
theorem LPl_61 {pl : Nat → Bool} {g : Nat} : hI (LPl h m pl g) m 61 = nI (ctN pl g) := by
  unfold LPl; rw [hI_sA, if_neg (by omega), hI_sI, if_pos ⟨rfl, rfl⟩]
theorem LPl_37 {pl : Nat → Bool} {g j : Nat} (hj : j < g) : hI (LPl h m pl g) (m + 37) j = b2i (pl j) := by
  unfold LPl; rw [hI_sA, if_pos rfl, if_pos hj]
theorem LPl_0 {pl : Nat → Bool} : LPl h m pl 0 = sI h m 61 (nI 0) := by
  unfold LPl
  rw [show (fun j => if j < 0 then b2i (pl j) else hI h (m + 37) j) = hI (sI h m 61 (nI (ctN pl 0))) (m + 37) by funext j; rw [if_neg (by omega), hI_sI, if_neg (by omega)], sA_id]
  rfl
theorem LPl_s (pl : Nat → Bool) (g : Nat) : (if pl g then sI (sI (LPl h m pl g) (m + 37) g (b2i (pl g))) m 61 (nI (ctN pl g) + nI 1) else sI (LPl h m pl g) (m + 37) g (b2i (pl g))) = LPl h m pl (g + 1) := by
  have cs := ctN_succ pl g
  apply aH_ext
  · intro b; split <;> rfl
  · intro b j
    unfold LPl
    by_cases c : pl g
    · rw [if_pos c]
      rw [if_pos c] at cs
      simp only [hI_sI, hI_sA]
      by_cases c1 : b = m
      · subst c1
        by_cases c2 : j = 61
        · subst c2; rw [if_pos ⟨rfl, rfl⟩, if_neg (by omega), if_pos ⟨rfl, rfl⟩, cs, nI_add]
        · rw [if_neg (by omega), if_neg (by omega), if_neg (by omega), if_neg (by omega), if_neg (by omega), if_neg (by omega)]
      · rw [if_neg (by omega)]
        by_cases c3 : b = m + 37
        · subst c3
          by_cases c4 : j = g
          · subst c4; rw [if_pos ⟨rfl, rfl⟩, if_pos rfl, if_pos (by omega)]
          · rw [if_neg (by omega), if_pos rfl, if_pos rfl]
            by_cases c5 : j < g
            · rw [if_pos c5, if_pos (by omega)]
            · rw [if_neg c5, if_neg (by omega)]
        · rw [if_neg (by omega), if_neg c3, if_neg (by omega), if_neg c3, if_neg (by omega)]
    · rw [if_neg c]
      rw [if_neg c] at cs
      simp only [hI_sI, hI_sA]
      by_cases c3 : b = m + 37
      · subst c3
        by_cases c4 : j = g
        · subst c4; rw [if_pos ⟨rfl, rfl⟩, if_pos rfl, if_pos (by omega)]
        · rw [if_neg (by omega), if_pos rfl, if_pos rfl]
          by_cases c5 : j < g
          · rw [if_pos c5, if_pos (by omega)]
          · rw [if_neg c5, if_neg (by omega)]
      · rw [if_neg (by omega), if_neg c3, if_neg c3]
        rw [cs, Nat.add_zero]
  · intro b j; split <;> rfl
  · intro b j; split <;> rfl
  · split <;> rfl
  · split <;> rfl
theorem PK.lp (P : PK h m k M e b a0) (pl : Nat → Bool) (g : Nat) : PK (LPl h m pl g) m k M e b a0 := by
  obtain ⟨T, hk, m4, p1, p2, p3, h4, h8, he, hb, ha0⟩ := P
  exact ⟨T.of rfl rfl, hk, by rw [LPl_o (by omega) (by omega)]; exact m4, by rw [LPl_o (by omega) (by omega)]; exact p1, by rw [LPl_o (by omega) (by omega)]; exact p2, by rw [LPl_o (by omega) (by omega)]; exact p3, h4, h8, he, hb, ha0⟩
theorem RW.lp (R : RW h m rn rw_) (pl : Nat → Bool) (g : Nat) : RW (LPl h m pl g) m rn rw_ := by
  obtain ⟨r58, r16, hr⟩ := R
  exact ⟨by rw [LPl_o (by omega) (by omega)]; exact r58, r16, fun j hj => by rw [LPl_o (by omega) (by omega)]; exact hr j hj⟩
theorem m_laysPlaces (P : PK h m k M e b a0) (R : RW h m rn rw_) : f_X12_laysPlaces m (nI k) h = some ((), LPl h m (plP M e b a0 rn rw_) 4096) := by
  have T := P.1
  have L1 := (loop_itr (fun n g (_ : Unit) => f_X12_laysPlaces_7 n m (nI k) (nI g) (LPl h m (plP M e b a0 rn rw_) g)) 4096 (fun _ u => u) (fun _ => ((), LPl h m (plP M e b a0 rn rw_) 4096)) (fun _ _ => True) (fun n g _ hg _ => ⟨?_, trivial⟩) (fun n _ _ => ?_) 4096 0 () FU (by omega) trivial (FU_gt (by omega))).1
  · have e0 : f_X12_laysPlaces m (nI k) h = f_X12_laysPlaces_7 FU m (nI k) (nI 0) (LPl h m (plP M e b a0 rn rw_) 0) := by
      rw [LPl_0]
      simp (disch := omega) only [nm, bd_s, ko_K, ka_K, koK_t, kaK_t, kr_s, kn_s, kn_n, hK_sI, hR_sI, hK_sL, hR_sL, hI_sL, hL_sI, hL_sL, hI_sI, hN_sI, hN_sL, ch_G, ch_T, nb_0, nb_1, zb_G, d_T, d_F, d_eT, d_eF, b2i_t, b2i_f, tn_nI, fa_lit, fa_litL, m1_e, nI_add, pk_mul, pk_sub, nI_leI, nI_ltI, nI_eq, le_T, le_F, lt_T, lt_F, eq_T, eq_F, if_pos, if_neg, m1_le, m1_lt', m1_gt, m1_le', m1_eq, m1_qe, b2i_eq0, in_N, in_n, in_I, ↓reduceIte, Bool.true_eq_false, Bool.false_eq_true, reduceCtorEq, decide_eq_true_eq, decide_eq_false_iff_not, Nat.not_lt, Nat.not_le, not_true_eq_false, not_false_eq_true, true_and, and_true, and_self, false_and, and_false, true_or, or_true, false_or, or_false, f_X12_laysPlaces, T.k]
    rw [e0]
    exact L1
  · have T1 := (P.lp (plP M e b a0 rn rw_) g).1
    have p := m_isPlace (P.lp (plP M e b a0 rn rw_) g) (R.lp (plP M e b a0 rn rw_) g) hg
    have e61 : hI (LPl h m (plP M e b a0 rn rw_) g) m 61 = nI (ctN (plP M e b a0 rn rw_) g) := LPl_61
    have st := LPl_s (h := h) (m := m) (plP M e b a0 rn rw_) g
    have ba := b2i_and (plP M e b a0 rn rw_ g)
    show f_X12_laysPlaces_7 (n + 1) m (nI k) (nI g) (LPl h m (plP M e b a0 rn rw_) g) = f_X12_laysPlaces_7 n m (nI k) (nI (g + 1)) (LPl h m (plP M e b a0 rn rw_) (g + 1))
    rw [← st]
    generalize LPl h m (plP M e b a0 rn rw_) g = h1 at *
    generalize plP M e b a0 rn rw_ g = z at *
    cases z
    · simp (disch := omega) only [nm, bd_s, ko_K, ka_K, koK_t, kaK_t, kr_s, kn_s, kn_n, hK_sI, hR_sI, hK_sL, hR_sL, hI_sL, hL_sI, hL_sL, hI_sI, hN_sI, hN_sL, ch_G, ch_T, nb_0, nb_1, zb_G, d_T, d_F, d_eT, d_eF, b2i_t, b2i_f, tn_nI, fa_lit, fa_litL, m1_e, nI_add, pk_mul, pk_sub, nI_leI, nI_ltI, nI_eq, le_T, le_F, lt_T, lt_F, eq_T, eq_F, if_pos, if_neg, m1_le, m1_lt', m1_gt, m1_le', m1_eq, m1_qe, b2i_eq0, in_N, in_n, in_I, ↓reduceIte, Bool.true_eq_false, Bool.false_eq_true, reduceCtorEq, decide_eq_true_eq, decide_eq_false_iff_not, Nat.not_lt, Nat.not_le, not_true_eq_false, not_false_eq_true, true_and, and_true, and_self, false_and, and_false, true_or, or_true, false_or, or_false, f_X12_laysPlaces_7, b_X12_laysPlaces_7, f_X12_laysPlaces_45, T1.k, T1.r60, T1.k60, p, e61, an_f, an_t]
    · simp (disch := omega) only [nm, bd_s, ko_K, ka_K, koK_t, kaK_t, kr_s, kn_s, kn_n, hK_sI, hR_sI, hK_sL, hR_sL, hI_sL, hL_sI, hL_sL, hI_sI, hN_sI, hN_sL, ch_G, ch_T, nb_0, nb_1, zb_G, d_T, d_F, d_eT, d_eF, b2i_t, b2i_f, tn_nI, fa_lit, fa_litL, m1_e, nI_add, pk_mul, pk_sub, nI_leI, nI_ltI, nI_eq, le_T, le_F, lt_T, lt_F, eq_T, eq_F, if_pos, if_neg, m1_le, m1_lt', m1_gt, m1_le', m1_eq, m1_qe, b2i_eq0, in_N, in_n, in_I, ↓reduceIte, Bool.true_eq_false, Bool.false_eq_true, reduceCtorEq, decide_eq_true_eq, decide_eq_false_iff_not, Nat.not_lt, Nat.not_le, not_true_eq_false, not_false_eq_true, true_and, and_true, and_self, false_and, and_false, true_or, or_true, false_or, or_false, f_X12_laysPlaces_7, b_X12_laysPlaces_7, f_X12_laysPlaces_45, T1.k, T1.r60, T1.k60, p, e61, an_f, an_t]
  · simp (disch := omega) only [nm, bd_s, ko_K, ka_K, koK_t, kaK_t, kr_s, kn_s, kn_n, hK_sI, hR_sI, hK_sL, hR_sL, hI_sL, hL_sI, hL_sL, hI_sI, hN_sI, hN_sL, ch_G, ch_T, nb_0, nb_1, zb_G, d_T, d_F, d_eT, d_eF, b2i_t, b2i_f, tn_nI, fa_lit, fa_litL, m1_e, nI_add, pk_mul, pk_sub, nI_leI, nI_ltI, nI_eq, le_T, le_F, lt_T, lt_F, eq_T, eq_F, if_pos, if_neg, m1_le, m1_lt', m1_gt, m1_le', m1_eq, m1_qe, b2i_eq0, in_N, in_n, in_I, ↓reduceIte, Bool.true_eq_false, Bool.false_eq_true, reduceCtorEq, decide_eq_true_eq, decide_eq_false_iff_not, Nat.not_lt, Nat.not_le, not_true_eq_false, not_false_eq_true, true_and, and_true, and_self, false_and, and_false, true_or, or_true, false_or, or_false, f_X12_laysPlaces_7, b_X12_laysPlaces_7]
theorem m_placeNo {pl : Nat → Bool} (T : MS h m) {k : Nat} (hk : k < 2 ^ 31) : f_X12_places_39 FU m (nI k) (nI 0) (nI 0) (LPl h m pl 4096) = some (opI (fnd (nbP pl k) 4096 0), LPl h m pl 4096) := by
  have T1 : MS (LPl h m pl 4096) m := T.of rfl rfl
  have L1 := loop_fnd (fun n i => f_X12_places_39 n m (nI k) (nI (ctN pl i)) (nI i) (LPl h m pl 4096)) 4096 (nbP pl k) (fun a => (nI a, LPl h m pl 4096)) (-nI 1, LPl h m pl 4096) (fun n i hi => ?_) (fun n => ?_) 4096 0 FU (by omega) (FU_gt (by omega))
  · refine Eq.trans L1 ?_
    cases fnd (nbP pl k) 4096 0 <;> rfl
  · have p : hI (LPl h m pl 4096) (m + 37) i = b2i (pl i) := LPl_37 hi
    have cs := ctN_succ pl i
    have cl := ctN_le pl i
    unfold nbP
    generalize ctN pl (i + 1) = c1 at *
    generalize ctN pl i = c0 at *
    generalize LPl h m pl 4096 = h1 at *
    generalize pl i = z at *
    cases z
    · have : c1 = c0 := by simpa using cs
      simp (disch := omega) only [nm, bd_s, ko_K, ka_K, koK_t, kaK_t, kr_s, kn_s, kn_n, hK_sI, hR_sI, hK_sL, hR_sL, hI_sL, hL_sI, hL_sL, hI_sI, hN_sI, hN_sL, ch_G, ch_T, nb_0, nb_1, zb_G, d_T, d_F, d_eT, d_eF, b2i_t, b2i_f, tn_nI, fa_lit, fa_litL, m1_e, nI_add, pk_mul, pk_sub, nI_leI, nI_ltI, nI_eq, le_T, le_F, lt_T, lt_F, eq_T, eq_F, if_pos, if_neg, m1_le, m1_lt', m1_gt, m1_le', m1_eq, m1_qe, b2i_eq0, in_N, in_n, in_I, ↓reduceIte, Bool.true_eq_false, Bool.false_eq_true, reduceCtorEq, decide_eq_true_eq, decide_eq_false_iff_not, Nat.not_lt, Nat.not_le, not_true_eq_false, not_false_eq_true, true_and, and_true, and_self, false_and, and_false, true_or, or_true, false_or, or_false, f_X12_places_39, b_X12_places_39, f_X12_places_71, T1.k, T1.r60, T1.k60, p, Bool.false_and, this]
    · have : c1 = c0 + 1 := by simpa using cs
      by_cases q : c0 = k
      · simp (disch := omega) only [nm, bd_s, ko_K, ka_K, koK_t, kaK_t, kr_s, kn_s, kn_n, hK_sI, hR_sI, hK_sL, hR_sL, hI_sL, hL_sI, hL_sL, hI_sI, hN_sI, hN_sL, ch_G, ch_T, nb_0, nb_1, zb_G, d_T, d_F, d_eT, d_eF, b2i_t, b2i_f, tn_nI, fa_lit, fa_litL, m1_e, nI_add, pk_mul, pk_sub, nI_leI, nI_ltI, nI_eq, le_T, le_F, lt_T, lt_F, eq_T, eq_F, if_pos, if_neg, m1_le, m1_lt', m1_gt, m1_le', m1_eq, m1_qe, b2i_eq0, in_N, in_n, in_I, ↓reduceIte, Bool.true_eq_false, Bool.false_eq_true, reduceCtorEq, decide_eq_true_eq, decide_eq_false_iff_not, Nat.not_lt, Nat.not_le, not_true_eq_false, not_false_eq_true, true_and, and_true, and_self, false_and, and_false, true_or, or_true, false_or, or_false, f_X12_places_39, b_X12_places_39, f_X12_places_71, T1.k, T1.r60, T1.k60, p, Bool.true_and, this, q]
      · simp (disch := omega) only [nm, bd_s, ko_K, ka_K, koK_t, kaK_t, kr_s, kn_s, kn_n, hK_sI, hR_sI, hK_sL, hR_sL, hI_sL, hL_sI, hL_sL, hI_sI, hN_sI, hN_sL, ch_G, ch_T, nb_0, nb_1, zb_G, d_T, d_F, d_eT, d_eF, b2i_t, b2i_f, tn_nI, fa_lit, fa_litL, m1_e, nI_add, pk_mul, pk_sub, nI_leI, nI_ltI, nI_eq, le_T, le_F, lt_T, lt_F, eq_T, eq_F, if_pos, if_neg, m1_le, m1_lt', m1_gt, m1_le', m1_eq, m1_qe, b2i_eq0, in_N, in_n, in_I, ↓reduceIte, Bool.true_eq_false, Bool.false_eq_true, reduceCtorEq, decide_eq_true_eq, decide_eq_false_iff_not, Nat.not_lt, Nat.not_le, not_true_eq_false, not_false_eq_true, true_and, and_true, and_self, false_and, and_false, true_or, or_true, false_or, or_false, f_X12_places_39, b_X12_places_39, f_X12_places_71, T1.k, T1.r60, T1.k60, p, Bool.true_and, this, q]
  · simp (disch := omega) only [nm, bd_s, ko_K, ka_K, koK_t, kaK_t, kr_s, kn_s, kn_n, hK_sI, hR_sI, hK_sL, hR_sL, hI_sL, hL_sI, hL_sL, hI_sI, hN_sI, hN_sL, ch_G, ch_T, nb_0, nb_1, zb_G, d_T, d_F, d_eT, d_eF, b2i_t, b2i_f, tn_nI, fa_lit, fa_litL, m1_e, nI_add, pk_mul, pk_sub, nI_leI, nI_ltI, nI_eq, le_T, le_F, lt_T, lt_F, eq_T, eq_F, if_pos, if_neg, m1_le, m1_lt', m1_gt, m1_le', m1_eq, m1_qe, b2i_eq0, in_N, in_n, in_I, ↓reduceIte, Bool.true_eq_false, Bool.false_eq_true, reduceCtorEq, decide_eq_true_eq, decide_eq_false_iff_not, Nat.not_lt, Nat.not_le, not_true_eq_false, not_false_eq_true, true_and, and_true, and_self, false_and, and_false, true_or, or_true, false_or, or_false, f_X12_places_39, b_X12_places_39]
end Mp
