/-! THE TEXTS: the class's scanner -/
theorem sb_lo : ∀ c, c < 128 → (nI c).toInt8.toInt32 = nI c := by decide +kernel
theorem sb_hi : ∀ c, c < 256 → 128 ≤ c → (nI c).toInt8.toInt32 < nI 0 := by decide +kernel
theorem sb_255 : ∀ c, c < 256 → (nI c).toInt8.toInt32 &&& nI 255 = nI c := by decide +kernel
theorem wch_w : ∀ i, i < 31 → ∀ j, j < 8 → wch (nI (8 * i + j)) = nI ((WD i).getD j 32) := by decide +kernel
theorem WD_ok : ∀ i, i < 31 → (WD i).length ≤ 8 ∧ ∀ j, j < (WD i).length → ¬ (WD i).getD j 32 = 32 := by decide +kernel
theorem WD_b : ∀ i, i < 31 → ∀ j, j < 8 → (WD i).getD j 32 ≤ 122 := by decide +kernel
/-- the kind of a byte -/
def kA (tp : Nat → Nat) (n q : Nat) : Nat := if q < n then (if isB (tp q) = true then 5 else if isL (tp q) = true then 1 else if isD (tp q) = true then 2 else 3) else 0
def wv (tp : Nat → Nat) (n : Nat) (σ : tyT) : Option Nat := fnd (fun i => decide (WD i = sub tp σ.1 (rn isL tp n σ.1 - σ.1))) 31 0
def tkK (tp : Nat → Nat) (n : Nat) (σ : tyT) : Nat := if σ.1 < n then (if isL (tp σ.1) = true then (if σ.2 = true then 4 else 1) else if isD (tp σ.1) = true then (if σ.2 = true then 4 else 2) else 3) else 0
def tkE (tp : Nat → Nat) (n : Nat) (σ : tyT) : Nat := if σ.1 < n then (if isL (tp σ.1) = true then rn isL tp n σ.1 else if isD (tp σ.1) = true then rn isD tp n σ.1 else σ.1 + 1) else n
def tkV (tp : Nat → Nat) (n : Nat) (σ : tyT) : Int32 := if σ.1 < n then (if isL (tp σ.1) = true then opI (wv tp n σ) else if isD (tp σ.1) = true then nI (nv tp n σ) else nI (tp σ.1)) else -nI 1
/-- the scanner's text -/
def TX (h : aH) (x : Nat) (tp : Nat → Nat) (n : Nat) : Prop := XS h x ∧ (∀ j, j < 1600 → hI h (x + 1) j = (nI (tp j)).toInt8.toInt32) ∧ hR h (x + 105) 0 = some (x + 1) ∧ hI h (x + 105) 1 = nI n
/-- the scanner at a token -/
def TS (h : aH) (x : Nat) (tp : Nat → Nat) (n : Nat) (σ : tyT) : Prop := TX h x tp n ∧ hI h (x + 105) 2 = nI (tkK tp n σ) ∧ hI h (x + 105) 3 = nI σ.1 ∧ hI h (x + 105) 4 = nI (tkE tp n σ) ∧ hI h (x + 105) 5 = tkV tp n σ
def PC (x b j : Nat) : Prop := b = x + 105 ∧ 2 ≤ j
section Sn
variable {h : aH} {x n : Nat} {tp : Nat → Nat}
theorem TX.fr {h1 : aH} (T : TX h x tp n) (e1 : hK h1 = hK h) (e2 : hR h1 = hR h) (e : ∀ j, hI h1 (x + 1) j = hI h (x + 1) j) (e5 : hI h1 (x + 105) 1 = hI h (x + 105) 1) : TX h1 x tp n := ⟨T.1.of e1 e2, fun j hj => (e j).trans (T.2.1 j hj), by rw [e2]; exact T.2.2.1, e5.trans T.2.2.2⟩
theorem TX.s (T : TX h x tp n) {i : Nat} (hi : 2 ≤ i) (v : Int32) : TX (sI h (x + 105) i v) x tp n := T.fr rfl rfl (fun j => by rw [hI_sI, if_neg (by omega)]) (by rw [hI_sI, if_neg (by omega)])
theorem c_kindAt (T : TX h x tp n) (tb : ∀ j, tp j ≤ 255) (hn : n ≤ 1600) {q : Nat} (hq : q ≤ 5000) : f_X7_kindAt (x + 105) (nI q) h = some (nI (kA tp n q), h) := by
  obtain ⟨S, hb, r0, l1⟩ := T
  unfold kA
  by_cases c : q < n
  · rw [if_pos c]
    have v := hb q (by omega)
    have t := tb q
    generalize tp q = b at *
    unfold isB isL isD
    by_cases c8 : b < 128
    · rw [sb_lo b c8] at v
      by_cases c1 : b = 10
      · rw [if_pos (by simp [c1])]
        simp (disch := omega) only [nm, bd_s, ko_K, ka_K, koK_t, kaK_t, kr_s, kn_s, kn_n, hK_sI, hR_sI, hK_sL, hR_sL, hI_sL, hL_sI, hL_sL, hI_sI, hN_sI, hN_sL, ch_G, ch_T, nb_0, nb_1, zb_G, d_T, d_F, d_eT, d_eF, b2i_t, b2i_f, tn_nI, fa_lit, fa_litL, m1_e, nI_add, pk_mul, pk_sub, nI_leI, nI_ltI, nI_eq, le_T, le_F, lt_T, lt_F, eq_T, eq_F, if_pos, if_neg, m1_le, m1_lt', m1_gt, m1_le', m1_eq, m1_qe, b2i_eq0, in_N, in_n, in_I, ↓reduceIte, Bool.true_eq_false, Bool.false_eq_true, reduceCtorEq, decide_eq_true_eq, decide_eq_false_iff_not, Nat.not_lt, Nat.not_le, not_true_eq_false, not_false_eq_true, true_and, and_true, and_self, false_and, and_false, true_or, or_true, false_or, or_false, f_X7_kindAt_12, f_X7_kindAt_33, f_X7_kindAt_66, f_X7_kindAt_65, f_X7_kindAt_49, f_X7_kindAt, S.k105, l1, r0, S.k1, v]
      · by_cases c2 : b = 32
        · rw [if_pos (by simp [c2])]
          simp (disch := omega) only [nm, bd_s, ko_K, ka_K, koK_t, kaK_t, kr_s, kn_s, kn_n, hK_sI, hR_sI, hK_sL, hR_sL, hI_sL, hL_sI, hL_sL, hI_sI, hN_sI, hN_sL, ch_G, ch_T, nb_0, nb_1, zb_G, d_T, d_F, d_eT, d_eF, b2i_t, b2i_f, tn_nI, fa_lit, fa_litL, m1_e, nI_add, pk_mul, pk_sub, nI_leI, nI_ltI, nI_eq, le_T, le_F, lt_T, lt_F, eq_T, eq_F, if_pos, if_neg, m1_le, m1_lt', m1_gt, m1_le', m1_eq, m1_qe, b2i_eq0, in_N, in_n, in_I, ↓reduceIte, Bool.true_eq_false, Bool.false_eq_true, reduceCtorEq, decide_eq_true_eq, decide_eq_false_iff_not, Nat.not_lt, Nat.not_le, not_true_eq_false, not_false_eq_true, true_and, and_true, and_self, false_and, and_false, true_or, or_true, false_or, or_false, f_X7_kindAt_12, f_X7_kindAt_33, f_X7_kindAt_66, f_X7_kindAt_65, f_X7_kindAt_49, f_X7_kindAt, S.k105, l1, r0, S.k1, v]
        · rw [if_neg (by simp [c1, c2])]
          by_cases c3 : 97 ≤ b
          · by_cases c4 : b ≤ 122
            · rw [if_pos (by simp [c3, c4])]
              simp (disch := omega) only [nm, bd_s, ko_K, ka_K, koK_t, kaK_t, kr_s, kn_s, kn_n, hK_sI, hR_sI, hK_sL, hR_sL, hI_sL, hL_sI, hL_sL, hI_sI, hN_sI, hN_sL, ch_G, ch_T, nb_0, nb_1, zb_G, d_T, d_F, d_eT, d_eF, b2i_t, b2i_f, tn_nI, fa_lit, fa_litL, m1_e, nI_add, pk_mul, pk_sub, nI_leI, nI_ltI, nI_eq, le_T, le_F, lt_T, lt_F, eq_T, eq_F, if_pos, if_neg, m1_le, m1_lt', m1_gt, m1_le', m1_eq, m1_qe, b2i_eq0, in_N, in_n, in_I, ↓reduceIte, Bool.true_eq_false, Bool.false_eq_true, reduceCtorEq, decide_eq_true_eq, decide_eq_false_iff_not, Nat.not_lt, Nat.not_le, not_true_eq_false, not_false_eq_true, true_and, and_true, and_self, false_and, and_false, true_or, or_true, false_or, or_false, f_X7_kindAt_12, f_X7_kindAt_33, f_X7_kindAt_66, f_X7_kindAt_65, f_X7_kindAt_49, f_X7_kindAt, S.k105, l1, r0, S.k1, v]
            · rw [if_neg (by simp [c4]), if_neg (by simp; omega)]
              simp (disch := omega) only [nm, bd_s, ko_K, ka_K, koK_t, kaK_t, kr_s, kn_s, kn_n, hK_sI, hR_sI, hK_sL, hR_sL, hI_sL, hL_sI, hL_sL, hI_sI, hN_sI, hN_sL, ch_G, ch_T, nb_0, nb_1, zb_G, d_T, d_F, d_eT, d_eF, b2i_t, b2i_f, tn_nI, fa_lit, fa_litL, m1_e, nI_add, pk_mul, pk_sub, nI_leI, nI_ltI, nI_eq, le_T, le_F, lt_T, lt_F, eq_T, eq_F, if_pos, if_neg, m1_le, m1_lt', m1_gt, m1_le', m1_eq, m1_qe, b2i_eq0, in_N, in_n, in_I, ↓reduceIte, Bool.true_eq_false, Bool.false_eq_true, reduceCtorEq, decide_eq_true_eq, decide_eq_false_iff_not, Nat.not_lt, Nat.not_le, not_true_eq_false, not_false_eq_true, true_and, and_true, and_self, false_and, and_false, true_or, or_true, false_or, or_false, f_X7_kindAt_12, f_X7_kindAt_33, f_X7_kindAt_66, f_X7_kindAt_65, f_X7_kindAt_49, f_X7_kindAt, S.k105, l1, r0, S.k1, v]
          · rw [if_neg (by simp [c3])]
            by_cases c5 : 48 ≤ b ∧ b ≤ 57
            · rw [if_pos (by simp [c5])]
              simp (disch := omega) only [nm, bd_s, ko_K, ka_K, koK_t, kaK_t, kr_s, kn_s, kn_n, hK_sI, hR_sI, hK_sL, hR_sL, hI_sL, hL_sI, hL_sL, hI_sI, hN_sI, hN_sL, ch_G, ch_T, nb_0, nb_1, zb_G, d_T, d_F, d_eT, d_eF, b2i_t, b2i_f, tn_nI, fa_lit, fa_litL, m1_e, nI_add, pk_mul, pk_sub, nI_leI, nI_ltI, nI_eq, le_T, le_F, lt_T, lt_F, eq_T, eq_F, if_pos, if_neg, m1_le, m1_lt', m1_gt, m1_le', m1_eq, m1_qe, b2i_eq0, in_N, in_n, in_I, ↓reduceIte, Bool.true_eq_false, Bool.false_eq_true, reduceCtorEq, decide_eq_true_eq, decide_eq_false_iff_not, Nat.not_lt, Nat.not_le, not_true_eq_false, not_false_eq_true, true_and, and_true, and_self, false_and, and_false, true_or, or_true, false_or, or_false, f_X7_kindAt_12, f_X7_kindAt_33, f_X7_kindAt_66, f_X7_kindAt_65, f_X7_kindAt_49, f_X7_kindAt, S.k105, l1, r0, S.k1, v]
            · rw [if_neg (by simp; omega)]
              by_cases c6 : b < 48
              · simp (disch := omega) only [nm, bd_s, ko_K, ka_K, koK_t, kaK_t, kr_s, kn_s, kn_n, hK_sI, hR_sI, hK_sL, hR_sL, hI_sL, hL_sI, hL_sL, hI_sI, hN_sI, hN_sL, ch_G, ch_T, nb_0, nb_1, zb_G, d_T, d_F, d_eT, d_eF, b2i_t, b2i_f, tn_nI, fa_lit, fa_litL, m1_e, nI_add, pk_mul, pk_sub, nI_leI, nI_ltI, nI_eq, le_T, le_F, lt_T, lt_F, eq_T, eq_F, if_pos, if_neg, m1_le, m1_lt', m1_gt, m1_le', m1_eq, m1_qe, b2i_eq0, in_N, in_n, in_I, ↓reduceIte, Bool.true_eq_false, Bool.false_eq_true, reduceCtorEq, decide_eq_true_eq, decide_eq_false_iff_not, Nat.not_lt, Nat.not_le, not_true_eq_false, not_false_eq_true, true_and, and_true, and_self, false_and, and_false, true_or, or_true, false_or, or_false, f_X7_kindAt_12, f_X7_kindAt_33, f_X7_kindAt_66, f_X7_kindAt_65, f_X7_kindAt_49, f_X7_kindAt, S.k105, l1, r0, S.k1, v]
              · simp (disch := omega) only [nm, bd_s, ko_K, ka_K, koK_t, kaK_t, kr_s, kn_s, kn_n, hK_sI, hR_sI, hK_sL, hR_sL, hI_sL, hL_sI, hL_sL, hI_sI, hN_sI, hN_sL, ch_G, ch_T, nb_0, nb_1, zb_G, d_T, d_F, d_eT, d_eF, b2i_t, b2i_f, tn_nI, fa_lit, fa_litL, m1_e, nI_add, pk_mul, pk_sub, nI_leI, nI_ltI, nI_eq, le_T, le_F, lt_T, lt_F, eq_T, eq_F, if_pos, if_neg, m1_le, m1_lt', m1_gt, m1_le', m1_eq, m1_qe, b2i_eq0, in_N, in_n, in_I, ↓reduceIte, Bool.true_eq_false, Bool.false_eq_true, reduceCtorEq, decide_eq_true_eq, decide_eq_false_iff_not, Nat.not_lt, Nat.not_le, not_true_eq_false, not_false_eq_true, true_and, and_true, and_self, false_and, and_false, true_or, or_true, false_or, or_false, f_X7_kindAt_12, f_X7_kindAt_33, f_X7_kindAt_66, f_X7_kindAt_65, f_X7_kindAt_49, f_X7_kindAt, S.k105, l1, r0, S.k1, v]
    · have ng := sb_hi b (by omega) (by omega)
      rw [if_neg (by simp; omega), if_neg (by simp; omega), if_neg (by simp; omega)]
      rw [← v] at ng
      simp (disch := omega) only [nm, bd_s, ko_K, ka_K, koK_t, kaK_t, kr_s, kn_s, kn_n, hK_sI, hR_sI, hK_sL, hR_sL, hI_sL, hL_sI, hL_sL, hI_sI, hN_sI, hN_sL, ch_G, ch_T, nb_0, nb_1, zb_G, d_T, d_F, d_eT, d_eF, b2i_t, b2i_f, tn_nI, fa_lit, fa_litL, m1_e, nI_add, pk_mul, pk_sub, nI_leI, nI_ltI, nI_eq, le_T, le_F, lt_T, lt_F, eq_T, eq_F, if_pos, if_neg, m1_le, m1_lt', m1_gt, m1_le', m1_eq, m1_qe, b2i_eq0, in_N, in_n, in_I, ↓reduceIte, Bool.true_eq_false, Bool.false_eq_true, reduceCtorEq, decide_eq_true_eq, decide_eq_false_iff_not, Nat.not_lt, Nat.not_le, not_true_eq_false, not_false_eq_true, true_and, and_true, and_self, false_and, and_false, true_or, or_true, false_or, or_false, f_X7_kindAt_12, f_X7_kindAt_33, f_X7_kindAt_66, f_X7_kindAt_65, f_X7_kindAt_49, f_X7_kindAt, S.k105, l1, r0, S.k1, ng_lt' ng, ng_le' ng, ng_le ng, ng_lt ng, ng_eq ng, ng_qe ng, in_g ng, in_gN ng]
  · rw [if_neg c]
    simp (disch := omega) only [nm, bd_s, ko_K, ka_K, koK_t, kaK_t, kr_s, kn_s, kn_n, hK_sI, hR_sI, hK_sL, hR_sL, hI_sL, hL_sI, hL_sL, hI_sI, hN_sI, hN_sL, ch_G, ch_T, nb_0, nb_1, zb_G, d_T, d_F, d_eT, d_eF, b2i_t, b2i_f, tn_nI, fa_lit, fa_litL, m1_e, nI_add, pk_mul, pk_sub, nI_leI, nI_ltI, nI_eq, le_T, le_F, lt_T, lt_F, eq_T, eq_F, if_pos, if_neg, m1_le, m1_lt', m1_gt, m1_le', m1_eq, m1_qe, b2i_eq0, in_N, in_n, in_I, ↓reduceIte, Bool.true_eq_false, Bool.false_eq_true, reduceCtorEq, decide_eq_true_eq, decide_eq_false_iff_not, Nat.not_lt, Nat.not_le, not_true_eq_false, not_false_eq_true, true_and, and_true, and_self, false_and, and_false, true_or, or_true, false_or, or_false, f_X7_kindAt_12, f_X7_kindAt_33, f_X7_kindAt_66, f_X7_kindAt_65, f_X7_kindAt_49, f_X7_kindAt, S.k105, l1]
/-- blanks are passed -/
theorem c_skip (tb : ∀ j, tp j ≤ 255) (hn : n ≤ 1600) (s0 : Int32) : ∀ (d q k : Nat), n - q = d → q ≤ n → d < k → TX h x tp n → f_X7_next_30 k (x + 105) s0 (sI h (x + 105) 3 (nI q)) = f_X7_next_66 (x + 105) s0 (sI h (x + 105) 3 (nI (rn isB tp n q))) := by
  intro d
  induction d with
  | zero =>
    intro q k hd hq hk T
    obtain ⟨k, rfl⟩ : ∃ j, k = j + 1 := ⟨k - 1, by omega⟩
    have hq : q = n := by omega
    subst hq
    rw [rn_f (by omega)]
    have T1 := T.s (i := 3) (by omega) (nI q)
    have S1 := T1.1
    have l1 := T1.2.2.2
    have v3 : hI (sI h (x + 105) 3 (nI q)) (x + 105) 3 = nI q := by rw [hI_sI, if_pos ⟨rfl, rfl⟩]
    generalize sI h (x + 105) 3 (nI q) = g at *
    simp (disch := omega) only [nm, bd_s, ko_K, ka_K, koK_t, kaK_t, kr_s, kn_s, kn_n, hK_sI, hR_sI, hK_sL, hR_sL, hI_sL, hL_sI, hL_sL, hI_sI, hN_sI, hN_sL, ch_G, ch_T, nb_0, nb_1, zb_G, d_T, d_F, d_eT, d_eF, b2i_t, b2i_f, tn_nI, fa_lit, fa_litL, m1_e, nI_add, pk_mul, pk_sub, nI_leI, nI_ltI, nI_eq, le_T, le_F, lt_T, lt_F, eq_T, eq_F, if_pos, if_neg, m1_le, m1_lt', m1_gt, m1_le', m1_eq, m1_qe, b2i_eq0, in_N, in_n, in_I, ↓reduceIte, Bool.true_eq_false, Bool.false_eq_true, reduceCtorEq, decide_eq_true_eq, decide_eq_false_iff_not, Nat.not_lt, Nat.not_le, not_true_eq_false, not_false_eq_true, true_and, and_true, and_self, false_and, and_false, true_or, or_true, false_or, or_false, f_X7_next_30, b_X7_next_30, S1.k105, l1, v3]
  | succ d ih =>
    intro q k hd hq hk T
    obtain ⟨k, rfl⟩ : ∃ j, k = j + 1 := ⟨k - 1, by omega⟩
    have T1 := T.s (i := 3) (by omega) (nI q)
    have S1 := T1.1
    have l1 := T1.2.2.2
    have v3 : hI (sI h (x + 105) 3 (nI q)) (x + 105) 3 = nI q := by rw [hI_sI, if_pos ⟨rfl, rfl⟩]
    have ka := c_kindAt T1 tb hn (q := q) (by omega)
    by_cases c : isB (tp q) = true
    · rw [rn_t (by omega) c, ← ih (q + 1) k (by omega) (by omega) (by omega) T]
      have e : kA tp n q = 5 := by unfold kA; rw [if_pos (by omega), if_pos c]
      rw [e] at ka
      have ss := sI_sI h (x + 105) 3 (nI q) (nI (q + 1))
      rw [← ss]
      generalize sI h (x + 105) 3 (nI q) = g at *
      simp (disch := omega) only [nm, bd_s, ko_K, ka_K, koK_t, kaK_t, kr_s, kn_s, kn_n, hK_sI, hR_sI, hK_sL, hR_sL, hI_sL, hL_sI, hL_sL, hI_sI, hN_sI, hN_sL, ch_G, ch_T, nb_0, nb_1, zb_G, d_T, d_F, d_eT, d_eF, b2i_t, b2i_f, tn_nI, fa_lit, fa_litL, m1_e, nI_add, pk_mul, pk_sub, nI_leI, nI_ltI, nI_eq, le_T, le_F, lt_T, lt_F, eq_T, eq_F, if_pos, if_neg, m1_le, m1_lt', m1_gt, m1_le', m1_eq, m1_qe, b2i_eq0, in_N, in_n, in_I, ↓reduceIte, Bool.true_eq_false, Bool.false_eq_true, reduceCtorEq, decide_eq_true_eq, decide_eq_false_iff_not, Nat.not_lt, Nat.not_le, not_true_eq_false, not_false_eq_true, true_and, and_true, and_self, false_and, and_false, true_or, or_true, false_or, or_false, f_X7_next_30, b_X7_next_30, S1.k105, l1, v3, ka]
    · rw [rn_f (fun z => c z.2)]
      have e : ¬ kA tp n q = 5 := by unfold kA; rw [if_pos (by omega), if_neg c]; split <;> (try split) <;> omega
      have e2 : kA tp n q ≤ 5 := by unfold kA; split <;> (try split) <;> (try split) <;> (try split) <;> omega
      generalize sI h (x + 105) 3 (nI q) = g at *
      simp (disch := omega) only [nm, bd_s, ko_K, ka_K, koK_t, kaK_t, kr_s, kn_s, kn_n, hK_sI, hR_sI, hK_sL, hR_sL, hI_sL, hL_sI, hL_sL, hI_sI, hN_sI, hN_sL, ch_G, ch_T, nb_0, nb_1, zb_G, d_T, d_F, d_eT, d_eF, b2i_t, b2i_f, tn_nI, fa_lit, fa_litL, m1_e, nI_add, pk_mul, pk_sub, nI_leI, nI_ltI, nI_eq, le_T, le_F, lt_T, lt_F, eq_T, eq_F, if_pos, if_neg, m1_le, m1_lt', m1_gt, m1_le', m1_eq, m1_qe, b2i_eq0, in_N, in_n, in_I, ↓reduceIte, Bool.true_eq_false, Bool.false_eq_true, reduceCtorEq, decide_eq_true_eq, decide_eq_false_iff_not, Nat.not_lt, Nat.not_le, not_true_eq_false, not_false_eq_true, true_and, and_true, and_self, false_and, and_false, true_or, or_true, false_or, or_false, f_X7_next_30, b_X7_next_30, S1.k105, l1, v3, ka]
/-- a run is passed -/
theorem c_run4 (tb : ∀ j, tp j ≤ 255) (hn : n ≤ 1600) {p : Nat → Bool} {kd : Nat} (hp : ∀ q, q < n → (kA tp n q = kd ↔ p (tp q) = true)) (kd5 : kd ≤ 5) (s0 : Int32) : ∀ (d q k : Nat), n - q = d → q ≤ n → d < k → TX h x tp n → hI h (x + 105) 2 = nI kd → f_X7_next_138 k (x + 105) s0 (nI 1) (sI h (x + 105) 4 (nI q)) = f_X7_next_181 (x + 105) s0 (nI 1) (sI h (x + 105) 4 (nI (rn p tp n q))) := by
  intro d
  induction d with
  | zero =>
    intro q k hd hq hk T k2
    obtain ⟨k, rfl⟩ : ∃ j, k = j + 1 := ⟨k - 1, by omega⟩
    have hq : q = n := by omega
    subst hq
    rw [rn_f (by omega)]
    have T1 := T.s (i := 4) (by omega) (nI q)
    have S1 := T1.1
    have l1 := T1.2.2.2
    have v3 : hI (sI h (x + 105) 4 (nI q)) (x + 105) 4 = nI q := by rw [hI_sI, if_pos ⟨rfl, rfl⟩]
    generalize sI h (x + 105) 4 (nI q) = g at *
    simp (disch := omega) only [nm, bd_s, ko_K, ka_K, koK_t, kaK_t, kr_s, kn_s, kn_n, hK_sI, hR_sI, hK_sL, hR_sL, hI_sL, hL_sI, hL_sL, hI_sI, hN_sI, hN_sL, ch_G, ch_T, nb_0, nb_1, zb_G, d_T, d_F, d_eT, d_eF, b2i_t, b2i_f, tn_nI, fa_lit, fa_litL, m1_e, nI_add, pk_mul, pk_sub, nI_leI, nI_ltI, nI_eq, le_T, le_F, lt_T, lt_F, eq_T, eq_F, if_pos, if_neg, m1_le, m1_lt', m1_gt, m1_le', m1_eq, m1_qe, b2i_eq0, in_N, in_n, in_I, ↓reduceIte, Bool.true_eq_false, Bool.false_eq_true, reduceCtorEq, decide_eq_true_eq, decide_eq_false_iff_not, Nat.not_lt, Nat.not_le, not_true_eq_false, not_false_eq_true, true_and, and_true, and_self, false_and, and_false, true_or, or_true, false_or, or_false, f_X7_next_138, b_X7_next_138, S1.k105, l1, v3]
  | succ d ih =>
    intro q k hd hq hk T k2
    obtain ⟨k, rfl⟩ : ∃ j, k = j + 1 := ⟨k - 1, by omega⟩
    have T1 := T.s (i := 4) (by omega) (nI q)
    have S1 := T1.1
    have l1 := T1.2.2.2
    have v3 : hI (sI h (x + 105) 4 (nI q)) (x + 105) 4 = nI q := by rw [hI_sI, if_pos ⟨rfl, rfl⟩]
    have v2 : hI (sI h (x + 105) 4 (nI q)) (x + 105) 2 = nI kd := by rw [hI_sI, if_neg (by omega)]; exact k2
    have ka := c_kindAt T1 tb hn (q := q) (by omega)
    have e2 : kA tp n q ≤ 5 := by unfold kA; split <;> (try split) <;> (try split) <;> (try split) <;> omega
    by_cases c : p (tp q) = true
    · rw [rn_t (by omega) c, ← ih (q + 1) k (by omega) (by omega) (by omega) T k2]
      rw [(hp q (by omega)).mpr c] at ka
      have ss := sI_sI h (x + 105) 4 (nI q) (nI (q + 1))
      rw [← ss]
      generalize sI h (x + 105) 4 (nI q) = g at *
      simp (disch := omega) only [nm, bd_s, ko_K, ka_K, koK_t, kaK_t, kr_s, kn_s, kn_n, hK_sI, hR_sI, hK_sL, hR_sL, hI_sL, hL_sI, hL_sL, hI_sI, hN_sI, hN_sL, ch_G, ch_T, nb_0, nb_1, zb_G, d_T, d_F, d_eT, d_eF, b2i_t, b2i_f, tn_nI, fa_lit, fa_litL, m1_e, nI_add, pk_mul, pk_sub, nI_leI, nI_ltI, nI_eq, le_T, le_F, lt_T, lt_F, eq_T, eq_F, if_pos, if_neg, m1_le, m1_lt', m1_gt, m1_le', m1_eq, m1_qe, b2i_eq0, in_N, in_n, in_I, ↓reduceIte, Bool.true_eq_false, Bool.false_eq_true, reduceCtorEq, decide_eq_true_eq, decide_eq_false_iff_not, Nat.not_lt, Nat.not_le, not_true_eq_false, not_false_eq_true, true_and, and_true, and_self, false_and, and_false, true_or, or_true, false_or, or_false, f_X7_next_138, b_X7_next_138, S1.k105, l1, v3, v2, ka]
    · rw [rn_f (fun z => c z.2)]
      have e : ¬ kA tp n q = kd := fun z => c ((hp q (by omega)).mp z)
      generalize sI h (x + 105) 4 (nI q) = g at *
      simp (disch := omega) only [nm, bd_s, ko_K, ka_K, koK_t, kaK_t, kr_s, kn_s, kn_n, hK_sI, hR_sI, hK_sL, hR_sL, hI_sL, hL_sI, hL_sL, hI_sI, hN_sI, hN_sL, ch_G, ch_T, nb_0, nb_1, zb_G, d_T, d_F, d_eT, d_eF, b2i_t, b2i_f, tn_nI, fa_lit, fa_litL, m1_e, nI_add, pk_mul, pk_sub, nI_leI, nI_ltI, nI_eq, le_T, le_F, lt_T, lt_F, eq_T, eq_F, if_pos, if_neg, m1_le, m1_lt', m1_gt, m1_le', m1_eq, m1_qe, b2i_eq0, in_N, in_n, in_I, ↓reduceIte, Bool.true_eq_false, Bool.false_eq_true, reduceCtorEq, decide_eq_true_eq, decide_eq_false_iff_not, Nat.not_lt, Nat.not_le, not_true_eq_false, not_false_eq_true, true_and, and_true, and_self, false_and, and_false, true_or, or_true, false_or, or_false, f_X7_next_138, b_X7_next_138, S1.k105, l1, v3, v2, ka]
end Sn
