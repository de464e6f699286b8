/-! THE TEXTS: the reference's numbers -/
section Rn2
variable {h : aH} {x n : Nat} {tp : Nat → Nat} {σ : tyT}
def nuH (h : aH) (x e s : Nat) : aH := sI (sI (sI h (x + 107) 2 (nI e)) (x + 107) 4 (nI e)) (x + 107) 10 (nI s)
def flH (h : aH) (x k p : Nat) : aH := sI (sI h (x + 107) 5 (nI k)) (x + 107) 6 (nI p)
theorem RA.nd (T : RA h x tp n σ) (z : isN tp n σ = true) : RT (nuH h x (rn isD tp n σ.1) σ.1) x tp n (nD tp n σ) := by
  obtain ⟨q1, q2, q3⟩ := isN_t z
  have rl := rn_le (p := isD) (tp := tp) (n := n) (q := σ.1) (by omega)
  refine ⟨((T.1.s (by omega) _).s (by omega) _).s (by omega) _, (nD_ok z).1, ?_, rn isD tp n σ.1, ?_, rn_ge _, rfl, ?_⟩
  · unfold nuH; rw [hI_sI, if_neg (by omega), hI_sI, if_neg (by omega), hI_sI, if_neg (by omega)]; exact T.2.2.1
  · unfold nuH; rw [hI_sI, if_neg (by omega), hI_sI, if_neg (by omega), hI_sI, if_pos ⟨rfl, rfl⟩]
  · refine ⟨by unfold nuH; rw [hI_sI, if_neg (by omega), hI_sI, if_neg (by omega), hI_sI, if_neg (by omega)]; exact T.2.2.2.2.1, ?_⟩
    have v4 : hI (nuH h x (rn isD tp n σ.1) σ.1) (x + 107) 4 = nI (rn isD tp n σ.1) := by unfold nuH; rw [hI_sI, if_neg (by omega), hI_sI, if_pos ⟨rfl, rfl⟩]
    by_cases c : sk tp n (rn isD tp n σ.1) = rn isD tp n σ.1
    · refine Or.inl ⟨decide_eq_true c, ?_⟩
      rw [v4]; show _ = nI (sk tp n (rn isD tp n σ.1)); rw [c]
    · exact Or.inr ⟨decide_eq_false c, Or.inr ⟨_, v4, Nat.le_refl _, fun y => c y.symm⟩⟩
theorem qx_nu {e s : Nat} : QX x h (nuH h x e s) := ((qx_s (by unfold QC; omega)).trans (qx_s (by unfold QC; omega))).trans (qx_s (by unfold QC; omega))
theorem qx_fl {k p : Nat} : QX x h (flH h x k p) := (qx_s (by unfold QC; omega)).trans (qx_s (by unfold QC; omega))
theorem fl_5 {k p : Nat} : hI (flH h x k p) (x + 107) 5 = nI k ∧ hI (flH h x k p) (x + 107) 6 = nI p := by
  unfold flH
  exact ⟨by rw [hI_sI, if_neg (by omega), hI_sI, if_pos ⟨rfl, rfl⟩], by rw [hI_sI, if_pos ⟨rfl, rfl⟩]⟩
def NX (x : Nat) (h h1 : aH) : Prop := ∀ b j, ¬ (b = x + 107 ∧ j ≤ 10) → hI h1 b j = hI h b j
theorem nx_s {i : Nat} {v : Int32} (hi : i ≤ 10) : NX x h (sI h (x + 107) i v) := fun b j z => by rw [hI_sI, if_neg (by omega)]
theorem NX.trans {h1 h2 : aH} (p : NX x h h1) (q : NX x h1 h2) : NX x h h2 := fun b j z => (q b j z).trans (p b j z)
theorem nx_fl {k p : Nat} : NX x h (flH h x k p) := (nx_s (by omega)).trans (nx_s (by omega))
theorem nx_nu {e s : Nat} : NX x h (nuH h x e s) := ((nx_s (by omega)).trans (nx_s (by omega))).trans (nx_s (by omega))
theorem m_num (T : RA h x tp n σ) (tb : ∀ j, tp j ≤ 255) (hn : n ≤ 1600) {lo hi : Nat} (hlo : lo ≤ 99999) (hhi : hi ≤ 99999) : (isN tp n σ = true ∧ rn isD tp n σ.1 - σ.1 ≤ 4 ∧ lo ≤ nv tp n σ ∧ nv tp n σ ≤ hi ∧ f_X12_number (x + 107) (nI lo) (nI hi) h = some (nI (nv tp n σ), nuH h x (rn isD tp n σ.1) σ.1)) ∨ (∃ k p v h1, f_X12_number (x + 107) (nI lo) (nI hi) h = some (nI v, h1) ∧ v ≤ 9999 ∧ hI h1 (x + 107) 5 = nI k ∧ hI h1 (x + 107) 6 = nI p ∧ QX x h h1 ∧ NX x h h1 ∧ (isN tp n σ = true ∧ rn isD tp n σ.1 - σ.1 ≤ 4 ∧ ¬ (lo ≤ nv tp n σ ∧ nv tp n σ ≤ hi) ∧ k = 2 ∧ p = σ.1 ∨ isN tp n σ = true ∧ ¬ rn isD tp n σ.1 - σ.1 ≤ 4 ∧ k = 1 ∧ p = σ.1 + 4 ∨ isN tp n σ = false ∧ k = 1 ∧ p = σ.1)) := by
  have S := T.1.1
  have bad := T.2.2.1
  have v2 := T.2.2.2.1
  have sn := T.2.1.1
  have lk := m_lookA T tb hn
  have eq := ED.eq T hn
  have vl := nv_le (tp := tp) (n := n) (σ := σ)
  have st : f_X12_number (x + 107) (nI lo) (nI hi) h = (if isN tp n σ = true then f_X12_number_49 FU (x + 107) (nI lo) (nI hi) (nI σ.1) (nI 0) h else f_X12_number_30 (x + 107) h) := by
    unfold f_X12_number
    rw [ko_t S.k, bad, if_pos (show nI 0 = (0 : Int32) from rfl), bd_t lk]
    unfold isN
    by_cases c1 : σ.1 < n
    · rw [show btT tp n σ = nI (tp σ.1) from if_pos c1, bd_t (m_digit (tb _))]
      by_cases c2 : isD (tp σ.1) = true
      · rw [c2, if_neg (show ¬ b2i true = (0 : Int32) by decide), ko_t S.k]
        by_cases c3 : σ.2 = true
        · rw [if_pos (by rw [eq]; exact c3), c3]; simp
        · rw [if_neg (by rw [eq]; exact c3), v2]
          rw [if_pos (by simp [c1]; simpa using c3)]
          rfl
      · rw [show isD (tp σ.1) = false by cases y : isD (tp σ.1) with | false => rfl | true => exact absurd y c2, if_pos (show b2i false = (0 : Int32) by decide)]; simp
    · rw [show btT tp n σ = -nI 1 from if_neg c1]
      have le : f_X12_isDigit (-nI 1) h = some (nI 0, h) := by simp (disch := omega) only [nm, bd_s, ko_K, ka_K, koK_t, kaK_t, kr_s, kn_s, kn_n, hK_sI, hR_sI, hK_sL, hR_sL, hI_sL, hL_sI, hL_sL, hI_sI, hN_sI, hN_sL, ch_G, ch_T, nb_0, nb_1, zb_G, d_T, d_F, d_eT, d_eF, b2i_t, b2i_f, tn_nI, fa_lit, fa_litL, m1_e, nI_add, pk_mul, pk_sub, nI_leI, nI_ltI, nI_eq, le_T, le_F, lt_T, lt_F, eq_T, eq_F, if_pos, if_neg, m1_le, m1_lt', m1_gt, m1_le', m1_eq, m1_qe, b2i_eq0, in_N, in_n, in_I, ↓reduceIte, Bool.true_eq_false, Bool.false_eq_true, reduceCtorEq, decide_eq_true_eq, decide_eq_false_iff_not, Nat.not_lt, Nat.not_le, not_true_eq_false, not_false_eq_true, true_and, and_true, and_self, false_and, and_false, true_or, or_true, false_or, or_false, f_X12_isDigit_17, f_X12_isDigit_16, f_X12_isDigit]
      rw [bd_t le, if_pos (show nI 0 = (0 : Int32) from rfl)]; simp [c1]
  rw [st]
  by_cases z : isN tp n σ = true
  · rw [if_pos z]
    obtain ⟨q1, q2, q3⟩ := isN_t z
    have rg := rn_ge (p := isD) (tp := tp) (n := n) σ.1
    have rl := rn_le (p := isD) (tp := tp) (n := n) (q := σ.1) (by omega)
    have re := rn_end (p := isD) (tp := tp) (n := n) σ.1
    have inD : ∀ j, σ.1 ≤ j → j < rn isD tp n σ.1 → isD (tp j) = true := fun j h1 h2 => rn_in h1 h2
    have nvd : nv tp n σ = nvF tp (min 4 (rn isD tp n σ.1 - σ.1)) σ.1 0 := rfl
    rw [nvd] at vl ⊢
    generalize rn isD tp n σ.1 = e at *
    -- digits are read
    have L : ∀ (d q k v : Nat), q + d = σ.1 + min 4 (e - σ.1) → σ.1 ≤ q → d + 1 < k → v < 10 ^ (q - σ.1) → f_X12_number_49 k (x + 107) (nI lo) (nI hi) (nI σ.1) (nI v) (sI h (x + 107) 2 (nI q)) = f_X12_number_49 (k - d) (x + 107) (nI lo) (nI hi) (nI σ.1) (nI (nvF tp d q v)) (sI h (x + 107) 2 (nI (q + d))) := by
      intro d
      induction d with
      | zero => intro q k v _ _ _ _; rfl
      | succ d ih =>
        intro q k v hq hs hk hv
        obtain ⟨k, rfl⟩ : ∃ m, k = m + 1 := ⟨k - 1, by omega⟩
        have dd := inD q hs (by omega)
        have dg := m_digit (h := sI h (x + 107) 2 (nI q)) (tb q)
        rw [dd, b2i_t] at dg
        unfold isD at dd
        simp only [Bool.and_eq_true, decide_eq_true_eq] at dd
        have T1 := T.1.s (i := 2) (by omega) (nI q)
        have S1 := T1.1
        have l1 := T1.2.2.2
        have b := T1.2.1 q (by omega)
        have u2 : hI (sI h (x + 107) 2 (nI q)) (x + 107) 2 = nI q := by rw [hI_sI, if_pos ⟨rfl, rfl⟩]
        have p4 : 10 ^ (q - σ.1) ≤ 10 ^ 3 := Nat.pow_le_pow_right (by omega) (by omega)
        have nx := ih (q + 1) k (10 * v + (tp q - 48)) (by omega) (by omega) (by omega) (by
          rw [show q + 1 - σ.1 = (q - σ.1) + 1 by omega, Nat.pow_succ]; omega)
        rw [show k + 1 - (d + 1) = k - d by omega, show q + (d + 1) = q + 1 + d by omega]
        show _ = f_X12_number_49 (k - d) (x + 107) (nI lo) (nI hi) (nI σ.1) (nI (nvF tp d (q + 1) (10 * v + (tp q - 48)))) _
        rw [← nx]
        have ss := sI_sI h (x + 107) 2 (nI q) (nI (q + 1))
        rw [← ss]
        have e1 : 10 * v + tp q - 48 = 10 * v + (tp q - 48) := by omega
        have e4 : ¬ q - σ.1 = 4 := by omega
        clear ih nx inD nvd st
        generalize sI h (x + 107) 2 (nI q) = g at *
        simp (disch := omega) only [nm, bd_s, ko_K, ka_K, koK_t, kaK_t, kr_s, kn_s, kn_n, hK_sI, hR_sI, hK_sL, hR_sL, hI_sL, hL_sI, hL_sL, hI_sI, hN_sI, hN_sL, ch_G, ch_T, nb_0, nb_1, zb_G, d_T, d_F, d_eT, d_eF, b2i_t, b2i_f, tn_nI, fa_lit, fa_litL, m1_e, nI_add, pk_mul, pk_sub, nI_leI, nI_ltI, nI_eq, le_T, le_F, lt_T, lt_F, eq_T, eq_F, if_pos, if_neg, m1_le, m1_lt', m1_gt, m1_le', m1_eq, m1_qe, b2i_eq0, in_N, in_n, in_I, ↓reduceIte, Bool.true_eq_false, Bool.false_eq_true, reduceCtorEq, decide_eq_true_eq, decide_eq_false_iff_not, Nat.not_lt, Nat.not_le, not_true_eq_false, not_false_eq_true, true_and, and_true, and_self, false_and, and_false, true_or, or_true, false_or, or_false, f_X12_number_49, b_X12_number_49, ↓nm, ↓ko_t S1.k, S1.k, S1.k0, l1, u2, ↓kr_t S1.r0, ↓ka_t S1.k0, b, dg, e1, e4]
    have L0 := L (min 4 (e - σ.1)) σ.1 FU 0 rfl (Nat.le_refl _) (by unfold FU; omega) (by simp)
    rw [sI_id v2] at L0
    rw [L0]
    obtain ⟨k, hk⟩ : ∃ k, FU - min 4 (e - σ.1) = k + 1 := ⟨FU - min 4 (e - σ.1) - 1, by unfold FU; omega⟩
    rw [hk]
    obtain ⟨q, hq⟩ : ∃ q, q = σ.1 + min 4 (e - σ.1) := ⟨_, rfl⟩
    rw [← hq]
    have T1 := T.1.s (i := 2) (by omega) (nI q)
    have S1 := T1.1
    have l1 := T1.2.2.2
    have u2 : hI (sI h (x + 107) 2 (nI q)) (x + 107) 2 = nI q := by rw [hI_sI, if_pos ⟨rfl, rfl⟩]
    have u5 : hI (sI h (x + 107) 2 (nI q)) (x + 107) 5 = nI 0 := by rw [hI_sI, if_neg (by omega)]; exact bad
    generalize nvF tp (min 4 (e - σ.1)) σ.1 0 = V at *
    by_cases c4 : e - σ.1 ≤ 4
    · have qe : q = e := by omega
      rw [qe] at u2 u5 S1 l1 T1 ⊢
      have to129 : f_X12_number_49 (k + 1) (x + 107) (nI lo) (nI hi) (nI σ.1) (nI V) (sI h (x + 107) 2 (nI e)) = f_X12_number_129 (x + 107) (nI lo) (nI hi) (nI σ.1) (nI V) (sI h (x + 107) 2 (nI e)) := by
        by_cases ce : e < n
        · have nd : ¬ isD (tp e) = true := fun y => re ⟨ce, y⟩
          have dg := m_digit (h := sI h (x + 107) 2 (nI e)) (tb e)
          rw [show isD (tp e) = false by cases y : isD (tp e) with | false => rfl | true => exact absurd y nd, b2i_f] at dg
          have b := T1.2.1 e (by omega)
          clear L L0 inD nvd st
          generalize sI h (x + 107) 2 (nI e) = g at *
          simp (disch := omega) only [nm, bd_s, ko_K, ka_K, koK_t, kaK_t, kr_s, kn_s, kn_n, hK_sI, hR_sI, hK_sL, hR_sL, hI_sL, hL_sI, hL_sL, hI_sI, hN_sI, hN_sL, ch_G, ch_T, nb_0, nb_1, zb_G, d_T, d_F, d_eT, d_eF, b2i_t, b2i_f, tn_nI, fa_lit, fa_litL, m1_e, nI_add, pk_mul, pk_sub, nI_leI, nI_ltI, nI_eq, le_T, le_F, lt_T, lt_F, eq_T, eq_F, if_pos, if_neg, m1_le, m1_lt', m1_gt, m1_le', m1_eq, m1_qe, b2i_eq0, in_N, in_n, in_I, ↓reduceIte, Bool.true_eq_false, Bool.false_eq_true, reduceCtorEq, decide_eq_true_eq, decide_eq_false_iff_not, Nat.not_lt, Nat.not_le, not_true_eq_false, not_false_eq_true, true_and, and_true, and_self, false_and, and_false, true_or, or_true, false_or, or_false, f_X12_number_49, b_X12_number_49, ↓nm, ↓ko_t S1.k, S1.k, S1.k0, l1, u2, ↓kr_t S1.r0, ↓ka_t S1.k0, b, dg]
        · generalize sI h (x + 107) 2 (nI e) = g at *
          simp (disch := omega) only [nm, bd_s, ko_K, ka_K, koK_t, kaK_t, kr_s, kn_s, kn_n, hK_sI, hR_sI, hK_sL, hR_sL, hI_sL, hL_sI, hL_sL, hI_sI, hN_sI, hN_sL, ch_G, ch_T, nb_0, nb_1, zb_G, d_T, d_F, d_eT, d_eF, b2i_t, b2i_f, tn_nI, fa_lit, fa_litL, m1_e, nI_add, pk_mul, pk_sub, nI_leI, nI_ltI, nI_eq, le_T, le_F, lt_T, lt_F, eq_T, eq_F, if_pos, if_neg, m1_le, m1_lt', m1_gt, m1_le', m1_eq, m1_qe, b2i_eq0, in_N, in_n, in_I, ↓reduceIte, Bool.true_eq_false, Bool.false_eq_true, reduceCtorEq, decide_eq_true_eq, decide_eq_false_iff_not, Nat.not_lt, Nat.not_le, not_true_eq_false, not_false_eq_true, true_and, and_true, and_self, false_and, and_false, true_or, or_true, false_or, or_false, f_X12_number_49, b_X12_number_49, ↓ko_t S1.k, l1, u2]
      rw [to129]
      have nu : sI (sI (sI h (x + 107) 2 (nI e)) (x + 107) 4 (nI e)) (x + 107) 10 (nI σ.1) = nuH h x e σ.1 := rfl
      have N1 : MS (nuH h x e σ.1) (x + 107) := S.of rfl rfl
      have n10 : hI (nuH h x e σ.1) (x + 107) 10 = nI σ.1 := by unfold nuH; rw [hI_sI, if_pos ⟨rfl, rfl⟩]
      have n5 : hI (nuH h x e σ.1) (x + 107) 5 = nI 0 := by unfold nuH; rw [hI_sI, if_neg (by omega), hI_sI, if_neg (by omega), hI_sI, if_neg (by omega)]; exact bad
      have fa := m_fail N1 n5 2 σ.1
      have ii : f_X12_isIn (nI V).toInt64 (nI lo).toInt64 (nI hi).toInt64 (nuH h x e σ.1) = some (b2i (decide (lo ≤ V ∧ V ≤ hi)), nuH h x e σ.1) := by
        rw [nI_l (n := lo) (by omega)]; exact in_I (by omega) (by omega) (by omega)
      by_cases cl : lo ≤ V ∧ V ≤ hi
      · left
        refine ⟨z, c4, cl.1, cl.2, ?_⟩
        rw [decide_eq_true cl, b2i_t] at ii
        clear L L0 inD nvd st
        generalize nuH h x e σ.1 = N at *
        generalize sI h (x + 107) 2 (nI e) = g at *
        simp (disch := omega) only [nm, bd_s, ko_K, ka_K, koK_t, kaK_t, kr_s, kn_s, kn_n, hK_sI, hR_sI, hK_sL, hR_sL, hI_sL, hL_sI, hL_sL, hI_sI, hN_sI, hN_sL, ch_G, ch_T, nb_0, nb_1, zb_G, d_T, d_F, d_eT, d_eF, b2i_t, b2i_f, tn_nI, fa_lit, fa_litL, m1_e, nI_add, pk_mul, pk_sub, nI_leI, nI_ltI, nI_eq, le_T, le_F, lt_T, lt_F, eq_T, eq_F, if_pos, if_neg, m1_le, m1_lt', m1_gt, m1_le', m1_eq, m1_qe, b2i_eq0, in_N, in_n, in_I, ↓reduceIte, Bool.true_eq_false, Bool.false_eq_true, reduceCtorEq, decide_eq_true_eq, decide_eq_false_iff_not, Nat.not_lt, Nat.not_le, not_true_eq_false, not_false_eq_true, true_and, and_true, and_self, false_and, and_false, true_or, or_true, false_or, or_false, f_X12_number_129, f_X12_number_164, S1.k, u2, nu, ii]
      · right
        refine ⟨2, σ.1, V, flH (nuH h x e σ.1) x 2 σ.1, ?_, vl, fl_5.1, fl_5.2, qx_nu.trans qx_fl, nx_nu.trans nx_fl, Or.inl ⟨z, c4, cl, rfl, rfl⟩⟩
        rw [decide_eq_false cl, b2i_f] at ii
        unfold flH
        clear L L0 inD nvd st
        generalize nuH h x e σ.1 = N at *
        generalize sI h (x + 107) 2 (nI e) = g at *
        simp (disch := omega) only [nm, bd_s, ko_K, ka_K, koK_t, kaK_t, kr_s, kn_s, kn_n, hK_sI, hR_sI, hK_sL, hR_sL, hI_sL, hL_sI, hL_sL, hI_sI, hN_sI, hN_sL, ch_G, ch_T, nb_0, nb_1, zb_G, d_T, d_F, d_eT, d_eF, b2i_t, b2i_f, tn_nI, fa_lit, fa_litL, m1_e, nI_add, pk_mul, pk_sub, nI_leI, nI_ltI, nI_eq, le_T, le_F, lt_T, lt_F, eq_T, eq_F, if_pos, if_neg, m1_le, m1_lt', m1_gt, m1_le', m1_eq, m1_qe, b2i_eq0, in_N, in_n, in_I, ↓reduceIte, Bool.true_eq_false, Bool.false_eq_true, reduceCtorEq, decide_eq_true_eq, decide_eq_false_iff_not, Nat.not_lt, Nat.not_le, not_true_eq_false, not_false_eq_true, true_and, and_true, and_self, false_and, and_false, true_or, or_true, false_or, or_false, f_X12_number_129, f_X12_number_164, S1.k, u2, nu, ii, N1.k, n10, fa]
    · right
      have qe : q = σ.1 + 4 := by omega
      have dd := inD q (by omega) (by omega)
      have dg := m_digit (h := sI h (x + 107) 2 (nI q)) (tb q)
      rw [dd, b2i_t] at dg
      have b := T1.2.1 q (by omega)
      have fa := m_fail S1 u5 1 q
      refine ⟨1, σ.1 + 4, 0, flH (sI h (x + 107) 2 (nI q)) x 1 q, ?_, by omega, fl_5.1, by rw [fl_5.2, qe], (qx_s (by unfold QC; omega)).trans qx_fl, (nx_s (by omega)).trans nx_fl, Or.inr (Or.inl ⟨z, c4, rfl, rfl⟩)⟩
      have e4 : q - σ.1 = 4 := by omega
      unfold flH
      clear L L0 inD nvd st
      generalize sI h (x + 107) 2 (nI q) = g at *
      simp (disch := omega) only [nm, bd_s, ko_K, ka_K, koK_t, kaK_t, kr_s, kn_s, kn_n, hK_sI, hR_sI, hK_sL, hR_sL, hI_sL, hL_sI, hL_sL, hI_sI, hN_sI, hN_sL, ch_G, ch_T, nb_0, nb_1, zb_G, d_T, d_F, d_eT, d_eF, b2i_t, b2i_f, tn_nI, fa_lit, fa_litL, m1_e, nI_add, pk_mul, pk_sub, nI_leI, nI_ltI, nI_eq, le_T, le_F, lt_T, lt_F, eq_T, eq_F, if_pos, if_neg, m1_le, m1_lt', m1_gt, m1_le', m1_eq, m1_qe, b2i_eq0, in_N, in_n, in_I, ↓reduceIte, Bool.true_eq_false, Bool.false_eq_true, reduceCtorEq, decide_eq_true_eq, decide_eq_false_iff_not, Nat.not_lt, Nat.not_le, not_true_eq_false, not_false_eq_true, true_and, and_true, and_self, false_and, and_false, true_or, or_true, false_or, or_false, f_X12_number_49, b_X12_number_49, ↓nm, ↓ko_t S1.k, S1.k, S1.k0, l1, u2, ↓kr_t S1.r0, ↓ka_t S1.k0, b, dg, e4, fa]
  · rw [if_neg z]
    right
    have fa := m_fail S bad 1 σ.1
    refine ⟨1, σ.1, 0, flH h x 1 σ.1, ?_, by omega, fl_5.1, fl_5.2, qx_fl, nx_fl, Or.inr (Or.inr ⟨by cases y : isN tp n σ with | false => rfl | true => exact absurd y z, rfl, rfl⟩)⟩
    unfold flH
    simp (disch := omega) only [nm, bd_s, ko_K, ka_K, koK_t, kaK_t, kr_s, kn_s, kn_n, hK_sI, hR_sI, hK_sL, hR_sL, hI_sL, hL_sI, hL_sL, hI_sI, hN_sI, hN_sL, ch_G, ch_T, nb_0, nb_1, zb_G, d_T, d_F, d_eT, d_eF, b2i_t, b2i_f, tn_nI, fa_lit, fa_litL, m1_e, nI_add, pk_mul, pk_sub, nI_leI, nI_ltI, nI_eq, le_T, le_F, lt_T, lt_F, eq_T, eq_F, if_pos, if_neg, m1_le, m1_lt', m1_gt, m1_le', m1_eq, m1_qe, b2i_eq0, in_N, in_n, in_I, ↓reduceIte, Bool.true_eq_false, Bool.false_eq_true, reduceCtorEq, decide_eq_true_eq, decide_eq_false_iff_not, Nat.not_lt, Nat.not_le, not_true_eq_false, not_false_eq_true, true_and, and_true, and_self, false_and, and_false, true_or, or_true, false_or, or_false, f_X12_number_30, S.k, v2, fa]
end Rn2
