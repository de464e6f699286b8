/-! THE TEXTS: the class's formulas, sums and products -/
section Lp2
variable {x a n w u f o : Nat} {tp : Nat → Nat} {c : List Nat}
theorem sgV {h : aH} {c : List Nat} {σ : tyT} (T : ST h x a tp n w u c σ) {s : Nat} (z : isS tp n σ s = true) (hL : isL s = false) (hD : isD s = false) : hI h (x + 105) 5 = nI s := by
  obtain ⟨q1, q2⟩ := isS_t z
  have y1 : ¬ isL (tp σ.1) = true := by rw [q2, hL]; decide
  have y2 : ¬ isD (tp σ.1) = true := by rw [q2, hD]; decide
  rw [T.1.2.2.2.2]
  unfold tkV
  rw [if_pos q1, if_neg y1, if_neg y2, q2]
theorem wdV {h : aH} {c : List Nat} {σ : tyT} (T : ST h x a tp n w u c σ) {i : Nat} (hi : i < 31) (z : isW tp n σ i = true) : hI h (x + 105) 5 = nI i ∧ hI h (x + 105) 2 = nI 1 := by
  obtain ⟨q1, q2, q3, q4⟩ := isW_t z
  refine ⟨?_, ?_⟩
  · rw [T.1.2.2.2.2]
    unfold tkV
    rw [if_pos q1, if_pos q2, (wv_iff hi).mpr q4]
    rfl
  · rw [T.1.2.1]
    unfold tkK
    rw [if_pos q1, if_pos q2, q3, if_neg (by decide)]
theorem lp_sum (I : IHP tp n w x a u f) (tb : ∀ j, tp j ≤ 255) (hn : n ≤ 1600) (ho : o ≤ 6) (hf : hgt 4 + 8 * (6 - o) < f) : ∀ (m i k : Nat) (c1 : List Nat) (σ : tyT) (h : aH), i + m = 1600 → m < k → ST h x a tp n w u (c ++ c1) σ → RP tp n w x a u h c (f_X5_sum_12 (f_P f) k (x + 104) (nI o) (nI i) h) (pSL tp n (pD tp n w f) o m c1 σ) := by
  intro m
  induction m with
  | zero =>
    intro i k c1 σ h hi hk T
    obtain ⟨k, rfl⟩ : ∃ j, k = j + 1 := ⟨k - 1, by omega⟩
    have hi : i = 1600 := by omega
    subst hi
    have e : f_X5_sum_12 (f_P f) (k + 1) (x + 104) (nI o) (nI 1600) h = some (nI 1, h) := by simp (disch := omega) only [nm, bd_s, ko_K, ka_K, koK_t, kaK_t, kr_s, kn_s, kn_n, hK_sI, hR_sI, hK_sL, hR_sL, hI_sL, hL_sI, hL_sL, hI_sI, hN_sI, hN_sL, ch_G, ch_T, nb_0, nb_1, zb_G, d_T, d_F, d_eT, d_eF, b2i_t, b2i_f, tn_nI, fa_lit, fa_litL, m1_e, nI_add, pk_mul, pk_sub, nI_leI, nI_ltI, nI_eq, le_T, le_F, lt_T, lt_F, eq_T, eq_F, if_pos, if_neg, m1_le, m1_lt', m1_gt, m1_le', m1_eq, m1_qe, b2i_eq0, in_N, in_n, in_I, ↓reduceIte, Bool.true_eq_false, Bool.false_eq_true, reduceCtorEq, decide_eq_true_eq, decide_eq_false_iff_not, Nat.not_lt, Nat.not_le, not_true_eq_false, not_false_eq_true, true_and, and_true, and_self, false_and, and_false, true_or, or_true, false_or, or_false, f_X5_sum_12, b_X5_sum_12, f_X5_sum_82]
    rw [e]
    exact rp_ok T
  | succ m ih =>
    intro i k c1 σ h hi hk T
    obtain ⟨k, rfl⟩ : ∃ j, k = j + 1 := ⟨k - 1, by omega⟩
    have S := T.S
    have le := T.2.2.2.2.2.2
    have go : ∀ (s q : Nat), isS tp n σ s = true → isL s = false → isD s = false → -1 - nI s = ccI q → RP tp n w x a u h c (f_X5_sum_43 (f_P f) (f_X5_sum_12 (f_P f) k) (x + 104) (nI o) (nI i) h) (bR (pD tp n w f 4 o (nS tp n σ)) fun c2 σ2 => pSL tp n (pD tp n w f) o m (c1 ++ c2 ++ [q]) σ2) := by
      intro s q z hL hD hv
      have v5 : hI h (x + 105) 5 = nI s := sgV T z hL hD
      obtain ⟨h1, e1, T1, p1⟩ := c_nxS T tb hn hL hD z
      have ws := (nS_ok z).2
      unfold f_X5_sum_43
      rw [ko_t S.k104, kr_t S.r104_2, ko_t S.k105, v5]
      simp only [nm]
      rw [bd_t e1, ko_t T1.S.k104]
      refine rp_pre p1 ?_
      obtain ⟨R, G⟩ := I 4 o (nS tp n σ) h1 (c ++ c1) (by omega) ho (by omega) hf T1
      refine rp_bd (fun _ => rfl) G R (fun h2 c2 σ2 T2 o2 l2 s2 => ?_)
      obtain ⟨h3, e3, T3, p3⟩ := c_addO T2 (q := q) (v := nI s) (by simp at le ⊢; omega) hn hv
      rw [ko_t T2.S.k104, kr_t T2.2.2.1, ko_t T2.A.k, bd_t e3]
      rw [ap3] at T3
      have := ih (i + 1) k (c1 ++ c2 ++ [q]) σ2 h3 (by omega) (by omega) T3
      rw [show nI i + 1 = nI (i + 1) from nI_add i 1]
      exact rp_pre p3 this
    show RP tp n w x a u h c (b_X5_sum_12 (f_P f) (f_X5_sum_12 (f_P f) k) (x + 104) (nI o) (nI i) h) _
    unfold b_X5_sum_12
    rw [if_neg (show ¬ (1600 : Int32) ≤ nI i from nI_ge (b := 1600) (by omega) (by omega)), ko_t S.k104, kr_t S.r104_2, ko_t S.k105, bd_t (show f_X7_isSign (x + 105) 43 h = _ from c_isS T.1 tb (q := 43) rfl rfl (by omega))]
    unfold pSL
    by_cases z : isS tp n σ 43 = true
    · rw [if_pos z, if_neg (b2i_nt z)]
      exact go 43 1 z rfl rfl (by decide)
    · rw [if_neg z, if_pos (b2i_nf z), ko_t S.k104, kr_t S.r104_2, ko_t S.k105, bd_t (show f_X7_isSign (x + 105) 45 h = _ from c_isS T.1 tb (q := 45) rfl rfl (by omega))]
      by_cases z2 : isS tp n σ 45 = true
      · rw [if_pos z2, if_neg (b2i_nt z2)]
        exact go 45 2 z2 rfl rfl (by decide)
      · rw [if_neg z2, if_pos (b2i_nf z2)]
        exact rp_ok T
theorem lp_prod (I : IHP tp n w x a u f) (tb : ∀ j, tp j ≤ 255) (hn : n ≤ 1600) (ho : o ≤ 6) (hf : hgt 5 + 8 * (6 - o) < f) : ∀ (m i k : Nat) (c1 : List Nat) (σ : tyT) (h : aH), i + m = 1600 → m < k → ST h x a tp n w u (c ++ c1) σ → RP tp n w x a u h c (f_X5_product_12 (f_P f) k (x + 104) (nI o) (nI i) h) (pML tp n (pD tp n w f) o m c1 σ) := by
  intro m
  induction m with
  | zero =>
    intro i k c1 σ h hi hk T
    obtain ⟨k, rfl⟩ : ∃ j, k = j + 1 := ⟨k - 1, by omega⟩
    have hi : i = 1600 := by omega
    subst hi
    have e : f_X5_product_12 (f_P f) (k + 1) (x + 104) (nI o) (nI 1600) h = some (nI 1, h) := by simp (disch := omega) only [nm, bd_s, ko_K, ka_K, koK_t, kaK_t, kr_s, kn_s, kn_n, hK_sI, hR_sI, hK_sL, hR_sL, hI_sL, hL_sI, hL_sL, hI_sI, hN_sI, hN_sL, ch_G, ch_T, nb_0, nb_1, zb_G, d_T, d_F, d_eT, d_eF, b2i_t, b2i_f, tn_nI, fa_lit, fa_litL, m1_e, nI_add, pk_mul, pk_sub, nI_leI, nI_ltI, nI_eq, le_T, le_F, lt_T, lt_F, eq_T, eq_F, if_pos, if_neg, m1_le, m1_lt', m1_gt, m1_le', m1_eq, m1_qe, b2i_eq0, in_N, in_n, in_I, ↓reduceIte, Bool.true_eq_false, Bool.false_eq_true, reduceCtorEq, decide_eq_true_eq, decide_eq_false_iff_not, Nat.not_lt, Nat.not_le, not_true_eq_false, not_false_eq_true, true_and, and_true, and_self, false_and, and_false, true_or, or_true, false_or, or_false, f_X5_product_12, b_X5_product_12, f_X5_product_82]
    rw [e]
    exact rp_ok T
  | succ m ih =>
    intro i k c1 σ h hi hk T
    obtain ⟨k, rfl⟩ : ∃ j, k = j + 1 := ⟨k - 1, by omega⟩
    have S := T.S
    have le := T.2.2.2.2.2.2
    have go : ∀ (s q : Nat), isS tp n σ s = true → isL s = false → isD s = false → -1 - nI s = ccI q → RP tp n w x a u h c (f_X5_product_43 (f_P f) (f_X5_product_12 (f_P f) k) (x + 104) (nI o) (nI i) h) (bR (pD tp n w f 5 o (nS tp n σ)) fun c2 σ2 => pML tp n (pD tp n w f) o m (c1 ++ c2 ++ [q]) σ2) := by
      intro s q z hL hD hv
      have v5 : hI h (x + 105) 5 = nI s := sgV T z hL hD
      obtain ⟨h1, e1, T1, p1⟩ := c_nxS T tb hn hL hD z
      have ws := (nS_ok z).2
      unfold f_X5_product_43
      rw [ko_t S.k104, kr_t S.r104_2, ko_t S.k105, v5]
      simp only [nm]
      rw [bd_t e1, ko_t T1.S.k104]
      refine rp_pre p1 ?_
      obtain ⟨R, G⟩ := I 5 o (nS tp n σ) h1 (c ++ c1) (by omega) ho (by omega) hf T1
      refine rp_bd (fun _ => rfl) G R (fun h2 c2 σ2 T2 o2 l2 s2 => ?_)
      obtain ⟨h3, e3, T3, p3⟩ := c_addO T2 (q := q) (v := nI s) (by simp at le ⊢; omega) hn hv
      rw [ko_t T2.S.k104, kr_t T2.2.2.1, ko_t T2.A.k, bd_t e3]
      rw [ap3] at T3
      have := ih (i + 1) k (c1 ++ c2 ++ [q]) σ2 h3 (by omega) (by omega) T3
      rw [show nI i + 1 = nI (i + 1) from nI_add i 1]
      exact rp_pre p3 this
    show RP tp n w x a u h c (b_X5_product_12 (f_P f) (f_X5_product_12 (f_P f) k) (x + 104) (nI o) (nI i) h) _
    unfold b_X5_product_12
    rw [if_neg (show ¬ (1600 : Int32) ≤ nI i from nI_ge (b := 1600) (by omega) (by omega)), ko_t S.k104, kr_t S.r104_2, ko_t S.k105, bd_t (show f_X7_isSign (x + 105) 42 h = _ from c_isS T.1 tb (q := 42) rfl rfl (by omega))]
    unfold pML
    by_cases z : isS tp n σ 42 = true
    · rw [if_pos z, if_neg (b2i_nt z)]
      exact go 42 3 z rfl rfl (by decide)
    · rw [if_neg z, if_pos (b2i_nf z), ko_t S.k104, kr_t S.r104_2, ko_t S.k105, bd_t (show f_X7_isSign (x + 105) 47 h = _ from c_isS T.1 tb (q := 47) rfl rfl (by omega))]
      by_cases z2 : isS tp n σ 47 = true
      · rw [if_pos z2, if_neg (b2i_nt z2)]
        exact go 47 4 z2 rfl rfl (by decide)
      · rw [if_neg z2, if_pos (b2i_nf z2)]
        exact rp_ok T
end Lp2
