/-! names as numbers -/
theorem nmL_c (l : List Nat) (c : Nat) : nmL (l ++ [c]) = 27 * nmL l + c := by unfold nmL; rw [List.foldl_append]; rfl
theorem nmL_lt : ∀ (n : Nat) (l : List Nat), l.length = n → (∀ c ∈ l, c ≤ 26) → nmL l < 27 ^ n := by
  intro n
  induction n with
  | zero => intro l hl _; rw [List.length_eq_zero_iff.mp hl]; decide
  | succ n ih =>
    intro l hl hc
    rcases List.eq_nil_or_concat l with rfl | ⟨l', c, rfl⟩
    · cases hl
    · rw [List.concat_eq_append] at hl hc ⊢
      have h1 := ih l' (by simpa using hl) (fun c hc' => hc c (by simp [hc']))
      have h2 := hc c (by simp)
      rw [nmL_c, Nat.pow_succ]
      omega
theorem p27 {n : Nat} (h : n ≤ 6) : 27 ^ n ≤ 387420489 := Nat.le_trans (Nat.pow_le_pow_right (by decide) h) (by decide)
section Le
variable {h : aH} {l : List Nat}
/-- how many letters -/
theorem m_let37 (k : Int32) (V : Int64) : ∀ (n : Nat) (l : List Nat) (j fu : Nat), l.length = n → n ≤ 6 → (∀ c ∈ l, 1 ≤ c ∧ c ≤ 26) → n < fu → f_X12_letter_37 fu k V (nI j) (lN (nmL l)) h = f_X12_letter_37 (fu - n) k V (nI (j + n)) (lN 0) h := by
  intro n
  induction n with
  | zero =>
    intro l j fu hl _ _ _
    rw [List.length_eq_zero_iff.mp hl]
    rfl
  | succ n ih =>
    intro l j fu hl h6 hc hf
    rcases List.eq_nil_or_concat l with rfl | ⟨l', c, rfl⟩
    · cases hl
    · rw [List.concat_eq_append] at hl hc ⊢
      have hl' : l'.length = n := by simpa using hl
      have h2 := hc c (by simp)
      have hb := nmL_lt n l' hl' (fun c hc' => (hc c (by simp [hc'])).2)
      have h7 := p27 (show n ≤ 6 by omega)
      obtain ⟨fu, rfl⟩ : ∃ m, fu = m + 1 := ⟨fu - 1, by omega⟩
      have e1 : ¬ lg_cmp (lN (27 * nmL l' + c)) 0 ≤ 0 := by
        rw [lg_cmp_le, show (0 : Int64) = lN 0 from rfl, pk_lLE (by omega) (by omega)]; omega
      have e2 : lN (27 * nmL l' + c) / 27 = lN (nmL l') := by
        rw [show (27 : Int64) = lN 27 from rfl, pk_lDiv (by omega) (by omega) (by omega)]
        congr 1; omega
      rw [nmL_c]
      show b_X12_letter_37 (f_X12_letter_37 fu) k V (nI j) (lN (27 * nmL l' + c)) h = _
      simp only [b_X12_letter_37, if_neg e1, nm, e2, nI_1]
      rw [ih l' (j + 1) fu hl' (by omega) (fun c hc' => hc c (by simp [hc'])) (by omega)]
      rw [show fu + 1 - (n + 1) = fu - n by omega, show j + (n + 1) = j + 1 + n by omega]
theorem m_let72 {k : Nat} (hk : k < l.length) (h6 : l.length ≤ 6) (hc : ∀ c ∈ l, 1 ≤ c ∧ c ≤ 26) : ∀ (d j fu : Nat), j = k + d → j < l.length → d < fu → f_X12_letter_72 fu (nI k) (lN (nmL (l.take (j + 1)))) (nI j) h = some (nI (l.getD k 0), h) := by
  have st : ∀ j, j < l.length → nmL (l.take (j + 1)) = 27 * nmL (l.take j) + l.getD j 0 ∧ l.getD j 0 ≤ 26 ∧ nmL (l.take j) < 387420489 := by
    intro j hj
    have e : l.take (j + 1) = l.take j ++ [l.getD j 0] := by
      rw [List.take_add_one, List.getD_eq_getElem?_getD, List.getElem?_eq_getElem hj]; rfl
    have m1 : l.getD j 0 ∈ l := by rw [List.getD_eq_getElem?_getD, List.getElem?_eq_getElem hj]; exact List.getElem_mem hj
    refine ⟨by rw [e, nmL_c], (hc _ m1).2, ?_⟩
    exact Nat.lt_of_lt_of_le (nmL_lt _ (l.take j) rfl (fun c hc' => (hc c (List.mem_of_mem_take hc')).2)) (p27 (by rw [List.length_take]; omega))
  intro d
  induction d with
  | zero =>
    intro j fu hj hl hf
    obtain ⟨fu, rfl⟩ : ∃ m, fu = m + 1 := ⟨fu - 1, by omega⟩
    have hj : j = k := by omega
    subst hj
    obtain ⟨s1, s2, s3⟩ := st j hl
    show b_X12_letter_72 (f_X12_letter_72 fu) (nI j) (lN (nmL (l.take (j + 1)))) (nI j) h = _
    simp only [b_X12_letter_72, if_pos (Int32.le_refl _)]
    rw [show (27 : Int64) = lN 27 from rfl, pk_lRem (by omega) (by omega) (by omega), lN_i, s1]
    congr 3; omega
  | succ d ih =>
    intro j fu hj hl hf
    obtain ⟨fu, rfl⟩ : ∃ m, fu = m + 1 := ⟨fu - 1, by omega⟩
    obtain ⟨s1, s2, s3⟩ := st j hl
    show b_X12_letter_72 (f_X12_letter_72 fu) (nI k) (lN (nmL (l.take (j + 1)))) (nI j) h = _
    have e1 : ¬ nI j ≤ nI k := nI_ge (by omega) (by omega)
    have e2 : lN (nmL (l.take (j + 1))) / 27 = lN (nmL (l.take j)) := by
      rw [show (27 : Int64) = lN 27 from rfl, pk_lDiv (by omega) (by omega) (by omega), s1]
      congr 1; omega
    obtain ⟨j, rfl⟩ : ∃ i, j = i + 1 := ⟨j - 1, by omega⟩
    simp only [b_X12_letter_72, if_neg e1, nm, e2, pk_m1]
    exact ih j fu (by omega) (by omega) (by omega)
end Le
section Lt
variable {h : aH} {x r tl : Nat} {tp : Nat → Nat} {rf : Nat → Int32} {ft fp : Int32} {sd : Nat} {M mem sh : Nat} {ns : Nat → List Nat} {kd : Nat → Nat} {cd : Nat → List Nat} {N : tyN} {sl : Nat → tyN} {nx c cr : Nat} {rn : Nat} {rw_ : Nat → Nat} {on_ : Nat} {ob : Nat → Nat}
theorem S_letter (C : CX h x (r, tl, tp, rf, ft, fp, sd) (M, mem, sh, ns, kd, cd) N (sl, nx, c, cr) (rn, rw_) (on_, ob)) (Q : CM h (x + 107) (r, tl, tp, rf, ft, fp, sd) (M, mem, sh, ns, kd, cd) N (sl, nx, c, cr) (rn, rw_) (on_, ob)) (O : Ok (r, tl, tp, rf, ft, fp, sd) (M, mem, sh, ns, kd, cd) N (sl, nx, c, cr) (rn, rw_) (on_, ob)) (p w : Int32) : SM Int32 x h (f_X11_letter x p w) (f_X12_letter (x + 107) p w) := by
  have S := C.1
  have T := Q.1
  have s4 := O.sh4
  by_cases hp : ∃ k, k < sh ∧ p = nI k
  · obtain ⟨k, hk, rfl⟩ := hp
    have hr := O.sh1 hk
    obtain ⟨a, ha, h9, A, B⟩ := C.run hr
    have c1 := C.is O hk
    have c2 := Q.is O hk
    obtain ⟨l1, l2, l3⟩ := (O.okb hr).2.2.2.2.2.1 k hk
    rcases pk_ix w (n := 6) (by omega) with hw | hw | ⟨j, hj, rfl⟩
    · refine glue0 C Q O (v := -nI 1) ?_ ?_
      · simp (disch := omega) only [nm, bd_s, ko_K, ka_K, koK_t, kaK_t, kr_s, kn_s, kn_n, hK_sI, hR_sI, hK_sL, hR_sL, hI_sL, hL_sI, hL_sL, hI_sI, hN_sI, hN_sL, ch_G, ch_T, nb_0, nb_1, zb_G, d_T, d_F, d_eT, d_eF, b2i_t, b2i_f, tn_nI, fa_lit, fa_litL, m1_e, nI_add, pk_mul, pk_sub, nI_leI, nI_ltI, nI_eq, le_T, le_F, lt_T, lt_F, eq_T, eq_F, if_pos, if_neg, m1_le, m1_lt', m1_gt, m1_le', m1_eq, m1_qe, b2i_eq0, in_N, in_n, in_I, ↓reduceIte, Bool.true_eq_false, Bool.false_eq_true, reduceCtorEq, decide_eq_true_eq, decide_eq_false_iff_not, Nat.not_lt, Nat.not_le, not_true_eq_false, not_false_eq_true, true_and, and_true, and_self, false_and, and_false, true_or, or_true, false_or, or_false, f_X11_letter_18, f_X11_letter, S.k0, c1, ng_lt' hw, ng_le' hw, ng_le hw, ng_lt hw, ng_eq hw, ng_qe hw, in_g hw, in_gN hw]
      · simp (disch := omega) only [nm, bd_s, ko_K, ka_K, koK_t, kaK_t, kr_s, kn_s, kn_n, hK_sI, hR_sI, hK_sL, hR_sL, hI_sL, hL_sI, hL_sL, hI_sI, hN_sI, hN_sL, ch_G, ch_T, nb_0, nb_1, zb_G, d_T, d_F, d_eT, d_eF, b2i_t, b2i_f, tn_nI, fa_lit, fa_litL, m1_e, nI_add, pk_mul, pk_sub, nI_leI, nI_ltI, nI_eq, le_T, le_F, lt_T, lt_F, eq_T, eq_F, if_pos, if_neg, m1_le, m1_lt', m1_gt, m1_le', m1_eq, m1_qe, b2i_eq0, in_N, in_n, in_I, ↓reduceIte, Bool.true_eq_false, Bool.false_eq_true, reduceCtorEq, decide_eq_true_eq, decide_eq_false_iff_not, Nat.not_lt, Nat.not_le, not_true_eq_false, not_false_eq_true, true_and, and_true, and_self, false_and, and_false, true_or, or_true, false_or, or_false, f_X12_letter, f_X12_letter_20, T.k, c2, ng_lt' hw, ng_le' hw, ng_le hw, ng_lt hw, ng_eq hw, ng_qe hw, in_g hw, in_gN hw]
    · refine glue0 C Q O (v := -nI 1) ?_ ?_
      · simp (disch := omega) only [nm, bd_s, ko_K, ka_K, koK_t, kaK_t, kr_s, kn_s, kn_n, hK_sI, hR_sI, hK_sL, hR_sL, hI_sL, hL_sI, hL_sL, hI_sI, hN_sI, hN_sL, ch_G, ch_T, nb_0, nb_1, zb_G, d_T, d_F, d_eT, d_eF, b2i_t, b2i_f, tn_nI, fa_lit, fa_litL, m1_e, nI_add, pk_mul, pk_sub, nI_leI, nI_ltI, nI_eq, le_T, le_F, lt_T, lt_F, eq_T, eq_F, if_pos, if_neg, m1_le, m1_lt', m1_gt, m1_le', m1_eq, m1_qe, b2i_eq0, in_N, in_n, in_I, ↓reduceIte, Bool.true_eq_false, Bool.false_eq_true, reduceCtorEq, decide_eq_true_eq, decide_eq_false_iff_not, Nat.not_lt, Nat.not_le, not_true_eq_false, not_false_eq_true, true_and, and_true, and_self, false_and, and_false, true_or, or_true, false_or, or_false, f_X11_letter_18, f_X11_letter, S.k0, c1, bg_lt hw]
      · simp (disch := omega) only [nm, bd_s, ko_K, ka_K, koK_t, kaK_t, kr_s, kn_s, kn_n, hK_sI, hR_sI, hK_sL, hR_sL, hI_sL, hL_sI, hL_sL, hI_sI, hN_sI, hN_sL, ch_G, ch_T, nb_0, nb_1, zb_G, d_T, d_F, d_eT, d_eF, b2i_t, b2i_f, tn_nI, fa_lit, fa_litL, m1_e, nI_add, pk_mul, pk_sub, nI_leI, nI_ltI, nI_eq, le_T, le_F, lt_T, lt_F, eq_T, eq_F, if_pos, if_neg, m1_le, m1_lt', m1_gt, m1_le', m1_eq, m1_qe, b2i_eq0, in_N, in_n, in_I, ↓reduceIte, Bool.true_eq_false, Bool.false_eq_true, reduceCtorEq, decide_eq_true_eq, decide_eq_false_iff_not, Nat.not_lt, Nat.not_le, not_true_eq_false, not_false_eq_true, true_and, and_true, and_self, false_and, and_false, true_or, or_true, false_or, or_false, f_X12_letter, f_X12_letter_20, T.k, c2, in_bN hw]
    · have e1 : hI h (a + 1) (k * 6 + j) = nI ((ns k).getD j 0) := by
        rw [show k * 6 + j = 6 * k + j by omega]; exact B.2.2.2.1 k j hk (by omega) hj
      have e2 : hL h (x + 107 + 29) (4 + k) = lN (nmL (ns k)) := Q.2.2.1.2.2.2.1 k hk (by omega)
      refine glue0 C Q O (v := nI ((ns k).getD j 0)) ?_ ?_
      · simp (disch := omega) only [nm, bd_s, ko_K, ka_K, koK_t, kaK_t, kr_s, kn_s, kn_n, hK_sI, hR_sI, hK_sL, hR_sL, hI_sL, hL_sI, hL_sL, hI_sI, hN_sI, hN_sL, ch_G, ch_T, nb_0, nb_1, zb_G, d_T, d_F, d_eT, d_eF, b2i_t, b2i_f, tn_nI, fa_lit, fa_litL, m1_e, nI_add, pk_mul, pk_sub, nI_leI, nI_ltI, nI_eq, le_T, le_F, lt_T, lt_F, eq_T, eq_F, if_pos, if_neg, m1_le, m1_lt', m1_gt, m1_le', m1_eq, m1_qe, b2i_eq0, in_N, in_n, in_I, ↓reduceIte, Bool.true_eq_false, Bool.false_eq_true, reduceCtorEq, decide_eq_true_eq, decide_eq_false_iff_not, Nat.not_lt, Nat.not_le, not_true_eq_false, not_false_eq_true, true_and, and_true, and_self, false_and, and_false, true_or, or_true, false_or, or_false, f_X11_letter_18, f_X11_letter, S.k0, c1, h9, A.k, A.r4, A.k1, e1]
      · have e3 := m_let37 (h := h) (nI j) (lN (nmL (ns k))) (ns k).length (ns k) 0 FU rfl l2 l3 (by have : FU = 10000 := rfl; omega)
        rw [Nat.zero_add] at e3
        have e4 : f_X12_letter_37 (FU - (ns k).length) (nI j) (lN (nmL (ns k))) (nI (ns k).length) (lN 0) h = some (nI ((ns k).getD j 0), h) := by
          obtain ⟨fu, hfu⟩ : ∃ m, FU - (ns k).length = m + 1 := ⟨FU - (ns k).length - 1, by have : FU = 10000 := rfl; omega⟩
          rw [hfu]
          show b_X12_letter_37 (f_X12_letter_37 fu) (nI j) (lN (nmL (ns k))) (nI (ns k).length) (lN 0) h = _
          have g1 : lg_cmp (lN 0) 0 ≤ 0 := by decide
          simp only [b_X12_letter_37, if_pos g1, nm]
          by_cases c : j < (ns k).length
          · rw [if_pos (nI_lt c (by omega)), show nI (ns k).length - 1 = nI ((ns k).length - 1) from pk_sub (b := 1) (by omega)]
            have := m_let72 (h := h) c l2 l3 ((ns k).length - 1 - j) ((ns k).length - 1) FU (by omega) (by omega) (by have : FU = 10000 := rfl; omega)
            rw [show (ns k).length - 1 + 1 = (ns k).length by omega, List.take_length] at this
            exact this
          · rw [if_neg (nI_nlt (by omega) (by omega)), List.getD_eq_getElem?_getD, List.getElem?_eq_none (by omega)]
            rfl
        simp (disch := omega) only [nm, bd_s, ko_K, ka_K, koK_t, kaK_t, kr_s, kn_s, kn_n, hK_sI, hR_sI, hK_sL, hR_sL, hI_sL, hL_sI, hL_sL, hI_sI, hN_sI, hN_sL, ch_G, ch_T, nb_0, nb_1, zb_G, d_T, d_F, d_eT, d_eF, b2i_t, b2i_f, tn_nI, fa_lit, fa_litL, m1_e, nI_add, pk_mul, pk_sub, nI_leI, nI_ltI, nI_eq, le_T, le_F, lt_T, lt_F, eq_T, eq_F, if_pos, if_neg, m1_le, m1_lt', m1_gt, m1_le', m1_eq, m1_qe, b2i_eq0, in_N, in_n, in_I, ↓reduceIte, Bool.true_eq_false, Bool.false_eq_true, reduceCtorEq, decide_eq_true_eq, decide_eq_false_iff_not, Nat.not_lt, Nat.not_le, not_true_eq_false, not_false_eq_true, true_and, and_true, and_self, false_and, and_false, true_or, or_true, false_or, or_false, f_X12_letter, T.k, T.r38, T.k38, c2, e2]
        exact e3.trans e4
  · have c1 := C.nsh O hp
    have c2 := Q.nsh O hp
    refine glue0 C Q O (v := -nI 1) ?_ ?_
    · simp (disch := omega) only [nm, bd_s, ko_K, ka_K, koK_t, kaK_t, kr_s, kn_s, kn_n, hK_sI, hR_sI, hK_sL, hR_sL, hI_sL, hL_sI, hL_sL, hI_sI, hN_sI, hN_sL, ch_G, ch_T, nb_0, nb_1, zb_G, d_T, d_F, d_eT, d_eF, b2i_t, b2i_f, tn_nI, fa_lit, fa_litL, m1_e, nI_add, pk_mul, pk_sub, nI_leI, nI_ltI, nI_eq, le_T, le_F, lt_T, lt_F, eq_T, eq_F, if_pos, if_neg, m1_le, m1_lt', m1_gt, m1_le', m1_eq, m1_qe, b2i_eq0, in_N, in_n, in_I, ↓reduceIte, Bool.true_eq_false, Bool.false_eq_true, reduceCtorEq, decide_eq_true_eq, decide_eq_false_iff_not, Nat.not_lt, Nat.not_le, not_true_eq_false, not_false_eq_true, true_and, and_true, and_self, false_and, and_false, true_or, or_true, false_or, or_false, f_X11_letter_18, f_X11_letter, S.k0, c1]
    · simp (disch := omega) only [nm, bd_s, ko_K, ka_K, koK_t, kaK_t, kr_s, kn_s, kn_n, hK_sI, hR_sI, hK_sL, hR_sL, hI_sL, hL_sI, hL_sL, hI_sI, hN_sI, hN_sL, ch_G, ch_T, nb_0, nb_1, zb_G, d_T, d_F, d_eT, d_eF, b2i_t, b2i_f, tn_nI, fa_lit, fa_litL, m1_e, nI_add, pk_mul, pk_sub, nI_leI, nI_ltI, nI_eq, le_T, le_F, lt_T, lt_F, eq_T, eq_F, if_pos, if_neg, m1_le, m1_lt', m1_gt, m1_le', m1_eq, m1_qe, b2i_eq0, in_N, in_n, in_I, ↓reduceIte, Bool.true_eq_false, Bool.false_eq_true, reduceCtorEq, decide_eq_true_eq, decide_eq_false_iff_not, Nat.not_lt, Nat.not_le, not_true_eq_false, not_false_eq_true, true_and, and_true, and_self, false_and, and_false, true_or, or_true, false_or, or_false, f_X12_letter, f_X12_letter_20, T.k, c2]
end Lt
