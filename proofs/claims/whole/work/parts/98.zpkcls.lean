/-! THE TEXTS: the class's numbers, words in formulas; all levels -/
def jOf (i : Nat) : Option Nat := fnd (fun j => decide (cw j = i)) 13 0
theorem cw_lt : ∀ j, j < 13 → cw j < 19 := by decide +kernel
theorem w_bits : ∀ w, w < 4 → ∀ i, i < 19 → (decide ((nI (mk w) >>> (nI i &&& 31)) &&& 1 = (0 : Int32)) = match jOf i with | none => true | some j => !alW w j) := by decide +kernel
theorem w_codeB : ∀ i, i < 19 → ∀ j, j < 13 → (!(decide (jOf i = some j)) || ((decide (11 ≤ j) == decide (17 ≤ i)) && (if 11 ≤ j then decide (-1 - nI i = ccI (60 + (j - 11))) else decide (-1 - nI i = ccI (40 + j))))) = true := by decide +kernel
theorem w_code {i j : Nat} (hi : i < 19) (hj : j < 13) (e : jOf i = some j) : (11 ≤ j ↔ 17 ≤ i) ∧ (11 ≤ j → -1 - nI i = ccI (60 + (j - 11))) ∧ (¬ 11 ≤ j → -1 - nI i = ccI (40 + j)) := by
  have := w_codeB i hi j hj
  rw [decide_eq_true e, Bool.not_true, Bool.false_or, Bool.and_eq_true, beq_iff_eq] at this
  obtain ⟨b1, b2⟩ := this
  refine ⟨?_, fun z => ?_, fun z => ?_⟩
  · by_cases z : 11 ≤ j
    · rw [decide_eq_true z] at b1; exact ⟨fun _ => of_decide_eq_true b1.symm, fun _ => z⟩
    · rw [decide_eq_false z] at b1; exact ⟨fun y => absurd y z, fun y => absurd y (of_decide_eq_false b1.symm)⟩
  · rw [if_pos z] at b2; exact of_decide_eq_true b2
  · rw [if_neg z] at b2; exact of_decide_eq_true b2
section Wp
variable {x a n w u f o : Nat} {tp : Nat → Nat} {c : List Nat} {σ : tyT} {h : aH}
theorem wJ_of {i : Nat} (hi : i < 31) (z : isW tp n σ i = true) : wJ tp n σ = jOf i := by
  unfold wJ jOf
  refine fnd_congr 13 0 (fun j _ hj => ?_)
  have cl := cw_lt j (by omega)
  by_cases e : cw j = i
  · rw [e, z, decide_eq_true rfl]
  · rw [decide_eq_false e]
    cases q : isW tp n σ (cw j) with
    | false => rfl
    | true => exact absurd (isW_inj (by omega) hi q z) e
theorem wJ_no (z : ∀ i, i < 31 → isW tp n σ i = false) : wJ tp n σ = none := by
  cases q : wJ tp n σ with
  | none => rfl
  | some j =>
    obtain ⟨q1, q2⟩ := wJ_t q
    have := cw_lt j q1
    rw [z (cw j) (by omega)] at q2; cases q2
/-- the word here, if one is -/
theorem tk_word (T : ST h x a tp n w u c σ) : (∃ i, i < 31 ∧ isW tp n σ i = true ∧ hI h (x + 105) 2 = nI 1 ∧ hI h (x + 105) 5 = nI i) ∨ ((∀ i, i < 31 → isW tp n σ i = false) ∧ (hI h (x + 105) 2 = nI 1 ∧ hI h (x + 105) 5 = -nI 1 ∨ ∃ k, k ≤ 4 ∧ ¬ k = 1 ∧ hI h (x + 105) 2 = nI k)) := by
  by_cases e : ∃ i, i < 31 ∧ isW tp n σ i = true
  · obtain ⟨i, hi, z⟩ := e
    obtain ⟨w1, w2⟩ := wdV T hi z
    exact Or.inl ⟨i, hi, z, w2, w1⟩
  · have no : ∀ i, i < 31 → isW tp n σ i = false := fun i hi => by
      cases q : isW tp n σ i with
      | false => rfl
      | true => exact absurd ⟨i, hi, q⟩ e
    refine Or.inr ⟨no, ?_⟩
    have k2 := T.1.2.1
    have v5 := T.1.2.2.2.2
    by_cases k1 : tkK tp n σ = 1
    · left
      rw [k1] at k2
      refine ⟨k2, ?_⟩
      have c1 : σ.1 < n := by
        by_cases c1 : σ.1 < n
        · exact c1
        · unfold tkK at k1; rw [if_neg c1] at k1; omega
      have c2 : isL (tp σ.1) = true := by
        by_cases c2 : isL (tp σ.1) = true
        · exact c2
        · unfold tkK at k1; rw [if_pos c1, if_neg c2] at k1
          split at k1
          · split at k1 <;> omega
          · omega
      have c3 : σ.2 = false := by
        cases q : σ.2 with
        | false => rfl
        | true => unfold tkK at k1; rw [if_pos c1, if_pos c2, q, if_pos rfl] at k1; omega
      have wn : wv tp n σ = none := by
        cases q : wv tp n σ with
        | none => rfl
        | some i =>
          have hi := wv_lt q
          have := (wv_iff hi).mp q
          have : isW tp n σ i = true := by unfold isW; simp [c1, c2, c3, this]
          rw [no i hi] at this; cases this
      rw [v5]
      unfold tkV
      rw [if_pos c1, if_pos c2, wn]
      rfl
    · right
      exact ⟨tkK tp n σ, by unfold tkK; split <;> (try split) <;> (try split) <;> (try split) <;> omega, k1, k2⟩
theorem v_word (I : IHP tp n w x a u f) (tb : ∀ j, tp j ≤ 255) (hn : n ≤ 1600) (hw : w < 4) (ho : o ≤ 6) (hf : hgt 7 + 8 * (6 - o) < f + 1) (T : ST h x a tp n w u c σ) : RP tp n w x a u h c (f_X5_wordPart (f_P f) (x + 104) (nI o) h) (pWord tp n w (pD tp n w f) o σ) := by
  have hf : 0 + 8 * (6 - o) < f + 1 := hf
  have S := T.S
  have le := T.2.2.2.2.2.2
  have o1 : nI o + 1 = nI (o + 1) := nI_add o 1
  have i4 : hI h (x + 104) 4 = nI (mk w) := T.2.2.2.2.1.1
  have f44 : RP tp n w x a u h c (f_X5_wordPart_44 (f_P f) (x + 104) h) (fl 1 σ.1) := by
    unfold f_X5_wordPart_44
    rw [ko_t S.k104, kr_t S.r104_2, ko_t S.k105]
    exact rp_flT T
  unfold pWord
  rcases tk_word T with ⟨i, hi, z, k2, v5⟩ | ⟨no, kk⟩
  · have st : f_X5_wordPart (f_P f) (x + 104) (nI o) h = f_X5_wordPart_22 (f_P f) (x + 104) (nI o) (nI i) h := by
      unfold f_X5_wordPart
      rw [ko_t S.k104, kr_t S.r104_2, ko_t S.k105, k2, if_pos (show nI 1 = (1 : Int32) from rfl), v5]
    rw [st, wJ_of hi z]
    unfold f_X5_wordPart_22
    rw [if_neg (nI_pos (by omega))]
    by_cases c18 : i < 19
    · rw [if_neg (show ¬ (18 : Int32) < nI i from nI_nlt (a := 18) (b := i) (by omega) (by omega)), ko_t S.k104, i4]
      have bt := w_bits w hw i c18
      cases q : jOf i with
      | none =>
        rw [q] at bt
        rw [if_pos (of_decide_eq_true bt)]
        exact f44
      | some j =>
        rw [q] at bt
        simp only at bt ⊢
        have j13 : j < 13 := by have := fnd_lt _ _ _ q; omega
        obtain ⟨j11, jc1, jc2⟩ := w_code c18 j13 q
        by_cases al : alW w j = true
        · rw [if_pos al]
          rw [al] at bt
          rw [if_neg (of_decide_eq_false bt)]
          by_cases c11 : 11 ≤ j
          · rw [if_pos c11, if_pos (show (17 : Int32) ≤ nI i from nI_le (a := 17) (j11.mp c11) (by omega))]
            refine rp_open (fun _ => rfl) T ho (c_nxW T tb hn z) (fun h1 c6 T1 => ?_)
            have ws := (nW_ok z).2
            rw [ko_t T1.S.k104, o1]
            obtain ⟨R, G⟩ := I 5 (o + 1) (nW tp n σ) h1 c (by omega) (by omega) (by omega) (by show 1 + _ < f; omega) T1
            refine rp_bd (fun _ => rfl) G R (fun h2 c2 σ2 T2 o2 l2 s2 => ?_)
            obtain ⟨h3, e3, T3, p3⟩ := c_addO T2 (q := 60 + (j - 11)) (v := nI i) (by simp; omega) hn (jc1 c11)
            unfold f_X5_wordPart_93
            rw [ko_t T2.S.k104, kr_t T2.2.2.1, ko_t T2.A.k, bd_t e3]
            rw [List.append_assoc] at T3
            exact rp_pre p3 (rp_ok T3)
          · rw [if_neg c11, if_neg (show ¬ (17 : Int32) ≤ nI i from nI_ge (b := 17) (by omega) (by omega)), kr_t S.r104_2, ko_t S.k105]
            obtain ⟨h1, e1, T1, p1⟩ := c_nxW T tb hn z
            have ws := (nW_ok z).2
            obtain ⟨h3, e3, T3, p3⟩ := c_addO T1 (q := 40 + j) (v := nI i) (by omega) hn (jc2 c11)
            unfold f_X5_wordPart_93
            rw [bd_t e1, ko_t T1.S.k104, kr_t T1.2.2.1, ko_t T1.A.k, bd_t e3]
            exact rp_pre (p1.trans p3) (rp_ok T3)
        · rw [if_neg al]
          rw [show alW w j = false by cases y : alW w j with | false => rfl | true => exact absurd y al] at bt
          rw [if_pos (of_decide_eq_true bt)]
          exact f44
    · rw [if_pos (show (18 : Int32) < nI i from nI_lt (a := 18) (by omega) (by omega))]
      have : jOf i = none := by
        unfold jOf
        cases q : fnd (fun j => decide (cw j = i)) 13 0 with
        | none => rfl
        | some j =>
          obtain ⟨y1, y2, y3⟩ := fnd_lt _ _ _ q
          simp only [decide_eq_true_eq] at y3
          have := cw_lt j (by omega)
          omega
      rw [this]
      exact f44
  · have st : f_X5_wordPart (f_P f) (x + 104) (nI o) h = f_X5_wordPart_44 (f_P f) (x + 104) h := by
      unfold f_X5_wordPart
      rcases kk with ⟨k2, v5⟩ | ⟨k, k4, k1, k2⟩
      · rw [ko_t S.k104, kr_t S.r104_2, ko_t S.k105, k2, if_pos (show nI 1 = (1 : Int32) from rfl), v5]
        unfold f_X5_wordPart_22
        rw [if_pos (by decide)]
      · rw [ko_t S.k104, kr_t S.r104_2, ko_t S.k105, k2, if_neg (show ¬ nI k = (1 : Int32) from fun z => k1 ((nI_eq (b := 1) (by omega) (by omega)).mp z))]
        unfold f_X5_wordPart_22
        rw [if_pos (by decide)]
    rw [st, wJ_no no]
    exact f44
theorem c_number {lo hi : Nat} (T : ST h x a tp n w u c σ) (hn : n ≤ 1600) (h1 : lo ≤ 99999) (h2 : hi ≤ 99999) : (isN tp n σ = true ∧ rn isD tp n σ.1 - σ.1 ≤ 4 ∧ lo ≤ nv tp n σ ∧ nv tp n σ ≤ hi ∧ f_X5_number (x + 104) (nI lo) (nI hi) h = some (nI 1, h) ∧ hI h (x + 105) 5 = nI (nv tp n σ)) ∨ (∃ k p, f_X5_number (x + 104) (nI lo) (nI hi) h = some (nI 0, sI (sI h (x + 104) 0 (nI k)) (x + 104) 1 (nI p)) ∧ (isN tp n σ = true ∧ rn isD tp n σ.1 - σ.1 ≤ 4 ∧ ¬ (lo ≤ nv tp n σ ∧ nv tp n σ ≤ hi) ∧ k = 2 ∧ p = σ.1 ∨ isN tp n σ = true ∧ ¬ rn isD tp n σ.1 - σ.1 ≤ 4 ∧ k = 1 ∧ p = σ.1 + 4 ∨ isN tp n σ = false ∧ k = 1 ∧ p = σ.1)) := by
  have S := T.S
  have v3 := T.v3
  have vl := nv_le (tp := tp) (n := n) (σ := σ)
  by_cases z : isN tp n σ = true
  · obtain ⟨q1, q2, q3⟩ := isN_t z
    have y1 : ¬ isL (tp σ.1) = true := by
      intro z
      unfold isL at z; unfold isD at q2
      simp only [Bool.and_eq_true, decide_eq_true_eq] at z q2
      omega
    have ek : tkK tp n σ = 2 := by unfold tkK; rw [if_pos q1, if_neg y1, if_pos q2, q3, if_neg (by decide)]
    have ee : tkE tp n σ = rn isD tp n σ.1 := by unfold tkE; rw [if_pos q1, if_neg y1, if_pos q2]
    have ev : tkV tp n σ = nI (nv tp n σ) := by unfold tkV; rw [if_pos q1, if_neg y1, if_pos q2]
    have k2 := T.1.2.1
    have v4 := T.1.2.2.2.1
    have v5 := T.1.2.2.2.2
    rw [ek] at k2
    rw [ee] at v4
    rw [ev] at v5
    have rg := rn_ge (p := isD) (tp := tp) (n := n) σ.1
    have rl := rn_le (p := isD) (tp := tp) (n := n) (q := σ.1) (by omega)
    have f1 : ∀ p : Nat, f_X5_fail (x + 104) (nI 1) (nI p) h = _ := fun p => c_failX S (k := 1) (p := p)
    have f2 : ∀ p : Nat, f_X5_fail (x + 104) (nI 2) (nI p) h = _ := fun p => c_failX S (k := 2) (p := p)
    have f1 := f1 (σ.1 + 4)
    have f2 := f2 σ.1
    generalize rn isD tp n σ.1 = e at *
    generalize nv tp n σ = V at *
    generalize σ.1 = s at *
    by_cases c4 : e - s ≤ 4
    · by_cases cl : lo ≤ V ∧ V ≤ hi
      · left
        obtain ⟨l1, l2⟩ := cl
        refine ⟨z, c4, l1, l2, ?_, v5⟩
        simp (disch := omega) only [nm, bd_s, ko_K, ka_K, koK_t, kaK_t, kr_s, kn_s, kn_n, hK_sI, hR_sI, hK_sL, hR_sL, hI_sL, hL_sI, hL_sL, hI_sI, hN_sI, hN_sL, ch_G, ch_T, nb_0, nb_1, zb_G, d_T, d_F, d_eT, d_eF, b2i_t, b2i_f, tn_nI, fa_lit, fa_litL, m1_e, nI_add, pk_mul, pk_sub, nI_leI, nI_ltI, nI_eq, le_T, le_F, lt_T, lt_F, eq_T, eq_F, if_pos, if_neg, m1_le, m1_lt', m1_gt, m1_le', m1_eq, m1_qe, b2i_eq0, in_N, in_n, in_I, ↓reduceIte, Bool.true_eq_false, Bool.false_eq_true, reduceCtorEq, decide_eq_true_eq, decide_eq_false_iff_not, Nat.not_lt, Nat.not_le, not_true_eq_false, not_false_eq_true, true_and, and_true, and_self, false_and, and_false, true_or, or_true, false_or, or_false, f_X5_number_91, f_X5_number_86, f_X5_number_71, f_X5_number, f_X7_isTooLong_18, f_X7_isTooLong, S.k104, S.r104_2, S.k105, k2, v4, v3, v5]
      · right
        refine ⟨2, s, ?_, Or.inl ⟨z, c4, cl, rfl, rfl⟩⟩
        by_cases l1 : lo ≤ V
        · have l2 : ¬ V ≤ hi := fun y => cl ⟨l1, y⟩
          simp (disch := omega) only [nm, bd_s, ko_K, ka_K, koK_t, kaK_t, kr_s, kn_s, kn_n, hK_sI, hR_sI, hK_sL, hR_sL, hI_sL, hL_sI, hL_sL, hI_sI, hN_sI, hN_sL, ch_G, ch_T, nb_0, nb_1, zb_G, d_T, d_F, d_eT, d_eF, b2i_t, b2i_f, tn_nI, fa_lit, fa_litL, m1_e, nI_add, pk_mul, pk_sub, nI_leI, nI_ltI, nI_eq, le_T, le_F, lt_T, lt_F, eq_T, eq_F, if_pos, if_neg, m1_le, m1_lt', m1_gt, m1_le', m1_eq, m1_qe, b2i_eq0, in_N, in_n, in_I, ↓reduceIte, Bool.true_eq_false, Bool.false_eq_true, reduceCtorEq, decide_eq_true_eq, decide_eq_false_iff_not, Nat.not_lt, Nat.not_le, not_true_eq_false, not_false_eq_true, true_and, and_true, and_self, false_and, and_false, true_or, or_true, false_or, or_false, f_X5_number_91, f_X5_number_86, f_X5_number_71, f_X5_number, f_X7_isTooLong_18, f_X7_isTooLong, S.k104, S.r104_2, S.k105, k2, v4, v3, v5, f2]
        · simp (disch := omega) only [nm, bd_s, ko_K, ka_K, koK_t, kaK_t, kr_s, kn_s, kn_n, hK_sI, hR_sI, hK_sL, hR_sL, hI_sL, hL_sI, hL_sL, hI_sI, hN_sI, hN_sL, ch_G, ch_T, nb_0, nb_1, zb_G, d_T, d_F, d_eT, d_eF, b2i_t, b2i_f, tn_nI, fa_lit, fa_litL, m1_e, nI_add, pk_mul, pk_sub, nI_leI, nI_ltI, nI_eq, le_T, le_F, lt_T, lt_F, eq_T, eq_F, if_pos, if_neg, m1_le, m1_lt', m1_gt, m1_le', m1_eq, m1_qe, b2i_eq0, in_N, in_n, in_I, ↓reduceIte, Bool.true_eq_false, Bool.false_eq_true, reduceCtorEq, decide_eq_true_eq, decide_eq_false_iff_not, Nat.not_lt, Nat.not_le, not_true_eq_false, not_false_eq_true, true_and, and_true, and_self, false_and, and_false, true_or, or_true, false_or, or_false, f_X5_number_91, f_X5_number_86, f_X5_number_71, f_X5_number, f_X7_isTooLong_18, f_X7_isTooLong, S.k104, S.r104_2, S.k105, k2, v4, v3, v5, f2]
    · right
      refine ⟨1, s + 4, ?_, Or.inr (Or.inl ⟨z, c4, rfl, rfl⟩)⟩
      simp (disch := omega) only [nm, bd_s, ko_K, ka_K, koK_t, kaK_t, kr_s, kn_s, kn_n, hK_sI, hR_sI, hK_sL, hR_sL, hI_sL, hL_sI, hL_sL, hI_sI, hN_sI, hN_sL, ch_G, ch_T, nb_0, nb_1, zb_G, d_T, d_F, d_eT, d_eF, b2i_t, b2i_f, tn_nI, fa_lit, fa_litL, m1_e, nI_add, pk_mul, pk_sub, nI_leI, nI_ltI, nI_eq, le_T, le_F, lt_T, lt_F, eq_T, eq_F, if_pos, if_neg, m1_le, m1_lt', m1_gt, m1_le', m1_eq, m1_qe, b2i_eq0, in_N, in_n, in_I, ↓reduceIte, Bool.true_eq_false, Bool.false_eq_true, reduceCtorEq, decide_eq_true_eq, decide_eq_false_iff_not, Nat.not_lt, Nat.not_le, not_true_eq_false, not_false_eq_true, true_and, and_true, and_self, false_and, and_false, true_or, or_true, false_or, or_false, f_X5_number_91, f_X5_number_86, f_X5_number_71, f_X5_number, f_X7_isTooLong_18, f_X7_isTooLong, S.k104, S.r104_2, S.k105, k2, v4, v3, f1]
  · have z' : isN tp n σ = false := by cases y : isN tp n σ with | false => rfl | true => exact absurd y z
    right
    refine ⟨1, σ.1, ?_, Or.inr (Or.inr ⟨z', rfl, rfl⟩)⟩
    have k2 := T.1.2.1
    have ek : ¬ tkK tp n σ = 2 := by
      intro y
      unfold tkK at y
      by_cases c1 : σ.1 < n
      · rw [if_pos c1] at y
        by_cases c2 : isL (tp σ.1) = true
        · rw [if_pos c2] at y; split at y <;> omega
        · rw [if_neg c2] at y
          by_cases c3 : isD (tp σ.1) = true
          · rw [if_pos c3] at y
            cases q : σ.2 with
            | true => rw [q, if_pos rfl] at y; omega
            | false => unfold isN at z; simp [c1, c3, q] at z
          · rw [if_neg c3] at y; omega
      · rw [if_neg c1] at y; omega
    have kb : tkK tp n σ ≤ 4 := by unfold tkK; split <;> (try split) <;> (try split) <;> (try split) <;> omega
    have f1 := c_failX S (k := 1) (p := σ.1)
    generalize tkK tp n σ = K at *
    simp (disch := omega) only [nm, bd_s, ko_K, ka_K, koK_t, kaK_t, kr_s, kn_s, kn_n, hK_sI, hR_sI, hK_sL, hR_sL, hI_sL, hL_sI, hL_sL, hI_sI, hN_sI, hN_sL, ch_G, ch_T, nb_0, nb_1, zb_G, d_T, d_F, d_eT, d_eF, b2i_t, b2i_f, tn_nI, fa_lit, fa_litL, m1_e, nI_add, pk_mul, pk_sub, nI_leI, nI_ltI, nI_eq, le_T, le_F, lt_T, lt_F, eq_T, eq_F, if_pos, if_neg, m1_le, m1_lt', m1_gt, m1_le', m1_eq, m1_qe, b2i_eq0, in_N, in_n, in_I, ↓reduceIte, Bool.true_eq_false, Bool.false_eq_true, reduceCtorEq, decide_eq_true_eq, decide_eq_false_iff_not, Nat.not_lt, Nat.not_le, not_true_eq_false, not_false_eq_true, true_and, and_true, and_self, false_and, and_false, true_or, or_true, false_or, or_false, f_X5_number_91, f_X5_number_86, f_X5_number_71, f_X5_number, S.k104, S.r104_2, S.k105, k2, v3, f1]
end Wp
