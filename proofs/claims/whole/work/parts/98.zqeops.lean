/-! THE TEXTS: brackets, ends of parts, operators in the reference -/
section Qp
variable {h : aH} {x n w o bs : Nat} {tp : Nat → Nat} {σ : tyT} {c W : List Nat}
/-- the bracket that is open last in the sum at hand -/
theorem m_bracket : ∀ (P : List Nat) (R V : List Nat) (k : Nat), (∀ v ∈ P, isBr v = false) → stopB bs R → P.length < k → QQ h x w c (V ++ (P ++ R)) o bs → f_X12_qBracket_7 k (x + 107) (nI (P ++ R).length - nI 1) h = some ((if R.length = bs then -nI 1 else nI (R.headD 0)), h) := by
  intro P
  induction P with
  | nil =>
    intro R V k hP hR hk Q
    obtain ⟨k, rfl⟩ : ∃ j, k = j + 1 := ⟨k - 1, by have : (0 : Nat) < k := hk; omega⟩
    have S := Q.1
    have a5 := Q.2.2.2.2.1
    have a8 := Q.2.2.2.2.2.2.2.1
    have a9 := Q.2.2.2.2.2.2.2.2.1
    simp only [List.nil_append] at Q a8 ⊢
    rw [List.length_append] at a8
    rcases hR with hR | ⟨hR, b, R', rfl, hb⟩
    · rw [if_pos hR, hR]
      by_cases z : bs = 0
      · rw [z, s01] at *
        simp (disch := omega) only [nm, bd_s, ko_K, ka_K, koK_t, kaK_t, kr_s, kn_s, kn_n, hK_sI, hR_sI, hK_sL, hR_sL, hI_sL, hL_sI, hL_sL, hI_sI, hN_sI, hN_sL, ch_G, ch_T, nb_0, nb_1, zb_G, d_T, d_F, d_eT, d_eF, b2i_t, b2i_f, tn_nI, fa_lit, fa_litL, m1_e, nI_add, pk_mul, pk_sub, nI_leI, nI_ltI, nI_eq, le_T, le_F, lt_T, lt_F, eq_T, eq_F, if_pos, if_neg, m1_le, m1_lt', m1_gt, m1_le', m1_eq, m1_qe, b2i_eq0, in_N, in_n, in_I, ↓reduceIte, Bool.true_eq_false, Bool.false_eq_true, reduceCtorEq, decide_eq_true_eq, decide_eq_false_iff_not, Nat.not_lt, Nat.not_le, not_true_eq_false, not_false_eq_true, true_and, and_true, and_self, false_and, and_false, true_or, or_true, false_or, or_false, f_X12_qBracket_7, b_X12_qBracket_7, f_X12_qBracket_33, f_X12_qBracket_51, S.k, a5]
      · have e : bs - 1 < bs := by omega
        simp (disch := omega) only [nm, bd_s, ko_K, ka_K, koK_t, kaK_t, kr_s, kn_s, kn_n, hK_sI, hR_sI, hK_sL, hR_sL, hI_sL, hL_sI, hL_sL, hI_sI, hN_sI, hN_sL, ch_G, ch_T, nb_0, nb_1, zb_G, d_T, d_F, d_eT, d_eF, b2i_t, b2i_f, tn_nI, fa_lit, fa_litL, m1_e, nI_add, pk_mul, pk_sub, nI_leI, nI_ltI, nI_eq, le_T, le_F, lt_T, lt_F, eq_T, eq_F, if_pos, if_neg, m1_le, m1_lt', m1_gt, m1_le', m1_eq, m1_qe, b2i_eq0, in_N, in_n, in_I, ↓reduceIte, Bool.true_eq_false, Bool.false_eq_true, reduceCtorEq, decide_eq_true_eq, decide_eq_false_iff_not, Nat.not_lt, Nat.not_le, not_true_eq_false, not_false_eq_true, true_and, and_true, and_self, false_and, and_false, true_or, or_true, false_or, or_false, f_X12_qBracket_7, b_X12_qBracket_7, f_X12_qBracket_33, f_X12_qBracket_51, S.k, a5]
    · have hR : bs < R'.length + 1 := hR
      have a8 : V.length + (R'.length + 1) ≤ 1650 := a8
      rw [if_neg (by show ¬ R'.length + 1 = bs; omega)]
      have d2 := Q.2.2.1.2 R'.length (by simp; omega)
      have e : (V ++ b :: R').getD ((V ++ b :: R').length - 1 - R'.length) 0 = b := by
        have : (V ++ b :: R').length - 1 - R'.length = V.length := by rw [List.length_append, List.length_cons]; omega
        rw [this, List.getD_eq_getElem?_getD, List.getElem?_append_right (Nat.le_refl _)]
        simp
      rw [e] at d2
      have v1 := Q.2.2.2.2.2.2.2.2.2 b (by simp)
      have ib := m_isBr (h := h) v1
      rw [hb, b2i_t] at ib
      have e2 : nI (b :: R').length - nI 1 = nI R'.length := by rw [show (b :: R').length = R'.length + 1 from rfl, pk_sub (by omega)]; rfl
      rw [e2]
      show _ = some (nI b, h)
      generalize R'.length = l at *
      simp (disch := omega) only [nm, bd_s, ko_K, ka_K, koK_t, kaK_t, kr_s, kn_s, kn_n, hK_sI, hR_sI, hK_sL, hR_sL, hI_sL, hL_sI, hL_sL, hI_sI, hN_sI, hN_sL, ch_G, ch_T, nb_0, nb_1, zb_G, d_T, d_F, d_eT, d_eF, b2i_t, b2i_f, tn_nI, fa_lit, fa_litL, m1_e, nI_add, pk_mul, pk_sub, nI_leI, nI_ltI, nI_eq, le_T, le_F, lt_T, lt_F, eq_T, eq_F, if_pos, if_neg, m1_le, m1_lt', m1_gt, m1_le', m1_eq, m1_qe, b2i_eq0, in_N, in_n, in_I, ↓reduceIte, Bool.true_eq_false, Bool.false_eq_true, reduceCtorEq, decide_eq_true_eq, decide_eq_false_iff_not, Nat.not_lt, Nat.not_le, not_true_eq_false, not_false_eq_true, true_and, and_true, and_self, false_and, and_false, true_or, or_true, false_or, or_false, f_X12_qBracket_7, b_X12_qBracket_7, f_X12_qBracket_33, f_X12_qBracket_51, ↓nm, ↓ko_t S.k, S.k, a5, ↓kr_t S.r93, S.r93, ↓ka_t S.k93, S.k93, d2, ib]
  | cons v P ih =>
    intro R V k hP hR hk Q
    obtain ⟨k, rfl⟩ : ∃ j, k = j + 1 := ⟨k - 1, by have : P.length + 1 < k := hk; omega⟩
    have hk : P.length + 1 < k + 1 := hk
    have S := Q.1
    have a5 := Q.2.2.2.2.1
    have a8 := Q.2.2.2.2.2.2.2.1
    have a9 := Q.2.2.2.2.2.2.2.2.1
    have lb : bs ≤ (P ++ R).length := by
      have : bs ≤ R.length := by rcases hR with z | ⟨z, -⟩ <;> omega
      simp; omega
    have Q' : QQ h x w c ((V ++ [v]) ++ (P ++ R)) o bs := by rw [List.append_assoc]; exact Q
    have nx := ih R (V ++ [v]) k (fun u hu => hP u (List.mem_cons_of_mem _ hu)) hR (by omega) Q'
    have d2 := Q.2.2.1.2 (P ++ R).length (by simp; omega)
    have e : (V ++ (v :: P ++ R)).getD ((V ++ (v :: P ++ R)).length - 1 - (P ++ R).length) 0 = v := by
      have : (V ++ (v :: P ++ R)).length - 1 - (P ++ R).length = V.length := by rw [List.length_append, List.cons_append, List.length_cons]; omega
      rw [this, List.getD_eq_getElem?_getD, List.getElem?_append_right (Nat.le_refl _)]
      simp
    rw [e] at d2
    have v1 := Q.2.2.2.2.2.2.2.2.2 v (by simp)
    have ib := m_isBr (h := h) v1
    rw [hP v (List.mem_cons_self), b2i_f] at ib
    have a8 : V.length + ((P ++ R).length + 1) ≤ 1650 := by rw [List.length_append] at a8; exact a8
    have e2 : nI (v :: P ++ R).length - nI 1 = nI (P ++ R).length := by rw [show (v :: P ++ R).length = (P ++ R).length + 1 from rfl, pk_sub (by omega)]; rfl
    rw [e2, ← nx]
    have e3 : nI (P ++ R).length + -nI 1 = nI (P ++ R).length - nI 1 := (Int32.sub_eq_add_neg _ _).symm
    generalize (P ++ R).length = l at *
    simp (disch := omega) only [nm, bd_s, ko_K, ka_K, koK_t, kaK_t, kr_s, kn_s, kn_n, hK_sI, hR_sI, hK_sL, hR_sL, hI_sL, hL_sI, hL_sL, hI_sI, hN_sI, hN_sL, ch_G, ch_T, nb_0, nb_1, zb_G, d_T, d_F, d_eT, d_eF, b2i_t, b2i_f, tn_nI, fa_lit, fa_litL, m1_e, nI_add, pk_mul, pk_sub, nI_leI, nI_ltI, nI_eq, le_T, le_F, lt_T, lt_F, eq_T, eq_F, if_pos, if_neg, m1_le, m1_lt', m1_gt, m1_le', m1_eq, m1_qe, b2i_eq0, in_N, in_n, in_I, ↓reduceIte, Bool.true_eq_false, Bool.false_eq_true, reduceCtorEq, decide_eq_true_eq, decide_eq_false_iff_not, Nat.not_lt, Nat.not_le, not_true_eq_false, not_false_eq_true, true_and, and_true, and_self, false_and, and_false, true_or, or_true, false_or, or_false, f_X12_qBracket_7, b_X12_qBracket_7, ↓nm, ↓ko_t S.k, S.k, a5, ↓kr_t S.r93, S.r93, ↓ka_t S.k93, S.k93, d2, ib, e3]
theorem m_br {P R : List Nat} (hP : ∀ v ∈ P, isBr v = false) (hR : stopB bs R) (Q : QQ h x w c (P ++ R) o bs) : f_X12_qBracket (x + 107) h = some ((if R.length = bs then -nI 1 else nI (R.headD 0)), h) := by
  have S := Q.1
  have d1 := Q.2.2.1.1
  have a8 := Q.2.2.2.2.2.2.2.1
  have b := m_bracket P R [] FU hP hR (FU_gt (by rw [List.length_append] at a8; omega)) Q
  unfold f_X12_qBracket
  rw [ko_t S.k, d1]
  exact b
/-- a part has ended: those that waited for it are told -/
theorem m_ends : ∀ (F R c : List Nat) (k o : Nat) (h : aH), (∀ v ∈ F, 60 ≤ v) → (R.length = bs ∨ bs < R.length ∧ ∃ v R', R = v :: R' ∧ v < 60) → F.length < k → F.length ≤ o → o ≤ 6 → c.length + F.length ≤ 1650 → hI h (x + 107) 5 = nI 0 → QQ h x w c (F ++ R) o bs → ∃ h1, f_X12_qEndsPart_0 k (x + 107) h = some ((), h1) ∧ QQ h1 x w (c ++ F) R (o - F.length) bs ∧ QY x h h1 := by
  intro F
  induction F with
  | nil =>
    intro R c k o h hF hR hk ho h6 hc bad Q
    obtain ⟨k, rfl⟩ : ∃ j, k = j + 1 := ⟨k - 1, by have : (0 : Nat) < k := hk; omega⟩
    have Q : QQ h x w c R o bs := Q
    have S := Q.1
    have d1 := Q.2.2.1.1
    have a5 := Q.2.2.2.2.1
    have a8 := Q.2.2.2.2.2.2.2.1
    have a9 := Q.2.2.2.2.2.2.2.2.1
    rw [List.append_nil]
    refine ⟨h, ?_, Q, QY.refl⟩
    rcases hR with hR | ⟨hR, b, R', rfl, hb⟩
    · simp (disch := omega) only [nm, bd_s, ko_K, ka_K, koK_t, kaK_t, kr_s, kn_s, kn_n, hK_sI, hR_sI, hK_sL, hR_sL, hI_sL, hL_sI, hL_sL, hI_sI, hN_sI, hN_sL, ch_G, ch_T, nb_0, nb_1, zb_G, d_T, d_F, d_eT, d_eF, b2i_t, b2i_f, tn_nI, fa_lit, fa_litL, m1_e, nI_add, pk_mul, pk_sub, nI_leI, nI_ltI, nI_eq, le_T, le_F, lt_T, lt_F, eq_T, eq_F, if_pos, if_neg, m1_le, m1_lt', m1_gt, m1_le', m1_eq, m1_qe, b2i_eq0, in_N, in_n, in_I, ↓reduceIte, Bool.true_eq_false, Bool.false_eq_true, reduceCtorEq, decide_eq_true_eq, decide_eq_false_iff_not, Nat.not_lt, Nat.not_le, not_true_eq_false, not_false_eq_true, true_and, and_true, and_self, false_and, and_false, true_or, or_true, false_or, or_false, f_X12_qEndsPart_0, b_X12_qEndsPart_0, f_X12_qEndsPart_51, S.k, bad, d1, a5]
    · have d1 : hI h (x + 107) 94 = nI (R'.length + 1) := d1
      have hR : bs < R'.length + 1 := hR
      have a8 : R'.length + 1 ≤ 1650 := a8
      have e := Q.pop.2
      have e2 : R'.length + 1 - 1 = R'.length := by omega
      generalize R'.length = l at *
      simp (disch := omega) only [nm, bd_s, ko_K, ka_K, koK_t, kaK_t, kr_s, kn_s, kn_n, hK_sI, hR_sI, hK_sL, hR_sL, hI_sL, hL_sI, hL_sL, hI_sI, hN_sI, hN_sL, ch_G, ch_T, nb_0, nb_1, zb_G, d_T, d_F, d_eT, d_eF, b2i_t, b2i_f, tn_nI, fa_lit, fa_litL, m1_e, nI_add, pk_mul, pk_sub, nI_leI, nI_ltI, nI_eq, le_T, le_F, lt_T, lt_F, eq_T, eq_F, if_pos, if_neg, m1_le, m1_lt', m1_gt, m1_le', m1_eq, m1_qe, b2i_eq0, in_N, in_n, in_I, ↓reduceIte, Bool.true_eq_false, Bool.false_eq_true, reduceCtorEq, decide_eq_true_eq, decide_eq_false_iff_not, Nat.not_lt, Nat.not_le, not_true_eq_false, not_false_eq_true, true_and, and_true, and_self, false_and, and_false, true_or, or_true, false_or, or_false, f_X12_qEndsPart_0, b_X12_qEndsPart_0, f_X12_qEndsPart_51, ↓ko_t S.k, S.k, bad, d1, a5, ↓kr_t S.r93, S.r93, ↓ka_t S.k93, S.k93, e2, e]
  | cons v F ih =>
    intro R c k o h hF hR hk ho h6 hc bad Q
    obtain ⟨k, rfl⟩ : ∃ j, k = j + 1 := ⟨k - 1, by have : F.length + 1 < k := hk; omega⟩
    have hk : F.length + 1 < k + 1 := hk
    have ho : F.length + 1 ≤ o := ho
    have hc : c.length + (F.length + 1) ≤ 1650 := hc
    have Q : QQ h x w c (v :: (F ++ R)) o bs := Q
    have S := Q.1
    have d1 : hI h (x + 107) 94 = nI ((F ++ R).length + 1) := Q.2.2.1.1
    have a4 := Q.2.2.2.1
    have a5 := Q.2.2.2.2.1
    have a8 : (F ++ R).length + 1 ≤ 1650 := Q.2.2.2.2.2.2.2.1
    have a9 := Q.2.2.2.2.2.2.2.2.1
    have e := Q.pop.2
    have v1 := Q.2.2.2.2.2.2.2.2.2 v (List.mem_cons_self)
    have v6 := hF v (List.mem_cons_self)
    have lb : bs ≤ (F ++ R).length := by
      have : bs ≤ R.length := by rcases hR with z | ⟨z, -⟩ <;> omega
      simp; omega
    have Q0 : QQ (sI h (x + 107) 95 (nI (o - 1))) x w c (v :: (F ++ R)) (o - 1) bs := by
      obtain ⟨s1, ⟨b1, b2⟩, ⟨t1, t2⟩, u4, u5, u6, u7⟩ := Q
      exact ⟨s1.of rfl rfl, ⟨by rw [hI_sI, if_neg (by omega)]; exact b1, fun i hi => by rw [hI_sI, if_neg (by omega)]; exact b2 i hi⟩, ⟨by rw [hI_sI, if_neg (by omega)]; exact t1, fun i hi => by rw [hI_sI, if_neg (by omega)]; exact t2 i hi⟩, by rw [hI_sI, if_pos ⟨rfl, rfl⟩], by rw [hI_sI, if_neg (by omega)]; exact u5, by rw [hI_sI, if_neg (by omega)]; exact u6, u7⟩
    obtain ⟨h1, e1, Q1, y1⟩ := m_drops Q0 (by omega)
    have bad1 : hI h1 (x + 107) 5 = nI 0 := by rw [y1.2.2.2.2.2 _ _ (by unfold QD; omega), hI_sI, if_neg (by omega)]; exact bad
    obtain ⟨h2, e2, Q2, y2⟩ := ih R (c ++ [v]) k (o - 1) h1 (fun u hu => hF u (List.mem_cons_of_mem _ hu)) hR (by omega) (by omega) (by omega) (by simp; omega) bad1 Q1
    refine ⟨h2, ?_, by rw [List.append_assoc] at Q2; rw [show o - (v :: F).length = o - 1 - F.length by show o - (F.length + 1) = _; omega]; exact Q2, (qy_s (by unfold QD; omega)).trans (y1.trans y2)⟩
    rw [← e2]
    have e3 : (F ++ R).length + 1 - 1 = (F ++ R).length := by omega
    generalize (F ++ R).length = l at *
    simp (disch := omega) only [nm, bd_s, ko_K, ka_K, koK_t, kaK_t, kr_s, kn_s, kn_n, hK_sI, hR_sI, hK_sL, hR_sL, hI_sL, hL_sI, hL_sL, hI_sI, hN_sI, hN_sL, ch_G, ch_T, nb_0, nb_1, zb_G, d_T, d_F, d_eT, d_eF, b2i_t, b2i_f, tn_nI, fa_lit, fa_litL, m1_e, nI_add, pk_mul, pk_sub, nI_leI, nI_ltI, nI_eq, le_T, le_F, lt_T, lt_F, eq_T, eq_F, if_pos, if_neg, m1_le, m1_lt', m1_gt, m1_le', m1_eq, m1_qe, b2i_eq0, in_N, in_n, in_I, ↓reduceIte, Bool.true_eq_false, Bool.false_eq_true, reduceCtorEq, decide_eq_true_eq, decide_eq_false_iff_not, Nat.not_lt, Nat.not_le, not_true_eq_false, not_false_eq_true, true_and, and_true, and_self, false_and, and_false, true_or, or_true, false_or, or_false, f_X12_qEndsPart_0, b_X12_qEndsPart_0, ↓ko_t S.k, S.k, bad, d1, a5, ↓kr_t S.r93, S.r93, ↓ka_t S.k93, S.k93, e3, e, a4, e1]
/-- a bracket, a word that counts as one -/
theorem m_opens {v p : Nat} (Q : QQ h x w c W o bs) (ho : o ≤ 6) (hW : W.length < 1650) (hv : v ≤ 100) (bad : hI h (x + 107) 5 = nI 0) : (o = 6 → f_X12_qOpens (x + 107) (nI v) (nI p) h = some ((), flH h x 4 p)) ∧ (o < 6 → ∃ h1, f_X12_qOpens (x + 107) (nI v) (nI p) h = some ((), h1) ∧ QQ h1 x w c (v :: W) (o + 1) bs ∧ QY x h h1) := by
  have S := Q.1
  have a4 := Q.2.2.2.1
  have d1 := Q.2.2.1.1
  refine ⟨fun z => ?_, fun z => ?_⟩
  · subst z
    have fa := m_fail S bad 4 p
    unfold flH
    simp (disch := omega) only [nm, bd_s, ko_K, ka_K, koK_t, kaK_t, kr_s, kn_s, kn_n, hK_sI, hR_sI, hK_sL, hR_sL, hI_sL, hL_sI, hL_sL, hI_sI, hN_sI, hN_sL, ch_G, ch_T, nb_0, nb_1, zb_G, d_T, d_F, d_eT, d_eF, b2i_t, b2i_f, tn_nI, fa_lit, fa_litL, m1_e, nI_add, pk_mul, pk_sub, nI_leI, nI_ltI, nI_eq, le_T, le_F, lt_T, lt_F, eq_T, eq_F, if_pos, if_neg, m1_le, m1_lt', m1_gt, m1_le', m1_eq, m1_qe, b2i_eq0, in_N, in_n, in_I, ↓reduceIte, Bool.true_eq_false, Bool.false_eq_true, reduceCtorEq, decide_eq_true_eq, decide_eq_false_iff_not, Nat.not_lt, Nat.not_le, not_true_eq_false, not_false_eq_true, true_and, and_true, and_self, false_and, and_false, true_or, or_true, false_or, or_false, f_X12_qOpens, S.k, bad, a4, fa]
  · have Q0 : QQ (sI h (x + 107) 95 (nI (o + 1))) x w c W (o + 1) bs := by
      obtain ⟨s1, ⟨b1, b2⟩, ⟨t1, t2⟩, u4, u5, u6, u7⟩ := Q
      exact ⟨s1.of rfl rfl, ⟨by rw [hI_sI, if_neg (by omega)]; exact b1, fun i hi => by rw [hI_sI, if_neg (by omega)]; exact b2 i hi⟩, ⟨by rw [hI_sI, if_neg (by omega)]; exact t1, fun i hi => by rw [hI_sI, if_neg (by omega)]; exact t2 i hi⟩, by rw [hI_sI, if_pos ⟨rfl, rfl⟩], by rw [hI_sI, if_neg (by omega)]; exact u5, by rw [hI_sI, if_neg (by omega)]; exact u6, u7⟩
    have Q1 := Q0.push (v := v) hW hv
    refine ⟨_, ?_, Q1, ((qy_s (by unfold QD; omega)).trans (qy_s (by unfold QD; omega))).trans (qy_s (by unfold QD; omega))⟩
    have o6 : ¬ o = 6 := by omega
    generalize W.length = l at *
    simp (disch := omega) only [nm, bd_s, ko_K, ka_K, koK_t, kaK_t, kr_s, kn_s, kn_n, hK_sI, hR_sI, hK_sL, hR_sL, hI_sL, hL_sI, hL_sL, hI_sI, hN_sI, hN_sL, ch_G, ch_T, nb_0, nb_1, zb_G, d_T, d_F, d_eT, d_eF, b2i_t, b2i_f, tn_nI, fa_lit, fa_litL, m1_e, nI_add, pk_mul, pk_sub, nI_leI, nI_ltI, nI_eq, le_T, le_F, lt_T, lt_F, eq_T, eq_F, if_pos, if_neg, m1_le, m1_lt', m1_gt, m1_le', m1_eq, m1_qe, b2i_eq0, in_N, in_n, in_I, ↓reduceIte, Bool.true_eq_false, Bool.false_eq_true, reduceCtorEq, decide_eq_true_eq, decide_eq_false_iff_not, Nat.not_lt, Nat.not_le, not_true_eq_false, not_false_eq_true, true_and, and_true, and_self, false_and, and_false, true_or, or_true, false_or, or_false, f_X12_qOpens, ↓nm, ↓ko_t S.k, S.k, bad, a4, ↓kr_t S.r93, S.r93, ↓ka_t S.k93, S.k93, d1]
/-- operators that bind as tightly are told, this one waits -/
theorem m_mul {q : Nat} (hq : q ≤ 100) : ∀ (P R c : List Nat) (k : Nat) (h : aH), (∀ v ∈ P, v = 3 ∨ v = 4) → (∀ v, R.head? = some v → ¬ v = 3 ∧ ¬ v = 4) → P.length < k → c.length + P.length ≤ 1650 → R.length < 1650 → QQ h x w c (P ++ R) o bs → ∃ h1, f_X12_qGoesOn_162 k (x + 107) (nI q) h = some (nI 1, h1) ∧ QQ h1 x w (c ++ P) (q :: R) o bs ∧ QY x h h1 := by
  intro P
  induction P with
  | nil =>
    intro R c k h hP hR hk hc hl Q
    obtain ⟨k, rfl⟩ : ∃ j, k = j + 1 := ⟨k - 1, by have : (0 : Nat) < k := hk; omega⟩
    have Q : QQ h x w c R o bs := Q
    have S := Q.1
    have d1 := Q.2.2.1.1
    have i3 := m_isOn Q (q := 3) (by omega)
    have i4 := m_isOn Q (q := 4) (by omega)
    rw [decide_eq_false (fun z => (hR 3 z).1 rfl), b2i_f] at i3
    rw [decide_eq_false (fun z => (hR 4 z).2 rfl), b2i_f] at i4
    rw [List.append_nil]
    refine ⟨_, ?_, Q.push (v := q) hl hq, (qy_s (by unfold QD; omega)).trans (qy_s (by unfold QD; omega))⟩
    generalize R.length = l at *
    simp (disch := omega) only [nm, bd_s, ko_K, ka_K, koK_t, kaK_t, kr_s, kn_s, kn_n, hK_sI, hR_sI, hK_sL, hR_sL, hI_sL, hL_sI, hL_sL, hI_sI, hN_sI, hN_sL, ch_G, ch_T, nb_0, nb_1, zb_G, d_T, d_F, d_eT, d_eF, b2i_t, b2i_f, tn_nI, fa_lit, fa_litL, m1_e, nI_add, pk_mul, pk_sub, nI_leI, nI_ltI, nI_eq, le_T, le_F, lt_T, lt_F, eq_T, eq_F, if_pos, if_neg, m1_le, m1_lt', m1_gt, m1_le', m1_eq, m1_qe, b2i_eq0, in_N, in_n, in_I, ↓reduceIte, Bool.true_eq_false, Bool.false_eq_true, reduceCtorEq, decide_eq_true_eq, decide_eq_false_iff_not, Nat.not_lt, Nat.not_le, not_true_eq_false, not_false_eq_true, true_and, and_true, and_self, false_and, and_false, true_or, or_true, false_or, or_false, f_X12_qGoesOn_162, b_X12_qGoesOn_162, ↓nm, ↓ko_t S.k, S.k, ↓bd_t i3, ↓bd_t i4, i3, i4, ↓kr_t S.r93, S.r93, ↓ka_t S.k93, S.k93, d1]
  | cons v P ih =>
    intro R c k h hP hR hk hc hl Q
    obtain ⟨k, rfl⟩ : ∃ j, k = j + 1 := ⟨k - 1, by have : P.length + 1 < k := hk; omega⟩
    have hk : P.length + 1 < k + 1 := hk
    have hc : c.length + (P.length + 1) ≤ 1650 := hc
    have Q : QQ h x w c (v :: (P ++ R)) o bs := Q
    have S := Q.1
    obtain ⟨h1, e1, Q1, y1⟩ := m_drops Q (by omega)
    obtain ⟨h2, e2, Q2, y2⟩ := ih R (c ++ [v]) k h1 (fun u hu => hP u (List.mem_cons_of_mem _ hu)) hR (by omega) (by simp; omega) hl Q1
    refine ⟨h2, ?_, by rw [List.append_assoc] at Q2; exact Q2, y1.trans y2⟩
    rw [← e2]
    have i3 := m_isOn Q (q := 3) (by omega)
    have i4 := m_isOn Q (q := 4) (by omega)
    rcases hP v (List.mem_cons_self) with rfl | rfl
    · rw [decide_eq_true (by simp), b2i_t] at i3
      simp (disch := omega) only [nm, bd_s, ko_K, ka_K, koK_t, kaK_t, kr_s, kn_s, kn_n, hK_sI, hR_sI, hK_sL, hR_sL, hI_sL, hL_sI, hL_sL, hI_sI, hN_sI, hN_sL, ch_G, ch_T, nb_0, nb_1, zb_G, d_T, d_F, d_eT, d_eF, b2i_t, b2i_f, tn_nI, fa_lit, fa_litL, m1_e, nI_add, pk_mul, pk_sub, nI_leI, nI_ltI, nI_eq, le_T, le_F, lt_T, lt_F, eq_T, eq_F, if_pos, if_neg, m1_le, m1_lt', m1_gt, m1_le', m1_eq, m1_qe, b2i_eq0, in_N, in_n, in_I, ↓reduceIte, Bool.true_eq_false, Bool.false_eq_true, reduceCtorEq, decide_eq_true_eq, decide_eq_false_iff_not, Nat.not_lt, Nat.not_le, not_true_eq_false, not_false_eq_true, true_and, and_true, and_self, false_and, and_false, true_or, or_true, false_or, or_false, f_X12_qGoesOn_162, b_X12_qGoesOn_162, f_X12_qGoesOn_178, S.k, i3, e1]
    · rw [decide_eq_false (by simp), b2i_f] at i3
      rw [decide_eq_true (by simp), b2i_t] at i4
      simp (disch := omega) only [nm, bd_s, ko_K, ka_K, koK_t, kaK_t, kr_s, kn_s, kn_n, hK_sI, hR_sI, hK_sL, hR_sL, hI_sL, hL_sI, hL_sL, hI_sI, hN_sI, hN_sL, ch_G, ch_T, nb_0, nb_1, zb_G, d_T, d_F, d_eT, d_eF, b2i_t, b2i_f, tn_nI, fa_lit, fa_litL, m1_e, nI_add, pk_mul, pk_sub, nI_leI, nI_ltI, nI_eq, le_T, le_F, lt_T, lt_F, eq_T, eq_F, if_pos, if_neg, m1_le, m1_lt', m1_gt, m1_le', m1_eq, m1_qe, b2i_eq0, in_N, in_n, in_I, ↓reduceIte, Bool.true_eq_false, Bool.false_eq_true, reduceCtorEq, decide_eq_true_eq, decide_eq_false_iff_not, Nat.not_lt, Nat.not_le, not_true_eq_false, not_false_eq_true, true_and, and_true, and_self, false_and, and_false, true_or, or_true, false_or, or_false, f_X12_qGoesOn_162, b_X12_qGoesOn_162, f_X12_qGoesOn_178, S.k, i3, i4, e1]
theorem m_add {q : Nat} (hq : q ≤ 100) : ∀ (P R c : List Nat) (k : Nat) (h : aH), (∀ v ∈ P, v = 1 ∨ v = 2 ∨ v = 3 ∨ v = 4) → (∀ v, R.head? = some v → ¬ v = 1 ∧ ¬ v = 2 ∧ ¬ v = 3 ∧ ¬ v = 4) → P.length < k → c.length + P.length ≤ 1650 → R.length < 1650 → QQ h x w c (P ++ R) o bs → ∃ h1, f_X12_qGoesOn_247 k (x + 107) (nI q) h = some (nI 1, h1) ∧ QQ h1 x w (c ++ P) (q :: R) o bs ∧ QY x h h1 := by
  intro P
  induction P with
  | nil =>
    intro R c k h hP hR hk hc hl Q
    obtain ⟨k, rfl⟩ : ∃ j, k = j + 1 := ⟨k - 1, by have : (0 : Nat) < k := hk; omega⟩
    have Q : QQ h x w c R o bs := Q
    have S := Q.1
    have d1 := Q.2.2.1.1
    have i1 := m_isOn Q (q := 1) (by omega)
    have i2 := m_isOn Q (q := 2) (by omega)
    have i3 := m_isOn Q (q := 3) (by omega)
    have i4 := m_isOn Q (q := 4) (by omega)
    rw [decide_eq_false (fun z => (hR 1 z).1 rfl), b2i_f] at i1
    rw [decide_eq_false (fun z => (hR 2 z).2.1 rfl), b2i_f] at i2
    rw [decide_eq_false (fun z => (hR 3 z).2.2.1 rfl), b2i_f] at i3
    rw [decide_eq_false (fun z => (hR 4 z).2.2.2 rfl), b2i_f] at i4
    rw [List.append_nil]
    refine ⟨_, ?_, Q.push (v := q) hl hq, (qy_s (by unfold QD; omega)).trans (qy_s (by unfold QD; omega))⟩
    have i1 : f_X12_qIsOn (x + 107) 1 h = some (nI 0, h) := i1
    have i2 : f_X12_qIsOn (x + 107) 2 h = some (nI 0, h) := i2
    have i3 : f_X12_qIsOn (x + 107) 3 h = some (nI 0, h) := i3
    have i4 : f_X12_qIsOn (x + 107) 4 h = some (nI 0, h) := i4
    generalize R.length = l at *
    simp (disch := omega) only [nm, bd_s, ko_K, ka_K, koK_t, kaK_t, kr_s, kn_s, kn_n, hK_sI, hR_sI, hK_sL, hR_sL, hI_sL, hL_sI, hL_sL, hI_sI, hN_sI, hN_sL, ch_G, ch_T, nb_0, nb_1, zb_G, d_T, d_F, d_eT, d_eF, b2i_t, b2i_f, tn_nI, fa_lit, fa_litL, m1_e, nI_add, pk_mul, pk_sub, nI_leI, nI_ltI, nI_eq, le_T, le_F, lt_T, lt_F, eq_T, eq_F, if_pos, if_neg, m1_le, m1_lt', m1_gt, m1_le', m1_eq, m1_qe, b2i_eq0, in_N, in_n, in_I, ↓reduceIte, Bool.true_eq_false, Bool.false_eq_true, reduceCtorEq, decide_eq_true_eq, decide_eq_false_iff_not, Nat.not_lt, Nat.not_le, not_true_eq_false, not_false_eq_true, true_and, and_true, and_self, false_and, and_false, true_or, or_true, false_or, or_false, f_X12_qGoesOn_247, b_X12_qGoesOn_247, ↓nm, ↓ko_t S.k, S.k, ↓bd_t i3, ↓bd_t i4, ↓bd_t i1, ↓bd_t i2, ↓kr_t S.r93, S.r93, ↓ka_t S.k93, S.k93, d1]
  | cons v P ih =>
    intro R c k h hP hR hk hc hl Q
    obtain ⟨k, rfl⟩ : ∃ j, k = j + 1 := ⟨k - 1, by have : P.length + 1 < k := hk; omega⟩
    have hk : P.length + 1 < k + 1 := hk
    have hc : c.length + (P.length + 1) ≤ 1650 := hc
    have Q : QQ h x w c (v :: (P ++ R)) o bs := Q
    have S := Q.1
    obtain ⟨h1, e1, Q1, y1⟩ := m_drops Q (by omega)
    obtain ⟨h2, e2, Q2, y2⟩ := ih R (c ++ [v]) k h1 (fun u hu => hP u (List.mem_cons_of_mem _ hu)) hR (by omega) (by simp; omega) hl Q1
    refine ⟨h2, ?_, by rw [List.append_assoc] at Q2; exact Q2, y1.trans y2⟩
    rw [← e2]
    have i1 := m_isOn Q (q := 1) (by omega)
    have i2 := m_isOn Q (q := 2) (by omega)
    have i3 := m_isOn Q (q := 3) (by omega)
    have i4 := m_isOn Q (q := 4) (by omega)
    rcases hP v (List.mem_cons_self) with rfl | rfl | rfl | rfl
    · rw [decide_eq_true (by simp), b2i_t] at i1
      rw [decide_eq_false (by simp), b2i_f] at i3 i4
      simp (disch := omega) only [nm, bd_s, ko_K, ka_K, koK_t, kaK_t, kr_s, kn_s, kn_n, hK_sI, hR_sI, hK_sL, hR_sL, hI_sL, hL_sI, hL_sL, hI_sI, hN_sI, hN_sL, ch_G, ch_T, nb_0, nb_1, zb_G, d_T, d_F, d_eT, d_eF, b2i_t, b2i_f, tn_nI, fa_lit, fa_litL, m1_e, nI_add, pk_mul, pk_sub, nI_leI, nI_ltI, nI_eq, le_T, le_F, lt_T, lt_F, eq_T, eq_F, if_pos, if_neg, m1_le, m1_lt', m1_gt, m1_le', m1_eq, m1_qe, b2i_eq0, in_N, in_n, in_I, ↓reduceIte, Bool.true_eq_false, Bool.false_eq_true, reduceCtorEq, decide_eq_true_eq, decide_eq_false_iff_not, Nat.not_lt, Nat.not_le, not_true_eq_false, not_false_eq_true, true_and, and_true, and_self, false_and, and_false, true_or, or_true, false_or, or_false, f_X12_qGoesOn_247, b_X12_qGoesOn_247, f_X12_qGoesOn_279, S.k, i3, i4, i1, e1]
    · rw [decide_eq_true (by simp), b2i_t] at i2
      rw [decide_eq_false (by simp), b2i_f] at i1 i3 i4
      simp (disch := omega) only [nm, bd_s, ko_K, ka_K, koK_t, kaK_t, kr_s, kn_s, kn_n, hK_sI, hR_sI, hK_sL, hR_sL, hI_sL, hL_sI, hL_sL, hI_sI, hN_sI, hN_sL, ch_G, ch_T, nb_0, nb_1, zb_G, d_T, d_F, d_eT, d_eF, b2i_t, b2i_f, tn_nI, fa_lit, fa_litL, m1_e, nI_add, pk_mul, pk_sub, nI_leI, nI_ltI, nI_eq, le_T, le_F, lt_T, lt_F, eq_T, eq_F, if_pos, if_neg, m1_le, m1_lt', m1_gt, m1_le', m1_eq, m1_qe, b2i_eq0, in_N, in_n, in_I, ↓reduceIte, Bool.true_eq_false, Bool.false_eq_true, reduceCtorEq, decide_eq_true_eq, decide_eq_false_iff_not, Nat.not_lt, Nat.not_le, not_true_eq_false, not_false_eq_true, true_and, and_true, and_self, false_and, and_false, true_or, or_true, false_or, or_false, f_X12_qGoesOn_247, b_X12_qGoesOn_247, f_X12_qGoesOn_279, S.k, i3, i4, i1, i2, e1]
    · rw [decide_eq_true (by simp), b2i_t] at i3
      simp (disch := omega) only [nm, bd_s, ko_K, ka_K, koK_t, kaK_t, kr_s, kn_s, kn_n, hK_sI, hR_sI, hK_sL, hR_sL, hI_sL, hL_sI, hL_sL, hI_sI, hN_sI, hN_sL, ch_G, ch_T, nb_0, nb_1, zb_G, d_T, d_F, d_eT, d_eF, b2i_t, b2i_f, tn_nI, fa_lit, fa_litL, m1_e, nI_add, pk_mul, pk_sub, nI_leI, nI_ltI, nI_eq, le_T, le_F, lt_T, lt_F, eq_T, eq_F, if_pos, if_neg, m1_le, m1_lt', m1_gt, m1_le', m1_eq, m1_qe, b2i_eq0, in_N, in_n, in_I, ↓reduceIte, Bool.true_eq_false, Bool.false_eq_true, reduceCtorEq, decide_eq_true_eq, decide_eq_false_iff_not, Nat.not_lt, Nat.not_le, not_true_eq_false, not_false_eq_true, true_and, and_true, and_self, false_and, and_false, true_or, or_true, false_or, or_false, f_X12_qGoesOn_247, b_X12_qGoesOn_247, f_X12_qGoesOn_279, S.k, i3, e1]
    · rw [decide_eq_true (by simp), b2i_t] at i4
      rw [decide_eq_false (by simp), b2i_f] at i3
      simp (disch := omega) only [nm, bd_s, ko_K, ka_K, koK_t, kaK_t, kr_s, kn_s, kn_n, hK_sI, hR_sI, hK_sL, hR_sL, hI_sL, hL_sI, hL_sL, hI_sI, hN_sI, hN_sL, ch_G, ch_T, nb_0, nb_1, zb_G, d_T, d_F, d_eT, d_eF, b2i_t, b2i_f, tn_nI, fa_lit, fa_litL, m1_e, nI_add, pk_mul, pk_sub, nI_leI, nI_ltI, nI_eq, le_T, le_F, lt_T, lt_F, eq_T, eq_F, if_pos, if_neg, m1_le, m1_lt', m1_gt, m1_le', m1_eq, m1_qe, b2i_eq0, in_N, in_n, in_I, ↓reduceIte, Bool.true_eq_false, Bool.false_eq_true, reduceCtorEq, decide_eq_true_eq, decide_eq_false_iff_not, Nat.not_lt, Nat.not_le, not_true_eq_false, not_false_eq_true, true_and, and_true, and_self, false_and, and_false, true_or, or_true, false_or, or_false, f_X12_qGoesOn_247, b_X12_qGoesOn_247, f_X12_qGoesOn_279, S.k, i3, i4, e1]
end Qp
