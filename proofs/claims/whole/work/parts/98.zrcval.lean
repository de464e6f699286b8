/-! QUESTIONS: what a formula says of a pointer, on the reference's side -/
section Cv0
variable {h : aH} {m d : Nat} {f : Nat → Int64}
theorem m_clipO {z : Int} (o : OV false z) : f_X12_qClip (vL z) h = some (vL z, h) := by
  have a := m_clip (h := h) (z := z) (by have := o.1; omega) (by have := o.2.1; omega)
  have e : clZ z = z := by
    unfold clZ
    rw [if_pos o.2.1, if_pos o.1]
  rw [e] at a
  exact a
theorem m_toldQ {k : Nat} {al : Nat → Bool} {fg : Nat → Int} {o1 : Nat → Int → Int} (T : MS h m) (hf : ∀ c, al c = true → c ≤ 50 → OV false (fg c)) (ho : ∀ c v, al c = true → (c = 60 ∨ c = 61) → OV false v → OV false (o1 c v)) (gp : ∀ c d f, al c = true → 40 ≤ c → c ≤ 50 → f_X12_qPartOf m (nI (c - 40)) (nI k) (PL h m d f) = some (vL (fg c), PL h m d f)) (go : ∀ c v d f, al c = true → (c = 60 ∨ c = 61) → OV false v → f_X12_qOf m (nI (c - 60)) (vL v) (nI k) (PL h m d f) = some (vL (o1 c v), PL h m d f)) {e : Nat} (he : e ≤ 1650) (e92 : hI h m 92 = nI e) : ∀ (l : List Nat) (i n : Nat) (s : List Int) (f : Nat → Int64) (ty : List Bool) (t : Bool), i + l.length = e → l.length < n → (∀ j, j < l.length → hI h (m + 64) (i + j) = nI (l.getD j 0)) → tyC al l ty = some [t] → TM ty s → SKL f s → ∃ d' f' v, f_X12_qTold_7 n m (nI k) (nI i) (PL h m s.length f) = some (vL v, PL h m d' f') ∧ evL fg o1 l s = [v] ∧ OV t v := by
  intro l
  induction l with
  | nil =>
    intro i n s f ty t hi hn hc ht hs hk
    obtain ⟨n, rfl⟩ : ∃ m, n = m + 1 := ⟨n - 1, by omega⟩
    have hi : i = e := by simpa using hi
    subst hi
    rw [tyC.eq_def] at ht
    cases ht
    obtain ⟨v, s1, rfl, v1, v2⟩ := hs.c1
    have : s1 = [] := List.length_eq_zero_iff.mp v2.len.symm
    subst this
    have T1 : MS (PL h m 1 f) m := T.of rfl rfl
    have l0 : hL (PL h m 1 f) (m + 66) 0 = vL v := by rw [PL_f]; exact hk.pop.1
    have e1 : hI (PL h m 1 f) m 92 = nI i := by rw [PL_o (by omega)]; exact e92
    refine ⟨1, f, v, ?_, rfl, v1⟩
    show f_X12_qTold_7 (n + 1) m (nI k) (nI i) (PL h m 1 f) = _
    simp (disch := omega) only [nm, bd_s, ko_K, ka_K, koK_t, kaK_t, kr_s, kn_s, kn_n, hK_sI, hR_sI, hK_sL, hR_sL, hI_sL, hL_sI, hL_sL, hI_sI, hN_sI, hN_sL, ch_G, ch_T, nb_0, nb_1, zb_G, d_T, d_F, d_eT, d_eF, b2i_t, b2i_f, tn_nI, fa_lit, fa_litL, m1_e, nI_add, pk_mul, pk_sub, nI_leI, nI_ltI, nI_eq, le_T, le_F, lt_T, lt_F, eq_T, eq_F, if_pos, if_neg, m1_le, m1_lt', m1_gt, m1_le', m1_eq, m1_qe, b2i_eq0, in_N, in_n, in_I, ↓reduceIte, Bool.true_eq_false, Bool.false_eq_true, reduceCtorEq, decide_eq_true_eq, decide_eq_false_iff_not, Nat.not_lt, Nat.not_le, not_true_eq_false, not_false_eq_true, true_and, and_true, and_self, false_and, and_false, true_or, or_true, false_or, or_false, f_X12_qTold_7, b_X12_qTold_7, T1.k, e1, T1.r97, T1.k97, l0]
  | cons c l ih =>
    intro i n s f ty t hi hn hc ht hs hk
    obtain ⟨n, rfl⟩ : ∃ m, n = m + 1 := ⟨n - 1, by omega⟩
    rw [List.length_cons] at hi hn
    obtain ⟨l60, ⟨ty1, t1, t2⟩, cs⟩ := ev_c (o1 := o1) hf ho ht hs
    have c0 : hI h (m + 64) i = nI c := hc 0 (by rw [List.length_cons]; omega)
    have hc' : ∀ j, j < l.length → hI h (m + 64) (i + 1 + j) = nI (l.getD j 0) := fun j hj => by
      have := hc (j + 1) (by rw [List.length_cons]; omega)
      rw [show i + 1 + j = i + (j + 1) by omega, this, List.getD_cons_succ]
    have nxt := fun (f2 : Nat → Int64) (hk2 : SKL f2 (evS fg o1 c s)) => ih (i + 1) n (evS fg o1 c s) f2 ty1 t (by omega) (by omega) hc' t1 t2 hk2
    have ev : evL fg o1 (c :: l) s = evL fg o1 l (evS fg o1 c s) := rfl
    rw [ev]
    have T1 : MS (PL h m s.length f) m := T.of rfl rfl
    have w1 : hI (PL h m s.length f) (m + 64) i = nI c := by rw [PL_o (by omega)]; exact c0
    have e1 : hI (PL h m s.length f) m 92 = nI e := by rw [PL_o (by omega)]; exact e92
    have e98 : hI (PL h m s.length f) m 98 = nI s.length := PL_98
    rcases cs with ⟨a1, a2, a3⟩ | ⟨a1, a2, v, s1, rfl, v1, v2, a3⟩ | ⟨a1, a2, a3, a4, a5⟩ | ⟨rfl, a2⟩ | ⟨rfl, v, s1, rfl, v1, a3⟩ | ⟨a1, a2, b, a', s2, rfl, v1, v2, a3⟩
    · rw [a3] at nxt ⊢
      obtain ⟨d', f', v, r1, r2⟩ := nxt _ (hk.push _)
      refine ⟨d', f', v, ?_, r2⟩
      have le : (nI (c - 1000)).toInt64 = vL ((c - 1000 : Nat) : Int) := by rw [nI_l (by omega), vL_n]
      have pu := q_puts (f := f) T (show s.length < 1700 by omega) (vL ((c - 1000 : Nat) : Int))
      rw [List.length_cons] at r1
      simp (disch := omega) only [nm, bd_s, ko_K, ka_K, koK_t, kaK_t, kr_s, kn_s, kn_n, hK_sI, hR_sI, hK_sL, hR_sL, hI_sL, hL_sI, hL_sL, hI_sI, hN_sI, hN_sL, ch_G, ch_T, nb_0, nb_1, zb_G, d_T, d_F, d_eT, d_eF, b2i_t, b2i_f, tn_nI, fa_lit, fa_litL, m1_e, nI_add, pk_mul, pk_sub, nI_leI, nI_ltI, nI_eq, le_T, le_F, lt_T, lt_F, eq_T, eq_F, if_pos, if_neg, m1_le, m1_lt', m1_gt, m1_le', m1_eq, m1_qe, b2i_eq0, in_N, in_n, in_I, ↓reduceIte, Bool.true_eq_false, Bool.false_eq_true, reduceCtorEq, decide_eq_true_eq, decide_eq_false_iff_not, Nat.not_lt, Nat.not_le, not_true_eq_false, not_false_eq_true, true_and, and_true, and_self, false_and, and_false, true_or, or_true, false_or, or_false, f_X12_qTold_7, b_X12_qTold_7, f_X12_qTold_162, T1.k, e1, T1.r91, T1.k91, w1, le, pu, r1]
    · rw [a3] at nxt ⊢
      have pp := hk.pop
      rw [List.length_cons] at l60 w1 e1 e98 T1
      obtain ⟨d', f', v', r1, r2⟩ := nxt _ (pp.2.push _)
      refine ⟨d', f', v', ?_, r2⟩
      have l1 : hL (PL h m (s1.length + 1) f) (m + 66) s1.length = vL v := by rw [PL_f]; exact pp.1
      have at1 := PL_at (h := h) (m := m) (d := s1.length + 1) (f := f) s1.length (vL (o1 c v))
      have g1 := go c v (s1.length + 1) f a2 a1 v1
      have cl := m_clipO (h := PL h m (s1.length + 1) f) v2
      rw [List.length_cons] at r1 ⊢
      simp (disch := omega) only [nm, bd_s, ko_K, ka_K, koK_t, kaK_t, kr_s, kn_s, kn_n, hK_sI, hR_sI, hK_sL, hR_sL, hI_sL, hL_sI, hL_sL, hI_sI, hN_sI, hN_sL, ch_G, ch_T, nb_0, nb_1, zb_G, d_T, d_F, d_eT, d_eF, b2i_t, b2i_f, tn_nI, fa_lit, fa_litL, m1_e, nI_add, pk_mul, pk_sub, nI_leI, nI_ltI, nI_eq, le_T, le_F, lt_T, lt_F, eq_T, eq_F, if_pos, if_neg, m1_le, m1_lt', m1_gt, m1_le', m1_eq, m1_qe, b2i_eq0, in_N, in_n, in_I, ↓reduceIte, Bool.true_eq_false, Bool.false_eq_true, reduceCtorEq, decide_eq_true_eq, decide_eq_false_iff_not, Nat.not_lt, Nat.not_le, not_true_eq_false, not_false_eq_true, true_and, and_true, and_self, false_and, and_false, true_or, or_true, false_or, or_false, f_X12_qTold_7, b_X12_qTold_7, f_X12_qTold_162, T1.k, e1, T1.r91, T1.k91, w1, e98, T1.r97, T1.k97, Nat.add_sub_cancel, l1, g1, cl, at1, r1]
    · rw [a5] at nxt ⊢
      obtain ⟨d', f', v', r1, r2⟩ := nxt _ (hk.push _)
      refine ⟨d', f', v', ?_, r2⟩
      have g1 := gp c s.length f a3 a1 a2
      have cl := m_clipO (h := PL h m s.length f) a4
      have pu := q_puts (f := f) T (show s.length < 1700 by omega) (vL (fg c))
      rw [List.length_cons] at r1
      simp (disch := omega) only [nm, bd_s, ko_K, ka_K, koK_t, kaK_t, kr_s, kn_s, kn_n, hK_sI, hR_sI, hK_sL, hR_sL, hI_sL, hL_sI, hL_sL, hI_sI, hN_sI, hN_sL, ch_G, ch_T, nb_0, nb_1, zb_G, d_T, d_F, d_eT, d_eF, b2i_t, b2i_f, tn_nI, fa_lit, fa_litL, m1_e, nI_add, pk_mul, pk_sub, nI_leI, nI_ltI, nI_eq, le_T, le_F, lt_T, lt_F, eq_T, eq_F, if_pos, if_neg, m1_le, m1_lt', m1_gt, m1_le', m1_eq, m1_qe, b2i_eq0, in_N, in_n, in_I, ↓reduceIte, Bool.true_eq_false, Bool.false_eq_true, reduceCtorEq, decide_eq_true_eq, decide_eq_false_iff_not, Nat.not_lt, Nat.not_le, not_true_eq_false, not_false_eq_true, true_and, and_true, and_self, false_and, and_false, true_or, or_true, false_or, or_false, f_X12_qTold_7, b_X12_qTold_7, f_X12_qTold_162, T1.k, e1, T1.r91, T1.k91, w1, g1, cl, pu, r1]
    · rw [a2] at nxt ⊢
      obtain ⟨d', f', v', r1, r2⟩ := nxt _ (hk.push _)
      refine ⟨d', f', v', ?_, r2⟩
      have pu := q_puts (f := f) T (show s.length < 1700 by omega) (lN 1)
      rw [List.length_cons, show vL 1 = lN 1 from rfl] at r1
      simp (disch := omega) only [nm, bd_s, ko_K, ka_K, koK_t, kaK_t, kr_s, kn_s, kn_n, hK_sI, hR_sI, hK_sL, hR_sL, hI_sL, hL_sI, hL_sL, hI_sI, hN_sI, hN_sL, ch_G, ch_T, nb_0, nb_1, zb_G, d_T, d_F, d_eT, d_eF, b2i_t, b2i_f, tn_nI, fa_lit, fa_litL, m1_e, nI_add, pk_mul, pk_sub, nI_leI, nI_ltI, nI_eq, le_T, le_F, lt_T, lt_F, eq_T, eq_F, if_pos, if_neg, m1_le, m1_lt', m1_gt, m1_le', m1_eq, m1_qe, b2i_eq0, in_N, in_n, in_I, ↓reduceIte, Bool.true_eq_false, Bool.false_eq_true, reduceCtorEq, decide_eq_true_eq, decide_eq_false_iff_not, Nat.not_lt, Nat.not_le, not_true_eq_false, not_false_eq_true, true_and, and_true, and_self, false_and, and_false, true_or, or_true, false_or, or_false, f_X12_qTold_7, b_X12_qTold_7, f_X12_qTold_162, T1.k, e1, T1.r91, T1.k91, w1, pu, r1]
    · rw [a3] at nxt ⊢
      have pp := hk.pop
      rw [List.length_cons] at l60 w1 e1 e98 T1
      obtain ⟨d', f', v', r1, r2⟩ := nxt _ (pp.2.push _)
      refine ⟨d', f', v', ?_, r2⟩
      have l1 : hL (PL h m (s1.length + 1) f) (m + 66) s1.length = vL v := by rw [PL_f]; exact pp.1
      have o : lN 1 - vL v = vL (1 - v) := by rw [vL_n, vL_sub]; rfl
      have at1 := PL_at (h := h) (m := m) (d := s1.length + 1) (f := f) s1.length (vL (1 - v))
      rw [List.length_cons] at r1 ⊢
      simp (disch := omega) only [nm, bd_s, ko_K, ka_K, koK_t, kaK_t, kr_s, kn_s, kn_n, hK_sI, hR_sI, hK_sL, hR_sL, hI_sL, hL_sI, hL_sL, hI_sI, hN_sI, hN_sL, ch_G, ch_T, nb_0, nb_1, zb_G, d_T, d_F, d_eT, d_eF, b2i_t, b2i_f, tn_nI, fa_lit, fa_litL, m1_e, nI_add, pk_mul, pk_sub, nI_leI, nI_ltI, nI_eq, le_T, le_F, lt_T, lt_F, eq_T, eq_F, if_pos, if_neg, m1_le, m1_lt', m1_gt, m1_le', m1_eq, m1_qe, b2i_eq0, in_N, in_n, in_I, ↓reduceIte, Bool.true_eq_false, Bool.false_eq_true, reduceCtorEq, decide_eq_true_eq, decide_eq_false_iff_not, Nat.not_lt, Nat.not_le, not_true_eq_false, not_false_eq_true, true_and, and_true, and_self, false_and, and_false, true_or, or_true, false_or, or_false, f_X12_qTold_7, b_X12_qTold_7, f_X12_qTold_162, T1.k, e1, T1.r91, T1.k91, w1, e98, T1.r97, T1.k97, Nat.add_sub_cancel, l1, o, at1, r1]
    · rw [a3] at nxt ⊢
      have pp := hk.pop
      have pq := pp.2.pop
      rw [List.length_cons, List.length_cons] at l60 w1 e1 e98 T1
      obtain ⟨d', f', v', r1, r2⟩ := nxt _ (pq.2.push _)
      refine ⟨d', f', v', ?_, r2⟩
      rw [List.length_cons] at pp
      have jo := q_joins (f := f) (d := s2.length) T (by omega) a1 a2 v2 v1 pq.1 pp.1
      rw [List.length_cons] at r1
      rw [List.length_cons, List.length_cons]
      simp (disch := omega) only [nm, bd_s, ko_K, ka_K, koK_t, kaK_t, kr_s, kn_s, kn_n, hK_sI, hR_sI, hK_sL, hR_sL, hI_sL, hL_sI, hL_sL, hI_sI, hN_sI, hN_sL, ch_G, ch_T, nb_0, nb_1, zb_G, d_T, d_F, d_eT, d_eF, b2i_t, b2i_f, tn_nI, fa_lit, fa_litL, m1_e, nI_add, pk_mul, pk_sub, nI_leI, nI_ltI, nI_eq, le_T, le_F, lt_T, lt_F, eq_T, eq_F, if_pos, if_neg, m1_le, m1_lt', m1_gt, m1_le', m1_eq, m1_qe, b2i_eq0, in_N, in_n, in_I, ↓reduceIte, Bool.true_eq_false, Bool.false_eq_true, reduceCtorEq, decide_eq_true_eq, decide_eq_false_iff_not, Nat.not_lt, Nat.not_le, not_true_eq_false, not_false_eq_true, true_and, and_true, and_self, false_and, and_false, true_or, or_true, false_or, or_false, f_X12_qTold_7, b_X12_qTold_7, f_X12_qTold_162, T1.k, e1, T1.r91, T1.k91, w1, jo, r1]
end Cv0
