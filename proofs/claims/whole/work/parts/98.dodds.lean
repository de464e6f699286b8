/-! odds -/
def coF (p : Nat → Bool) : Nat → Nat → Nat
  | 0, _ => 0
  | j + 1, w => (if p w then 1 else 0) + coF p j (w + 1)
theorem coF_le (p : Nat → Bool) : ∀ j w, coF p j w ≤ j := by
  intro j
  induction j with
  | zero => intro w; exact Nat.le_refl _
  | succ j ih => intro w; have := ih (w + 1); unfold coF; split <;> omega
section Od
variable {h : aH} {x r tl : Nat} {tp : Nat → Nat} {rf : Nat → Int32} {ft fp : Int32} {sd : Nat} {M mem sh : Nat} {ns : Nat → List Nat} {kd : Nat → Nat} {cd : Nat → List Nat} {N : tyN} {sl : Nat → tyN} {nx c cr : Nat} {rn : Nat} {rw_ : Nat → Nat} {on_ : Nat} {ob : Nat → Nat}
theorem c_odds (O : Ok (r, tl, tp, rf, ft, fp, sd) (M, mem, sh, ns, kd, cd) N (sl, nx, c, cr) (rn, rw_) (on_, ob)) (hr : r = 1) {a : Nat} : ∀ (j w n k : Nat) (hh : aH), w + j = 101 → 1 ≤ w → j < n → k + j ≤ 200 → CX hh x (r, tl, tp, rf, ft, fp, sd) (M, mem, sh, ns, kd, cd) N (sl, nx, c, cr) (rn, rw_) (on_, ob) → hR hh x 9 = some a → ∃ h1, f_X11_odds_13 n x (nI k) (nI w) hh = some (nI (k + coF (fun w => (seS M mem cd N w).isSome) j w), h1) ∧ CX h1 x (r, tl, tp, rf, ft, fp, sd) (M, mem, sh, ns, kd, cd) N (sl, nx, c, cr) (rn, rw_) (on_, ob) ∧ FC x hh h1 := by
  intro j
  induction j with
  | zero =>
    intro w n k hh hw w1 hn hk C h9
    obtain ⟨n, rfl⟩ : ∃ m, n = m + 1 := ⟨n - 1, by omega⟩
    refine ⟨hh, ?_, C, FC.refl x hh⟩
    have hw : w = 101 := by omega
    subst hw
    show _ = some (nI k, hh)
    simp (disch := omega) only [nm, bd_s, ko_K, ka_K, koK_t, kaK_t, kr_s, kn_s, kn_n, hK_sI, hR_sI, hK_sL, hR_sL, hI_sL, hL_sI, hL_sL, hI_sI, hN_sI, hN_sL, ch_G, ch_T, nb_0, nb_1, zb_G, d_T, d_F, d_eT, d_eF, b2i_t, b2i_f, tn_nI, fa_lit, fa_litL, m1_e, nI_add, pk_mul, pk_sub, nI_leI, nI_ltI, nI_eq, le_T, le_F, lt_T, lt_F, eq_T, eq_F, if_pos, if_neg, m1_le, m1_lt', m1_gt, m1_le', m1_eq, m1_qe, b2i_eq0, in_N, in_n, in_I, ↓reduceIte, Bool.true_eq_false, Bool.false_eq_true, reduceCtorEq, decide_eq_true_eq, decide_eq_false_iff_not, Nat.not_lt, Nat.not_le, not_true_eq_false, not_false_eq_true, true_and, and_true, and_self, false_and, and_false, true_or, or_true, false_or, or_false, f_X11_odds_13, b_X11_odds_13]
  | succ j ih =>
    intro w n k hh hw w1 hn hk C h9
    obtain ⟨n, rfl⟩ : ∃ m, n = m + 1 := ⟨n - 1, by omega⟩
    have S := C.1
    obtain ⟨h1, i1, i2, i3, i4, -⟩ := c_search C O hr (a := a) (w := w) h9 w1 (by omega)
    have e : coF (fun w => (seS M mem cd N w).isSome) (j + 1) w = (if (seS M mem cd N w).isSome then 1 else 0) + coF (fun w => (seS M mem cd N w).isSome) j (w + 1) := rfl
    rw [e]
    clear e
    cases q : (seS M mem cd N w).isSome with
    | false =>
      rw [q] at i1
      have i1 : f_X1_search (x + 86) a (nI w) hh = some (nI 0, h1) := i1
      obtain ⟨h2, j1, j2, j3⟩ := ih (w + 1) n k h1 (by omega) (by omega) (by omega) (by omega) i2 i4
      refine ⟨h2, ?_, j2, i3.trans j3⟩
      rw [show k + ((if false = true then 1 else 0) + coF (fun w => (seS M mem cd N w).isSome) j (w + 1)) = k + coF (fun w => (seS M mem cd N w).isSome) j (w + 1) by rw [if_neg (by decide), Nat.zero_add]]
      simp (disch := omega) only [nm, bd_s, ko_K, ka_K, koK_t, kaK_t, kr_s, kn_s, kn_n, hK_sI, hR_sI, hK_sL, hR_sL, hI_sL, hL_sI, hL_sL, hI_sI, hN_sI, hN_sL, ch_G, ch_T, nb_0, nb_1, zb_G, d_T, d_F, d_eT, d_eF, b2i_t, b2i_f, tn_nI, fa_lit, fa_litL, m1_e, nI_add, pk_mul, pk_sub, nI_leI, nI_ltI, nI_eq, le_T, le_F, lt_T, lt_F, eq_T, eq_F, if_pos, if_neg, m1_le, m1_lt', m1_gt, m1_le', m1_eq, m1_qe, b2i_eq0, in_N, in_n, in_I, ↓reduceIte, Bool.true_eq_false, Bool.false_eq_true, reduceCtorEq, decide_eq_true_eq, decide_eq_false_iff_not, Nat.not_lt, Nat.not_le, not_true_eq_false, not_false_eq_true, true_and, and_true, and_self, false_and, and_false, true_or, or_true, false_or, or_false, f_X11_odds_13, b_X11_odds_13, f_X11_odds_37, S.k0, S.r0_6, h9, S.k86, i1, j1]
    | true =>
      rw [q] at i1
      have i1 : f_X1_search (x + 86) a (nI w) hh = some (nI 1, h1) := i1
      obtain ⟨h2, j1, j2, j3⟩ := ih (w + 1) n (k + 1) h1 (by omega) (by omega) (by omega) (by omega) i2 i4
      refine ⟨h2, ?_, j2, i3.trans j3⟩
      rw [show k + ((if true = true then 1 else 0) + coF (fun w => (seS M mem cd N w).isSome) j (w + 1)) = k + 1 + coF (fun w => (seS M mem cd N w).isSome) j (w + 1) by rw [if_pos rfl]; omega]
      simp (disch := omega) only [nm, bd_s, ko_K, ka_K, koK_t, kaK_t, kr_s, kn_s, kn_n, hK_sI, hR_sI, hK_sL, hR_sL, hI_sL, hL_sI, hL_sL, hI_sI, hN_sI, hN_sL, ch_G, ch_T, nb_0, nb_1, zb_G, d_T, d_F, d_eT, d_eF, b2i_t, b2i_f, tn_nI, fa_lit, fa_litL, m1_e, nI_add, pk_mul, pk_sub, nI_leI, nI_ltI, nI_eq, le_T, le_F, lt_T, lt_F, eq_T, eq_F, if_pos, if_neg, m1_le, m1_lt', m1_gt, m1_le', m1_eq, m1_qe, b2i_eq0, in_N, in_n, in_I, ↓reduceIte, Bool.true_eq_false, Bool.false_eq_true, reduceCtorEq, decide_eq_true_eq, decide_eq_false_iff_not, Nat.not_lt, Nat.not_le, not_true_eq_false, not_false_eq_true, true_and, and_true, and_self, false_and, and_false, true_or, or_true, false_or, or_false, f_X11_odds_13, b_X11_odds_13, f_X11_odds_37, S.k0, S.r0_6, h9, S.k86, i1, j1]
theorem KS_some {h : aH} {g a : Nat} {k : Int} (q : HS h x (some (g, a, k))) : a ≤ 4096 := q.2.2.2.1
theorem m_odds (O : Ok (r, tl, tp, rf, ft, fp, sd) (M, mem, sh, ns, kd, cd) N (sl, nx, c, cr) (rn, rw_) (on_, ob)) (hr : r = 1) (hs : ∀ w, 1 ≤ w → w ≤ 1024 → ∀ g a k, seS M mem cd N w = some (g, a, k) → a ≤ 4096) : ∀ (j w n k : Nat) (hh : aH), w + j = 101 → 1 ≤ w → j < n → k + j ≤ 200 → CM hh (x + 107) (r, tl, tp, rf, ft, fp, sd) (M, mem, sh, ns, kd, cd) N (sl, nx, c, cr) (rn, rw_) (on_, ob) → ∃ h1, f_X12_odds_13 n (x + 107) (nI k) (nI w) hh = some (nI (k + coF (fun w => (seS M mem cd N w).isSome) j w), h1) ∧ CM h1 (x + 107) (r, tl, tp, rf, ft, fp, sd) (M, mem, sh, ns, kd, cd) N (sl, nx, c, cr) (rn, rw_) (on_, ob) ∧ FM x hh h1 := by
  intro j
  induction j with
  | zero =>
    intro w n k hh hw w1 hn hk Q
    obtain ⟨n, rfl⟩ : ∃ m, n = m + 1 := ⟨n - 1, by omega⟩
    refine ⟨hh, ?_, Q, FM.refl x hh⟩
    have hw : w = 101 := by omega
    subst hw
    show _ = some (nI k, hh)
    simp (disch := omega) only [nm, bd_s, ko_K, ka_K, koK_t, kaK_t, kr_s, kn_s, kn_n, hK_sI, hR_sI, hK_sL, hR_sL, hI_sL, hL_sI, hL_sL, hI_sI, hN_sI, hN_sL, ch_G, ch_T, nb_0, nb_1, zb_G, d_T, d_F, d_eT, d_eF, b2i_t, b2i_f, tn_nI, fa_lit, fa_litL, m1_e, nI_add, pk_mul, pk_sub, nI_leI, nI_ltI, nI_eq, le_T, le_F, lt_T, lt_F, eq_T, eq_F, if_pos, if_neg, m1_le, m1_lt', m1_gt, m1_le', m1_eq, m1_qe, b2i_eq0, in_N, in_n, in_I, ↓reduceIte, Bool.true_eq_false, Bool.false_eq_true, reduceCtorEq, decide_eq_true_eq, decide_eq_false_iff_not, Nat.not_lt, Nat.not_le, not_true_eq_false, not_false_eq_true, true_and, and_true, and_self, false_and, and_false, true_or, or_true, false_or, or_false, f_X12_odds_13, b_X12_odds_13]
  | succ j ih =>
    intro w n k hh hw w1 hn hk Q
    obtain ⟨n, rfl⟩ : ∃ m, n = m + 1 := ⟨n - 1, by omega⟩
    have T := Q.1
    obtain ⟨h1, i1, i2, i3⟩ := m_roomFor Q O hr (w := w) w1 (by omega)
    have e : coF (fun w => (seS M mem cd N w).isSome) (j + 1) w = (if (seS M mem cd N w).isSome then 1 else 0) + coF (fun w => (seS M mem cd N w).isSome) j (w + 1) := rfl
    rw [e]
    clear e
    have hs1 := hs w w1 (by omega)
    cases q : seS M mem cd N w with
    | none =>
      rw [q] at i1
      have i1 : f_X12_roomFor (x + 107) (nI w) hh = some (-nI 1, h1) := i1
      obtain ⟨h2, j1, j2, j3⟩ := ih (w + 1) n k h1 (by omega) (by omega) (by omega) (by omega) i2
      refine ⟨h2, ?_, j2, i3.trans j3⟩
      rw [show k + ((if Option.isSome (none : tyS) = true then 1 else 0) + coF (fun w => (seS M mem cd N w).isSome) j (w + 1)) = k + coF (fun w => (seS M mem cd N w).isSome) j (w + 1) by rw [if_neg (by decide), Nat.zero_add]]
      simp (disch := omega) only [nm, bd_s, ko_K, ka_K, koK_t, kaK_t, kr_s, kn_s, kn_n, hK_sI, hR_sI, hK_sL, hR_sL, hI_sL, hL_sI, hL_sL, hI_sI, hN_sI, hN_sL, ch_G, ch_T, nb_0, nb_1, zb_G, d_T, d_F, d_eT, d_eF, b2i_t, b2i_f, tn_nI, fa_lit, fa_litL, m1_e, nI_add, pk_mul, pk_sub, nI_leI, nI_ltI, nI_eq, le_T, le_F, lt_T, lt_F, eq_T, eq_F, if_pos, if_neg, m1_le, m1_lt', m1_gt, m1_le', m1_eq, m1_qe, b2i_eq0, in_N, in_n, in_I, ↓reduceIte, Bool.true_eq_false, Bool.false_eq_true, reduceCtorEq, decide_eq_true_eq, decide_eq_false_iff_not, Nat.not_lt, Nat.not_le, not_true_eq_false, not_false_eq_true, true_and, and_true, and_self, false_and, and_false, true_or, or_true, false_or, or_false, f_X12_odds_13, b_X12_odds_13, f_X12_odds_31, T.k, i1, j1]
    | some s =>
      obtain ⟨g0, a0, k0⟩ := s
      rw [q] at i1
      have i1 : f_X12_roomFor (x + 107) (nI w) hh = some (nI a0, h1) := i1
      have a4 := hs1 g0 a0 k0 q
      have n1 := ne1 (n := a0) (by omega)
      obtain ⟨h2, j1, j2, j3⟩ := ih (w + 1) n (k + 1) h1 (by omega) (by omega) (by omega) (by omega) i2
      refine ⟨h2, ?_, j2, i3.trans j3⟩
      rw [show k + ((if Option.isSome (some (g0, a0, k0) : tyS) = true then 1 else 0) + coF (fun w => (seS M mem cd N w).isSome) j (w + 1)) = k + 1 + coF (fun w => (seS M mem cd N w).isSome) j (w + 1) by rw [if_pos (show Option.isSome (some (g0, a0, k0) : tyS) = true from rfl)]; omega]
      simp (disch := omega) only [nm, bd_s, ko_K, ka_K, koK_t, kaK_t, kr_s, kn_s, kn_n, hK_sI, hR_sI, hK_sL, hR_sL, hI_sL, hL_sI, hL_sL, hI_sI, hN_sI, hN_sL, ch_G, ch_T, nb_0, nb_1, zb_G, d_T, d_F, d_eT, d_eF, b2i_t, b2i_f, tn_nI, fa_lit, fa_litL, m1_e, nI_add, pk_mul, pk_sub, nI_leI, nI_ltI, nI_eq, le_T, le_F, lt_T, lt_F, eq_T, eq_F, if_pos, if_neg, m1_le, m1_lt', m1_gt, m1_le', m1_eq, m1_qe, b2i_eq0, in_N, in_n, in_I, ↓reduceIte, Bool.true_eq_false, Bool.false_eq_true, reduceCtorEq, decide_eq_true_eq, decide_eq_false_iff_not, Nat.not_lt, Nat.not_le, not_true_eq_false, not_false_eq_true, true_and, and_true, and_self, false_and, and_false, true_or, or_true, false_or, or_false, f_X12_odds_13, b_X12_odds_13, f_X12_odds_31, T.k, i1, n1, j1]
theorem CX.se4 (C : CX h x (r, tl, tp, rf, ft, fp, sd) (M, mem, sh, ns, kd, cd) N (sl, nx, c, cr) (rn, rw_) (on_, ob)) (O : Ok (r, tl, tp, rf, ft, fp, sd) (M, mem, sh, ns, kd, cd) N (sl, nx, c, cr) (rn, rw_) (on_, ob)) (hr : r = 1) : ∀ w, 1 ≤ w → w ≤ 1024 → ∀ g a k, seS M mem cd N w = some (g, a, k) → a ≤ 4096 := by
  intro w w1 w2 g a0 k q
  obtain ⟨a, ha, h9, A, B⟩ := C.run hr
  obtain ⟨h1, i1, i2, i3, i4, i5, -⟩ := c_search C O hr (a := a) (w := w) h9 w1 w2
  rw [q] at i5
  exact i5.2.2.2.1
theorem S_odds (C : CX h x (r, tl, tp, rf, ft, fp, sd) (M, mem, sh, ns, kd, cd) N (sl, nx, c, cr) (rn, rw_) (on_, ob)) (Q : CM h (x + 107) (r, tl, tp, rf, ft, fp, sd) (M, mem, sh, ns, kd, cd) N (sl, nx, c, cr) (rn, rw_) (on_, ob)) (O : Ok (r, tl, tp, rf, ft, fp, sd) (M, mem, sh, ns, kd, cd) N (sl, nx, c, cr) (rn, rw_) (on_, ob)) : SM Int32 x h (f_X11_odds x) (f_X12_odds (x + 107)) := by
  have S := C.1
  have e0 : hI h x 12 = nI r := C.2.1.1
  rcases O.r01 with hr | hr
  · refine glue0 C Q O (v := -nI 1) ?_ ?_
    · rw [hr] at e0
      simp (disch := omega) only [nm, bd_s, ko_K, ka_K, koK_t, kaK_t, kr_s, kn_s, kn_n, hK_sI, hR_sI, hK_sL, hR_sL, hI_sL, hL_sI, hL_sL, hI_sI, hN_sI, hN_sL, ch_G, ch_T, nb_0, nb_1, zb_G, d_T, d_F, d_eT, d_eF, b2i_t, b2i_f, tn_nI, fa_lit, fa_litL, m1_e, nI_add, pk_mul, pk_sub, nI_leI, nI_ltI, nI_eq, le_T, le_F, lt_T, lt_F, eq_T, eq_F, if_pos, if_neg, m1_le, m1_lt', m1_gt, m1_le', m1_eq, m1_qe, b2i_eq0, in_N, in_n, in_I, ↓reduceIte, Bool.true_eq_false, Bool.false_eq_true, reduceCtorEq, decide_eq_true_eq, decide_eq_false_iff_not, Nat.not_lt, Nat.not_le, not_true_eq_false, not_false_eq_true, true_and, and_true, and_self, false_and, and_false, true_or, or_true, false_or, or_false, f_X11_odds_37, b_X11_odds_13, f_X11_odds_13, f_X11_odds, S.k0, e0]
    · have T := Q.1
      have e1 : hI h (x + 107) 45 = nI r := Q.2.1.1
      rw [hr] at e1
      simp (disch := omega) only [nm, bd_s, ko_K, ka_K, koK_t, kaK_t, kr_s, kn_s, kn_n, hK_sI, hR_sI, hK_sL, hR_sL, hI_sL, hL_sI, hL_sL, hI_sI, hN_sI, hN_sL, ch_G, ch_T, nb_0, nb_1, zb_G, d_T, d_F, d_eT, d_eF, b2i_t, b2i_f, tn_nI, fa_lit, fa_litL, m1_e, nI_add, pk_mul, pk_sub, nI_leI, nI_ltI, nI_eq, le_T, le_F, lt_T, lt_F, eq_T, eq_F, if_pos, if_neg, m1_le, m1_lt', m1_gt, m1_le', m1_eq, m1_qe, b2i_eq0, in_N, in_n, in_I, ↓reduceIte, Bool.true_eq_false, Bool.false_eq_true, reduceCtorEq, decide_eq_true_eq, decide_eq_false_iff_not, Nat.not_lt, Nat.not_le, not_true_eq_false, not_false_eq_true, true_and, and_true, and_self, false_and, and_false, true_or, or_true, false_or, or_false, f_X12_odds_31, b_X12_odds_13, f_X12_odds_13, f_X12_odds, T.k, e1]
  · rw [hr] at e0
    obtain ⟨a, ha, h9, A, B⟩ := C.run hr
    obtain ⟨h1, i1, i2, i3⟩ := c_odds O hr (a := a) 100 1 FU 0 h (by omega) (by omega) (FU_gt (by omega)) (by omega) C h9
    have s4 := C.se4 O hr
    refine glue Q (v := nI (0 + coF (fun w => (seS M mem cd N w).isSome) 100 1)) ⟨h1, ?_, i2, i3⟩ (fun g Q0 => ?_) O
    · rw [← i1]
      simp (disch := omega) only [nm, bd_s, ko_K, ka_K, koK_t, kaK_t, kr_s, kn_s, kn_n, hK_sI, hR_sI, hK_sL, hR_sL, hI_sL, hL_sI, hL_sL, hI_sI, hN_sI, hN_sL, ch_G, ch_T, nb_0, nb_1, zb_G, d_T, d_F, d_eT, d_eF, b2i_t, b2i_f, tn_nI, fa_lit, fa_litL, m1_e, nI_add, pk_mul, pk_sub, nI_leI, nI_ltI, nI_eq, le_T, le_F, lt_T, lt_F, eq_T, eq_F, if_pos, if_neg, m1_le, m1_lt', m1_gt, m1_le', m1_eq, m1_qe, b2i_eq0, in_N, in_n, in_I, ↓reduceIte, Bool.true_eq_false, Bool.false_eq_true, reduceCtorEq, decide_eq_true_eq, decide_eq_false_iff_not, Nat.not_lt, Nat.not_le, not_true_eq_false, not_false_eq_true, true_and, and_true, and_self, false_and, and_false, true_or, or_true, false_or, or_false, f_X11_odds, S.k0, e0]
    · obtain ⟨g1, j1, j2, j3⟩ := m_odds O hr s4 100 1 FU 0 g (by omega) (by omega) (FU_gt (by omega)) (by omega) Q0
      have T := Q0.1
      have e1 : hI g (x + 107) 45 = nI r := Q0.2.1.1
      rw [hr] at e1
      refine ⟨g1, ?_, j2, j3⟩
      rw [← j1]
      simp (disch := omega) only [nm, bd_s, ko_K, ka_K, koK_t, kaK_t, kr_s, kn_s, kn_n, hK_sI, hR_sI, hK_sL, hR_sL, hI_sL, hL_sI, hL_sL, hI_sI, hN_sI, hN_sL, ch_G, ch_T, nb_0, nb_1, zb_G, d_T, d_F, d_eT, d_eF, b2i_t, b2i_f, tn_nI, fa_lit, fa_litL, m1_e, nI_add, pk_mul, pk_sub, nI_leI, nI_ltI, nI_eq, le_T, le_F, lt_T, lt_F, eq_T, eq_F, if_pos, if_neg, m1_le, m1_lt', m1_gt, m1_le', m1_eq, m1_qe, b2i_eq0, in_N, in_n, in_I, ↓reduceIte, Bool.true_eq_false, Bool.false_eq_true, reduceCtorEq, decide_eq_true_eq, decide_eq_false_iff_not, Nat.not_lt, Nat.not_le, not_true_eq_false, not_false_eq_true, true_and, and_true, and_self, false_and, and_false, true_or, or_true, false_or, or_false, f_X12_odds, T.k, e1]
end Od
