section Ih
variable {h : aH} {x r tl : Nat} {tp : Nat → Nat} {rf : Nat → Int32} {ft fp : Int32} {sd : Nat} {M mem sh : Nat} {ns : Nat → List Nat} {kd : Nat → Nat} {cd : Nat → List Nat} {N : tyN} {sl : Nat → tyN} {nx c cr : Nat} {rn : Nat} {rw_ : Nat → Nat} {on_ : Nat} {ob : Nat → Nat}
def ckN (b : Nat → Nat) (n : Nat) : Nat := itr (fun i s => (3 * s + b i) % 251) n 0 149
theorem c_check {on : Nat} {ob' : Nat → Nat} (S : XS h x) (hb : ∀ j, j < on → hI h (x + 91) j = (nI (ob' j)).toInt8.toInt32) (h2 : ∀ j, ob' j ≤ 255) (hn : on ≤ 450) : f_X3_check (x + 91) (nI on) h = some (nI (ckN ob' on), h) ∧ ckN ob' on < 251 := by
  have L := loop_itr (fun k i (s : Nat) => f_X3_check_6 k (x + 91) (nI on) (nI s) (nI i) h) on (fun i s => (3 * s + ob' i) % 251) (fun s => (nI s, h)) (fun _ s => s < 251) (fun k i s hi hs => ⟨?_, Nat.mod_lt _ (by omega)⟩) (fun k s hs => ?_) on 0 149 FU (by omega) (by omega) (FU_gt (by omega))
  · exact ⟨L.1, L.2⟩
  · have q := hb i hi
    have e3 : (nI (ob' i)).toInt8.toInt32 &&& nI 255 = nI (ob' i) := by
      have := bp_b (nI (ob' i))
      rw [show (255 : Int32) = nI 255 from rfl] at this
      rw [this, an_255, Nat.mod_eq_of_lt (by have := h2 i; omega)]
    have e45 : Int32.ofNat 450 = nI 450 := rfl
    have o2 := h2 i
    have dv : nI (3 * s + ob' i) / nI 251 = nI ((3 * s + ob' i) / 251) := pk_div (by omega) (by omega) (by omega)
    have md : 3 * s + ob' i - (3 * s + ob' i) / 251 * 251 = (3 * s + ob' i) % 251 := by omega
    simp (disch := omega) only [nm, bd_s, ko_K, ka_K, koK_t, kaK_t, kr_s, kn_s, kn_n, hK_sI, hR_sI, hK_sL, hR_sL, hI_sL, hL_sI, hL_sL, hI_sI, hN_sI, hN_sL, ch_G, ch_T, nb_0, nb_1, zb_G, d_T, d_F, d_eT, d_eF, b2i_t, b2i_f, tn_nI, fa_lit, fa_litL, m1_e, nI_add, pk_mul, pk_sub, nI_leI, nI_ltI, nI_eq, le_T, le_F, lt_T, lt_F, eq_T, eq_F, if_pos, if_neg, m1_le, m1_lt', m1_gt, m1_le', m1_eq, m1_qe, b2i_eq0, in_N, in_n, in_I, ↓reduceIte, Bool.true_eq_false, Bool.false_eq_true, reduceCtorEq, decide_eq_true_eq, decide_eq_false_iff_not, Nat.not_lt, Nat.not_le, not_true_eq_false, not_false_eq_true, true_and, and_true, and_self, false_and, and_false, true_or, or_true, false_or, or_false, f_X3_check_6, b_X3_check_6, S.k91, q, e3, e45, dv, md]
  · simp (disch := omega) only [nm, bd_s, ko_K, ka_K, koK_t, kaK_t, kr_s, kn_s, kn_n, hK_sI, hR_sI, hK_sL, hR_sL, hI_sL, hL_sI, hL_sL, hI_sI, hN_sI, hN_sL, ch_G, ch_T, nb_0, nb_1, zb_G, d_T, d_F, d_eT, d_eF, b2i_t, b2i_f, tn_nI, fa_lit, fa_litL, m1_e, nI_add, pk_mul, pk_sub, nI_leI, nI_ltI, nI_eq, le_T, le_F, lt_T, lt_F, eq_T, eq_F, if_pos, if_neg, m1_le, m1_lt', m1_gt, m1_le', m1_eq, m1_qe, b2i_eq0, in_N, in_n, in_I, ↓reduceIte, Bool.true_eq_false, Bool.false_eq_true, reduceCtorEq, decide_eq_true_eq, decide_eq_false_iff_not, Nat.not_lt, Nat.not_le, not_true_eq_false, not_false_eq_true, true_and, and_true, and_self, false_and, and_false, true_or, or_true, false_or, or_false, f_X3_check_6, b_X3_check_6, f_X3_check_39]
theorem m_check {on : Nat} {ob' : Nat → Nat} (T : MS h (x + 107)) (hb : ∀ j, j < on → j < 450 → hI h (x + 107 + 67) j = nI (ob' j)) (h2 : ∀ j, ob' j ≤ 255) (hn : on ≤ 450) : f_X12_checked (x + 107 + 67) (nI on) h = some (nI (ckN ob' on), h) := by
  have L := loop_itr (fun k i (s : Nat) => f_X12_checked_6 k (x + 107 + 67) (nI on) (nI s) (nI i) h) on (fun i s => (3 * s + ob' i) % 251) (fun s => (nI s, h)) (fun _ s => s < 251) (fun k i s hi hs => ⟨?_, Nat.mod_lt _ (by omega)⟩) (fun k s hs => ?_) on 0 149 FU (by omega) (by omega) (FU_gt (by omega))
  · exact L.1
  · have q := hb i hi (by omega)
    have o2 := h2 i
    have dv : nI (3 * s + ob' i) / nI 251 = nI ((3 * s + ob' i) / 251) := pk_div (by omega) (by omega) (by omega)
    have md : 3 * s + ob' i - (3 * s + ob' i) / 251 * 251 = (3 * s + ob' i) % 251 := by omega
    simp (disch := omega) only [nm, bd_s, ko_K, ka_K, koK_t, kaK_t, kr_s, kn_s, kn_n, hK_sI, hR_sI, hK_sL, hR_sL, hI_sL, hL_sI, hL_sL, hI_sI, hN_sI, hN_sL, ch_G, ch_T, nb_0, nb_1, zb_G, d_T, d_F, d_eT, d_eF, b2i_t, b2i_f, tn_nI, fa_lit, fa_litL, m1_e, nI_add, pk_mul, pk_sub, nI_leI, nI_ltI, nI_eq, le_T, le_F, lt_T, lt_F, eq_T, eq_F, if_pos, if_neg, m1_le, m1_lt', m1_gt, m1_le', m1_eq, m1_qe, b2i_eq0, in_N, in_n, in_I, ↓reduceIte, Bool.true_eq_false, Bool.false_eq_true, reduceCtorEq, decide_eq_true_eq, decide_eq_false_iff_not, Nat.not_lt, Nat.not_le, not_true_eq_false, not_false_eq_true, true_and, and_true, and_self, false_and, and_false, true_or, or_true, false_or, or_false, f_X12_checked_6, b_X12_checked_6, T.k101, q, dv, md]
  · simp (disch := omega) only [nm, bd_s, ko_K, ka_K, koK_t, kaK_t, kr_s, kn_s, kn_n, hK_sI, hR_sI, hK_sL, hR_sL, hI_sL, hL_sI, hL_sL, hI_sI, hN_sI, hN_sL, ch_G, ch_T, nb_0, nb_1, zb_G, d_T, d_F, d_eT, d_eF, b2i_t, b2i_f, tn_nI, fa_lit, fa_litL, m1_e, nI_add, pk_mul, pk_sub, nI_leI, nI_ltI, nI_eq, le_T, le_F, lt_T, lt_F, eq_T, eq_F, if_pos, if_neg, m1_le, m1_lt', m1_gt, m1_le', m1_eq, m1_qe, b2i_eq0, in_N, in_n, in_I, ↓reduceIte, Bool.true_eq_false, Bool.false_eq_true, reduceCtorEq, decide_eq_true_eq, decide_eq_false_iff_not, Nat.not_lt, Nat.not_le, not_true_eq_false, not_false_eq_true, true_and, and_true, and_self, false_and, and_false, true_or, or_true, false_or, or_false, f_X12_checked_6, b_X12_checked_6]
theorem c_objs (O : Ok (r, tl, tp, rf, ft, fp, sd) (M, mem, sh, ns, kd, cd) N (sl, nx, c, cr) (rn, rw_) (on_, ob)) (hr : r = 1) : ∀ (j i n : Nat) (F : tyE) (hh : aH), i + j = N 256 → CX hh x (r, tl, tp, rf, ft, fp, sd) (M, mem, sh, ns, kd, cd) N (sl, nx, c, cr) (rn, rw_) F → F.1 + 6 * j < 450 → ∃ h1, f_X3_write_41 (n + 1 + j) (x + 90) (x + 3) (nI i) hh = f_X3_write_41 (n + 1) (x + 90) (x + 3) (nI (N 256)) h1 ∧ CX h1 x (r, tl, tp, rf, ft, fp, sd) (M, mem, sh, ns, kd, cd) N (sl, nx, c, cr) (rn, rw_) (obF N j i F) ∧ FC x hh h1 := by
  have okn := O.okn hr
  have n32 := okn.2.2.2.2.1
  intro j
  induction j with
  | zero =>
    intro i n F hh hi C hF
    have hi : i = N 256 := by omega
    subst hi
    exact ⟨hh, rfl, C, FC.refl x hh⟩
  | succ j ih =>
    intro i n F hh hi C hF
    obtain ⟨on, ob'⟩ := F
    have hF : on + 6 * (j + 1) < 450 := hF
    have S := C.1
    have W := S.now
    have e6 : hI hh (x + 3) 6 = nI (N 256) := C.2.2.2.1.2.1
    obtain ⟨v1, -, -⟩ := C.2.2.2.1.2.2.1 i (by omega) (by omega)
    obtain ⟨h1, e1, C1, F1, G1⟩ := CX.ad2 (on_ := on) C (v := N (257 + 3 * i)) (by omega) (okn.1 _)
    have S1 := C1.1
    have W1 := S1.now
    obtain ⟨-, v2, -⟩ := C1.2.2.2.1.2.2.1 i (by omega) (by omega)
    obtain ⟨h2, e2, C2, F2, G2⟩ := CX.ad2 (on_ := on + 2) C1 (v := N (258 + 3 * i)) (by omega) (okn.1 _)
    have S2 := C2.1
    have W2 := S2.now
    obtain ⟨-, -, v3⟩ := C2.2.2.2.1.2.2.1 i (by omega) (by omega)
    obtain ⟨h3, e3, C3, F3, G3⟩ := CX.ad2 (on_ := on + 4) C2 (v := N (259 + 3 * i)) (by omega) (okn.1 _)
    obtain ⟨h4, i1, i2, i3⟩ := ih (i + 1) n (apL (on, ob') (imO N i)) h3 (by omega) C3 (by rw [apL_1]; show on + 6 + 6 * j < 450; omega)
    refine ⟨h4, ?_, i2, ((F1.trans F2).trans F3).trans i3⟩
    rw [← i1]
    show f_X3_write_41 ((n + 1 + j) + 1) (x + 90) (x + 3) (nI i) hh = _
    generalize n + 1 + j = n1
    simp (disch := omega) only [nm, bd_s, ko_K, ka_K, koK_t, kaK_t, kr_s, kn_s, kn_n, hK_sI, hR_sI, hK_sL, hR_sL, hI_sL, hL_sI, hL_sL, hI_sI, hN_sI, hN_sL, ch_G, ch_T, nb_0, nb_1, zb_G, d_T, d_F, d_eT, d_eF, b2i_t, b2i_f, tn_nI, fa_lit, fa_litL, m1_e, nI_add, pk_mul, pk_sub, nI_leI, nI_ltI, nI_eq, le_T, le_F, lt_T, lt_F, eq_T, eq_F, if_pos, if_neg, m1_le, m1_lt', m1_gt, m1_le', m1_eq, m1_qe, b2i_eq0, in_N, in_n, in_I, ↓reduceIte, Bool.true_eq_false, Bool.false_eq_true, reduceCtorEq, decide_eq_true_eq, decide_eq_false_iff_not, Nat.not_lt, Nat.not_le, not_true_eq_false, not_false_eq_true, true_and, and_true, and_self, false_and, and_false, true_or, or_true, false_or, or_false, f_X3_write_41, b_X3_write_41, W.k, e6, W.r1, W.k2, v1, S.k90, e1, W1.k, W1.r2, W1.k3, v2, S1.k90, e2, W2.k, W2.r3, W2.k4, v3, S2.k90, e3]
end Ih
