/-! the image: a cell, an object -/
def apL (F : tyE) (l : List Nat) : tyE := l.foldl adF F
theorem apL_1 (l : List Nat) : ∀ F : tyE, (apL F l).1 = F.1 + l.length := by
  induction l with
  | nil => intro F; rfl
  | cons v l ih => intro F; show (apL (adF F v) l).1 = _; rw [ih, List.length_cons]; show F.1 + 1 + l.length = _; omega
theorem apL_255 (l : List Nat) : ∀ F : tyE, (∀ v ∈ l, v ≤ 255) → (∀ j, F.2 j ≤ 255) → ∀ j, (apL F l).2 j ≤ 255 := by
  induction l with
  | nil => intro F _ h j; exact h j
  | cons v l ih =>
    intro F hl hF j
    refine ih (adF F v) (fun w hw => hl w (List.mem_cons_of_mem v hw)) (fun j => ?_) j
    show updN F.2 F.1 v j ≤ 255
    unfold updN
    split
    · exact hl v List.mem_cons_self
    · exact hF j
def imC (N : tyN) (k : Nat) : List Nat := if N (8 * k) = 2 then [255, 255, 255, 255, 255, 255, 255, 255] else [N (8 * k), N (8 * k + 1) / 256, N (8 * k + 1) % 256, N (8 * k + 2), N (8 * k + 3), N (8 * k + 4), N (8 * k + 5), N (8 * k + 6)]
def imO (N : tyN) (i : Nat) : List Nat := [N (257 + 3 * i) / 256, N (257 + 3 * i) % 256, N (258 + 3 * i) / 256, N (258 + 3 * i) % 256, N (259 + 3 * i) / 256, N (259 + 3 * i) % 256]
section If
variable {h : aH} {x r tl : Nat} {tp : Nat → Nat} {rf : Nat → Int32} {ft fp : Int32} {sd : Nat} {M mem sh : Nat} {ns : Nat → List Nat} {kd : Nat → Nat} {cd : Nat → List Nat} {N : tyN} {sl : Nat → tyN} {nx c cr : Nat} {rn : Nat} {rw_ : Nat → Nat} {on_ : Nat} {ob : Nat → Nat}
theorem CX.cw (C : CX h x (r, tl, tp, rf, ft, fp, sd) (M, mem, sh, ns, kd, cd) N (sl, nx, c, cr) (rn, rw_) (on_, ob)) {k : Nat} (hk : k < 32) (hn : on_ + 8 ≤ 450) (o1 : N (8 * k) ≤ 2) (o2 : N (8 * k + 1) < 4096) : ∃ h1, f_X3_writeCell (x + 90) (x + 3 + 7 + k) h = some ((), h1) ∧ CX h1 x (r, tl, tp, rf, ft, fp, sd) (M, mem, sh, ns, kd, cd) N (sl, nx, c, cr) (rn, rw_) (apL (on_, ob) (imC N k)) ∧ FC x h h1 ∧ hR h1 = hR h := by
  have S := C.1
  have kp := S.now.kp (k := k) hk
  unfold imC
  by_cases z : N (8 * k) = 2
  · rw [if_pos z]
    have p0 : hI h (x + 3 + 7 + k) 0 = nI 0 := by
      rcases C.2.2.2.1.1 k hk with q | q
      · exact q.2.1
      · omega
    obtain ⟨h1, e1, C1, F1, G1⟩ := CX.ad1 (on_ := on_) C (v := 255) (by omega)
    have S1 := C1.1
    obtain ⟨h2, e2, C2, F2, G2⟩ := CX.ad1 (on_ := on_ + 1) C1 (v := 255) (by omega)
    have S2 := C2.1
    obtain ⟨h3, e3, C3, F3, G3⟩ := CX.ad1 (on_ := on_ + 2) C2 (v := 255) (by omega)
    have S3 := C3.1
    obtain ⟨h4, e4, C4, F4, G4⟩ := CX.ad1 (on_ := on_ + 3) C3 (v := 255) (by omega)
    have S4 := C4.1
    obtain ⟨h5, e5, C5, F5, G5⟩ := CX.ad1 (on_ := on_ + 4) C4 (v := 255) (by omega)
    have S5 := C5.1
    obtain ⟨h6, e6, C6, F6, G6⟩ := CX.ad1 (on_ := on_ + 5) C5 (v := 255) (by omega)
    have S6 := C6.1
    obtain ⟨h7, e7, C7, F7, G7⟩ := CX.ad1 (on_ := on_ + 6) C6 (v := 255) (by omega)
    have S7 := C7.1
    obtain ⟨h8, e8, C8, F8, G8⟩ := CX.ad1 (on_ := on_ + 7) C7 (v := 255) (by omega)
    have S8 := C8.1
    obtain ⟨m, hm⟩ : ∃ m, FU = m + 9 := ⟨FU - 9, by have := FU_gt (k := 9) (by omega); omega⟩
    refine ⟨h8, ?_, C8, (((((((F1).trans F2).trans F3).trans F4).trans F5).trans F6).trans F7).trans F8, G8.trans (G7.trans (G6.trans (G5.trans (G4.trans (G3.trans (G2.trans (G1)))))))⟩
    simp (disch := omega) only [nm, bd_s, ko_K, ka_K, koK_t, kaK_t, kr_s, kn_s, kn_n, hK_sI, hR_sI, hK_sL, hR_sL, hI_sL, hL_sI, hL_sL, hI_sI, hN_sI, hN_sL, ch_G, ch_T, nb_0, nb_1, zb_G, d_T, d_F, d_eT, d_eF, b2i_t, b2i_f, tn_nI, fa_lit, fa_litL, m1_e, nI_add, pk_mul, pk_sub, nI_leI, nI_ltI, nI_eq, le_T, le_F, lt_T, lt_F, eq_T, eq_F, if_pos, if_neg, m1_le, m1_lt', m1_gt, m1_le', m1_eq, m1_qe, b2i_eq0, in_N, in_n, in_I, ↓reduceIte, Bool.true_eq_false, Bool.false_eq_true, reduceCtorEq, decide_eq_true_eq, decide_eq_false_iff_not, Nat.not_lt, Nat.not_le, not_true_eq_false, not_false_eq_true, true_and, and_true, and_self, false_and, and_false, true_or, or_true, false_or, or_false, f_X3_writeCell, kp, p0, hm, f_X3_writeCell_9, b_X3_writeCell_9, S.k90, e1, S1.k90, e2, S2.k90, e3, S3.k90, e4, S4.k90, e5, S5.k90, e6, S6.k90, e7, S7.k90, e8, S8.k90]
  · rw [if_neg z]
    have fl : N (8 * k) ≤ 1 := by omega
    obtain ⟨p0, p1, -⟩ := C.2.2.2.1.cl hk fl
    obtain ⟨h1, e1, C1, F1, G1⟩ := C.ad1 (v := N (8 * k)) (by omega)
    have S1 := C1.1
    have k1 := S1.now.kp (k := k) hk
    have v1 := (C1.2.2.2.1.cl hk fl).2.2.1
    obtain ⟨h2, e2, C2, F2, G2⟩ := CX.ad2 (on_ := on_ + 1) C1 (v := N (8 * k + 1)) (by omega) (by omega)
    have S2 := C2.1
    have k2 := S2.now.kp (k := k) hk
    have v2 := (C2.2.2.2.1.cl hk fl).2.2.2.1
    obtain ⟨h3, e3, C3, F3, G3⟩ := CX.ad1 (on_ := on_ + 3) C2 (v := N (8 * k + 2)) (by omega)
    have S3 := C3.1
    have k3 := S3.now.kp (k := k) hk
    have v3 := (C3.2.2.2.1.cl hk fl).2.2.2.2.1
    obtain ⟨h4, e4, C4, F4, G4⟩ := CX.ad1 (on_ := on_ + 4) C3 (v := N (8 * k + 3)) (by omega)
    have S4 := C4.1
    have k4 := S4.now.kp (k := k) hk
    have v4 := (C4.2.2.2.1.cl hk fl).2.2.2.2.2.1
    obtain ⟨h5, e5, C5, F5, G5⟩ := CX.ad1 (on_ := on_ + 5) C4 (v := N (8 * k + 4)) (by omega)
    have S5 := C5.1
    have k5 := S5.now.kp (k := k) hk
    have v5 := (C5.2.2.2.1.cl hk fl).2.2.2.2.2.2.1
    obtain ⟨h6, e6, C6, F6, G6⟩ := CX.ad1 (on_ := on_ + 6) C5 (v := N (8 * k + 5)) (by omega)
    have S6 := C6.1
    have k6 := S6.now.kp (k := k) hk
    have v6 := (C6.2.2.2.1.cl hk fl).2.2.2.2.2.2.2
    obtain ⟨h7, e7, C7, F7, G7⟩ := CX.ad1 (on_ := on_ + 7) C6 (v := N (8 * k + 6)) (by omega)
    have S7 := C7.1
    have k7 := S7.now.kp (k := k) hk
    refine ⟨h7, ?_, C7, ((((((F1).trans F2).trans F3).trans F4).trans F5).trans F6).trans F7, G7.trans (G6.trans (G5.trans (G4.trans (G3.trans (G2.trans (G1))))))⟩
    have r1 : f_X3_writeCell (x + 90) (x + 3 + 7 + k) h = f_X3_writeCell_42 (x + 90) (x + 3 + 7 + k) (x + 90) (nI (N (8 * k))) h := by
      rcases (show N (8 * k) = 0 ∨ N (8 * k) = 1 by omega) with y | y <;> rw [y] at p1 ⊢
      · simp (disch := omega) only [nm, bd_s, ko_K, ka_K, koK_t, kaK_t, kr_s, kn_s, kn_n, hK_sI, hR_sI, hK_sL, hR_sL, hI_sL, hL_sI, hL_sL, hI_sI, hN_sI, hN_sL, ch_G, ch_T, nb_0, nb_1, zb_G, d_T, d_F, d_eT, d_eF, b2i_t, b2i_f, tn_nI, fa_lit, fa_litL, m1_e, nI_add, pk_mul, pk_sub, nI_leI, nI_ltI, nI_eq, le_T, le_F, lt_T, lt_F, eq_T, eq_F, if_pos, if_neg, m1_le, m1_lt', m1_gt, m1_le', m1_eq, m1_qe, b2i_eq0, in_N, in_n, in_I, ↓reduceIte, Bool.true_eq_false, Bool.false_eq_true, reduceCtorEq, decide_eq_true_eq, decide_eq_false_iff_not, Nat.not_lt, Nat.not_le, not_true_eq_false, not_false_eq_true, true_and, and_true, and_self, false_and, and_false, true_or, or_true, false_or, or_false, f_X3_writeCell, kp, p0, p1]
      · simp (disch := omega) only [nm, bd_s, ko_K, ka_K, koK_t, kaK_t, kr_s, kn_s, kn_n, hK_sI, hR_sI, hK_sL, hR_sL, hI_sL, hL_sI, hL_sL, hI_sI, hN_sI, hN_sL, ch_G, ch_T, nb_0, nb_1, zb_G, d_T, d_F, d_eT, d_eF, b2i_t, b2i_f, tn_nI, fa_lit, fa_litL, m1_e, nI_add, pk_mul, pk_sub, nI_leI, nI_ltI, nI_eq, le_T, le_F, lt_T, lt_F, eq_T, eq_F, if_pos, if_neg, m1_le, m1_lt', m1_gt, m1_le', m1_eq, m1_qe, b2i_eq0, in_N, in_n, in_I, ↓reduceIte, Bool.true_eq_false, Bool.false_eq_true, reduceCtorEq, decide_eq_true_eq, decide_eq_false_iff_not, Nat.not_lt, Nat.not_le, not_true_eq_false, not_false_eq_true, true_and, and_true, and_self, false_and, and_false, true_or, or_true, false_or, or_false, f_X3_writeCell, kp, p0, p1]
    rw [r1]
    simp (disch := omega) only [nm, bd_s, ko_K, ka_K, koK_t, kaK_t, kr_s, kn_s, kn_n, hK_sI, hR_sI, hK_sL, hR_sL, hI_sL, hL_sI, hL_sL, hI_sI, hN_sI, hN_sL, ch_G, ch_T, nb_0, nb_1, zb_G, d_T, d_F, d_eT, d_eF, b2i_t, b2i_f, tn_nI, fa_lit, fa_litL, m1_e, nI_add, pk_mul, pk_sub, nI_leI, nI_ltI, nI_eq, le_T, le_F, lt_T, lt_F, eq_T, eq_F, if_pos, if_neg, m1_le, m1_lt', m1_gt, m1_le', m1_eq, m1_qe, b2i_eq0, in_N, in_n, in_I, ↓reduceIte, Bool.true_eq_false, Bool.false_eq_true, reduceCtorEq, decide_eq_true_eq, decide_eq_false_iff_not, Nat.not_lt, Nat.not_le, not_true_eq_false, not_false_eq_true, true_and, and_true, and_self, false_and, and_false, true_or, or_true, false_or, or_false, f_X3_writeCell_42, S.k90, e1, S1.k90, k1, v1, e2, S2.k90, k2, v2, e3, S3.k90, k3, v3, e4, S4.k90, k4, v4, e5, S5.k90, k5, v5, e6, S6.k90, k6, v6, e7]
theorem CM.cw (Q : CM h (x + 107) (r, tl, tp, rf, ft, fp, sd) (M, mem, sh, ns, kd, cd) N (sl, nx, c, cr) (rn, rw_) (on_, ob)) {k : Nat} (hk : k < 32) (hn : on_ + 8 ≤ 450) (o1 : N (8 * k) ≤ 2) (o2 : N (8 * k + 1) < 4096) : ∃ h1, f_X12_writesPointer (x + 107) (nI (8 * k)) h = some ((), h1) ∧ CM h1 (x + 107) (r, tl, tp, rf, ft, fp, sd) (M, mem, sh, ns, kd, cd) N (sl, nx, c, cr) (rn, rw_) (apL (on_, ob) (imC N k)) ∧ FM x h h1 := by
  have T := Q.1
  unfold imC
  by_cases z : N (8 * k) = 2
  · rw [if_pos z]
    have p0 : hI h (x + 107 + 34) (8 * k) = -nI 1 := by rw [Q.2.2.2.1 _ (by omega)]; exact mN_2 z (by omega) (by omega)
    obtain ⟨h1, e1, Q1, F1⟩ := CM.ad1 (on_ := on_) Q (v := 255) (by omega)
    have T1 := Q1.1
    obtain ⟨h2, e2, Q2, F2⟩ := CM.ad1 (on_ := on_ + 1) Q1 (v := 255) (by omega)
    have T2 := Q2.1
    obtain ⟨h3, e3, Q3, F3⟩ := CM.ad1 (on_ := on_ + 2) Q2 (v := 255) (by omega)
    have T3 := Q3.1
    obtain ⟨h4, e4, Q4, F4⟩ := CM.ad1 (on_ := on_ + 3) Q3 (v := 255) (by omega)
    have T4 := Q4.1
    obtain ⟨h5, e5, Q5, F5⟩ := CM.ad1 (on_ := on_ + 4) Q4 (v := 255) (by omega)
    have T5 := Q5.1
    obtain ⟨h6, e6, Q6, F6⟩ := CM.ad1 (on_ := on_ + 5) Q5 (v := 255) (by omega)
    have T6 := Q6.1
    obtain ⟨h7, e7, Q7, F7⟩ := CM.ad1 (on_ := on_ + 6) Q6 (v := 255) (by omega)
    have T7 := Q7.1
    obtain ⟨h8, e8, Q8, F8⟩ := CM.ad1 (on_ := on_ + 7) Q7 (v := 255) (by omega)
    have T8 := Q8.1
    obtain ⟨m, hm⟩ : ∃ m, FU = m + 9 := ⟨FU - 9, by have := FU_gt (k := 9) (by omega); omega⟩
    refine ⟨h8, ?_, Q8, (((((((F1).trans F2).trans F3).trans F4).trans F5).trans F6).trans F7).trans F8⟩
    simp (disch := omega) only [nm, bd_s, ko_K, ka_K, koK_t, kaK_t, kr_s, kn_s, kn_n, hK_sI, hR_sI, hK_sL, hR_sL, hI_sL, hL_sI, hL_sL, hI_sI, hN_sI, hN_sL, ch_G, ch_T, nb_0, nb_1, zb_G, d_T, d_F, d_eT, d_eF, b2i_t, b2i_f, tn_nI, fa_lit, fa_litL, m1_e, nI_add, pk_mul, pk_sub, nI_leI, nI_ltI, nI_eq, le_T, le_F, lt_T, lt_F, eq_T, eq_F, if_pos, if_neg, m1_le, m1_lt', m1_gt, m1_le', m1_eq, m1_qe, b2i_eq0, in_N, in_n, in_I, ↓reduceIte, Bool.true_eq_false, Bool.false_eq_true, reduceCtorEq, decide_eq_true_eq, decide_eq_false_iff_not, Nat.not_lt, Nat.not_le, not_true_eq_false, not_false_eq_true, true_and, and_true, and_self, false_and, and_false, true_or, or_true, false_or, or_false, f_X12_writesPointer, T.k, T.r47, T.k47, p0, hm, f_X12_writesPointer_12, b_X12_writesPointer_12, e1, T1.k, e2, T2.k, e3, T3.k, e4, T4.k, e5, T5.k, e6, T6.k, e7, T7.k, e8, T8.k]
  · rw [if_neg z]
    have fl : N (8 * k) ≤ 1 := by omega
    have p0 := (Q.q hk fl).1
    have ne := ne1 (n := N (8 * k)) (by omega)
    obtain ⟨h1, e1, Q1, F1⟩ := Q.ad1 (v := N (8 * k)) (by omega)
    have T1 := Q1.1
    have v1 := (Q1.q hk fl).2.1
    obtain ⟨h2, e2, Q2, F2⟩ := CM.ad2 (on_ := on_ + 1) Q1 (v := N (8 * k + 1)) (by omega) (by omega)
    have T2 := Q2.1
    have v2 := (Q2.q hk fl).2.2.1
    obtain ⟨h3, e3, Q3, F3⟩ := CM.ad1 (on_ := on_ + 3) Q2 (v := N (8 * k + 2)) (by omega)
    have T3 := Q3.1
    have v3 := (Q3.q hk fl).2.2.2.1
    obtain ⟨h4, e4, Q4, F4⟩ := CM.ad1 (on_ := on_ + 4) Q3 (v := N (8 * k + 3)) (by omega)
    have T4 := Q4.1
    have v4 := (Q4.q hk fl).2.2.2.2.1
    obtain ⟨h5, e5, Q5, F5⟩ := CM.ad1 (on_ := on_ + 5) Q4 (v := N (8 * k + 4)) (by omega)
    have T5 := Q5.1
    have v5 := (Q5.q hk fl).2.2.2.2.2.1
    obtain ⟨h6, e6, Q6, F6⟩ := CM.ad1 (on_ := on_ + 6) Q5 (v := N (8 * k + 5)) (by omega)
    have T6 := Q6.1
    have v6 := (Q6.q hk fl).2.2.2.2.2.2
    obtain ⟨h7, e7, Q7, F7⟩ := CM.ad1 (on_ := on_ + 7) Q6 (v := N (8 * k + 6)) (by omega)
    have T7 := Q7.1
    obtain ⟨m, hm⟩ : ∃ m, FU = m + 6 := ⟨FU - 6, by have := FU_gt (k := 6) (by omega); omega⟩
    refine ⟨h7, ?_, Q7, ((((((F1).trans F2).trans F3).trans F4).trans F5).trans F6).trans F7⟩
    simp (disch := omega) only [nm, bd_s, ko_K, ka_K, koK_t, kaK_t, kr_s, kn_s, kn_n, hK_sI, hR_sI, hK_sL, hR_sL, hI_sL, hL_sI, hL_sL, hI_sI, hN_sI, hN_sL, ch_G, ch_T, nb_0, nb_1, zb_G, d_T, d_F, d_eT, d_eF, b2i_t, b2i_f, tn_nI, fa_lit, fa_litL, m1_e, nI_add, pk_mul, pk_sub, nI_leI, nI_ltI, nI_eq, le_T, le_F, lt_T, lt_F, eq_T, eq_F, if_pos, if_neg, m1_le, m1_lt', m1_gt, m1_le', m1_eq, m1_qe, b2i_eq0, in_N, in_n, in_I, ↓reduceIte, Bool.true_eq_false, Bool.false_eq_true, reduceCtorEq, decide_eq_true_eq, decide_eq_false_iff_not, Nat.not_lt, Nat.not_le, not_true_eq_false, not_false_eq_true, true_and, and_true, and_self, false_and, and_false, true_or, or_true, false_or, or_false, f_X12_writesPointer, T.k, T.r47, T.k47, p0, ne, e1, T1.k, T1.r47, T1.k47, v1, e2, hm, f_X12_writesPointer_56, b_X12_writesPointer_56, T2.k, T2.r47, T2.k47, v2, e3, T3.k, T3.r47, T3.k47, v3, e4, T4.k, T4.r47, T4.k47, v4, e5, T5.k, T5.r47, T5.k47, v5, e6, T6.k, T6.r47, T6.k47, v6, e7]
end If
