/-! the image: one byte -/
def IM (x b j : Nat) : Prop := b = x + 90 ∧ j = 1 ∨ b = x + 91
def adF (F : tyE) (v : Nat) : tyE := (F.1 + 1, updN F.2 F.1 v)
theorem i8_i8 (x : Int32) : x.toInt8.toInt32.toInt8.toInt32 = x.toInt8.toInt32 := by_twice x
section Im
variable {h : aH} {x r tl : Nat} {tp : Nat → Nat} {rf : Nat → Int32} {ft fp : Int32} {sd : Nat} {M mem sh : Nat} {ns : Nat → List Nat} {kd : Nat → Nat} {cd : Nat → List Nat} {N : tyN} {sl : Nat → tyN} {nx c cr : Nat} {rn : Nat} {rw_ : Nat → Nat} {on_ : Nat} {ob : Nat → Nat}
theorem CX.im {h1 : aH} {n : Nat} {b : Nat → Nat} (C : CX h x (r, tl, tp, rf, ft, fp, sd) (M, mem, sh, ns, kd, cd) N (sl, nx, c, cr) (rn, rw_) (on_, ob)) (f : FX x (IM x) h h1) (e2 : hR h1 = hR h) (el : hL h1 = hL h) (q : cF h1 x n b) : CX h1 x (r, tl, tp, rf, ft, fp, sd) (M, mem, sh, ns, kd, cd) N (sl, nx, c, cr) (rn, rw_) (n, b) ∧ FC x h h1 := by
  refine ⟨?_, f.fc (fun b j q => by unfold IM at q; omega)⟩
  obtain ⟨c1, c2, c3, c4, c5, c6, c7, c8, c9⟩ := C
  obtain ⟨f1, f0, f3, f4, f5, f2⟩ := f
  unfold IM at f5
  exact ⟨c1.fr (fun b _ => by rw [f1]) (fun b j _ q => f2 b j q), c2.fr (fun b _ _ j => f5 b j (by omega)) (by rw [el]), c3.fr (fun b _ _ j => f5 b j (by omega)) (by rw [e2]) (by rw [e2]), c4.fr (fun b _ _ j => f5 b j (by omega)), c5.fr (fun b _ _ j => f5 b j (by omega)) (fun b _ _ => by rw [f1]) (fun b _ _ j => f2 b j (by omega)), c6.fr (f5 _ _ (by omega)) (fun b _ _ j => f5 b j (by omega)), q, by rw [f3]; exact c8, by rw [f4]; exact c9⟩
theorem CX.ad (C : CX h x (r, tl, tp, rf, ft, fp, sd) (M, mem, sh, ns, kd, cd) N (sl, nx, c, cr) (rn, rw_) (on_, ob)) {v : Nat} (hn : on_ < 450) (w : Int32) (hw : w.toInt8 = (nI v).toInt8) : ∃ h1, f_X3_add (x + 90) w h = some ((), h1) ∧ CX h1 x (r, tl, tp, rf, ft, fp, sd) (M, mem, sh, ns, kd, cd) N (sl, nx, c, cr) (rn, rw_) (adF (on_, ob) v) ∧ FC x h h1 ∧ hR h1 = hR h := by
  have S := C.1
  have e1 : hI h (x + 90) 1 = nI on_ := C.2.2.2.2.2.2.1.1
  have hb := C.2.2.2.2.2.2.1.2.2
  have I := C.im (h1 := sI (sI h (x + 91) on_ (nI v).toInt8.toInt32) (x + 90) 1 (nI (on_ + 1))) (n := on_ + 1) (b := updN ob on_ v) ((FX.sI (by unfold IM; omega)).trans (FX.sI (by unfold IM; omega))) rfl rfl ⟨by rw [hI_sI, if_pos ⟨rfl, rfl⟩], by omega, fun j hj => by
    rw [hI_sI, if_neg (by omega), hI_sI]
    by_cases z : j = on_
    · rw [if_pos ⟨rfl, z⟩, z, updN_s]
    · rw [if_neg (by omega), updN_o z]
      exact hb j (by omega)⟩
  refine ⟨sI (sI h (x + 91) on_ (nI v).toInt8.toInt32) (x + 90) 1 (nI (on_ + 1)), ?_, I.1, I.2, rfl⟩
  have e45 : Int32.ofNat 450 = nI 450 := rfl
  have ew : w.toInt8.toInt32.toInt8.toInt32 = (nI v).toInt8.toInt32 := by rw [i8_i8, hw]
  simp (disch := omega) only [nm, bd_s, ko_K, ka_K, koK_t, kaK_t, kr_s, kn_s, kn_n, hK_sI, hR_sI, hK_sL, hR_sL, hI_sL, hL_sI, hL_sL, hI_sI, hN_sI, hN_sL, ch_G, ch_T, nb_0, nb_1, zb_G, d_T, d_F, d_eT, d_eF, b2i_t, b2i_f, tn_nI, fa_lit, fa_litL, m1_e, nI_add, pk_mul, pk_sub, nI_leI, nI_ltI, nI_eq, le_T, le_F, lt_T, lt_F, eq_T, eq_F, if_pos, if_neg, m1_le, m1_lt', m1_gt, m1_le', m1_eq, m1_qe, b2i_eq0, in_N, in_n, in_I, ↓reduceIte, Bool.true_eq_false, Bool.false_eq_true, reduceCtorEq, decide_eq_true_eq, decide_eq_false_iff_not, Nat.not_lt, Nat.not_le, not_true_eq_false, not_false_eq_true, true_and, and_true, and_self, false_and, and_false, true_or, or_true, false_or, or_false, f_X3_add_33, f_X3_add, S.k90, S.r90_0, S.k91, e1, e45, ew]
theorem CX.ad1 (C : CX h x (r, tl, tp, rf, ft, fp, sd) (M, mem, sh, ns, kd, cd) N (sl, nx, c, cr) (rn, rw_) (on_, ob)) {v : Nat} (hn : on_ < 450) : ∃ h1, f_X3_add (x + 90) (nI v) h = some ((), h1) ∧ CX h1 x (r, tl, tp, rf, ft, fp, sd) (M, mem, sh, ns, kd, cd) N (sl, nx, c, cr) (rn, rw_) (adF (on_, ob) v) ∧ FC x h h1 ∧ hR h1 = hR h := C.ad hn (nI v) rfl
theorem CX.ad2 (C : CX h x (r, tl, tp, rf, ft, fp, sd) (M, mem, sh, ns, kd, cd) N (sl, nx, c, cr) (rn, rw_) (on_, ob)) {v : Nat} (hn : on_ + 1 < 450) (hv : v ≤ 4096) : ∃ h1, f_X3_addTwo (x + 90) (nI v) h = some ((), h1) ∧ CX h1 x (r, tl, tp, rf, ft, fp, sd) (M, mem, sh, ns, kd, cd) N (sl, nx, c, cr) (rn, rw_) (adF (adF (on_, ob) (v / 256)) (v % 256)) ∧ FC x h h1 ∧ hR h1 = hR h := by
  have S := C.1
  obtain ⟨h1, e1, C1, F1, G1⟩ := C.ad1 (v := v / 256) (by omega)
  have S1 := C1.1
  obtain ⟨h2, e2, C2, F2, G2⟩ := CX.ad (on_ := on_ + 1) C1 (v := v % 256) (by omega) (nI v) (by
    have : (nI v &&& nI 255) = nI (v % 256) := an_255 v
    rw [← this]
    exact (fa_byte_low (nI v)).symm)
  refine ⟨h2, ?_, C2, F1.trans F2, G2.trans G1⟩
  have sr : nI v >>> (nI 8 &&& nI 31) = nI (v / 256) := sr_nI (by omega) (by omega)
  simp (disch := omega) only [nm, bd_s, ko_K, ka_K, koK_t, kaK_t, kr_s, kn_s, kn_n, hK_sI, hR_sI, hK_sL, hR_sL, hI_sL, hL_sI, hL_sL, hI_sI, hN_sI, hN_sL, ch_G, ch_T, nb_0, nb_1, zb_G, d_T, d_F, d_eT, d_eF, b2i_t, b2i_f, tn_nI, fa_lit, fa_litL, m1_e, nI_add, pk_mul, pk_sub, nI_leI, nI_ltI, nI_eq, le_T, le_F, lt_T, lt_F, eq_T, eq_F, if_pos, if_neg, m1_le, m1_lt', m1_gt, m1_le', m1_eq, m1_qe, b2i_eq0, in_N, in_n, in_I, ↓reduceIte, Bool.true_eq_false, Bool.false_eq_true, reduceCtorEq, decide_eq_true_eq, decide_eq_false_iff_not, Nat.not_lt, Nat.not_le, not_true_eq_false, not_false_eq_true, true_and, and_true, and_self, false_and, and_false, true_or, or_true, false_or, or_false, f_X3_addTwo, S.k90, sr, e1, S1.k90, e2]
theorem CM.im {h1 : aH} {n : Nat} {b : Nat → Nat} (Q : CM h (x + 107) (r, tl, tp, rf, ft, fp, sd) (M, mem, sh, ns, kd, cd) N (sl, nx, c, cr) (rn, rw_) (on_, ob)) (e1 : hK h1 = hK h) (e2 : hR h1 = hR h) (e : ∀ b j, ¬ (b = x + 107 + 67 ∨ b = x + 107 ∧ j = 102) → hI h1 b j = hI h b j) (e3 : hL h1 = hL h) (q : mF h1 (x + 107) n b) : CM h1 (x + 107) (r, tl, tp, rf, ft, fp, sd) (M, mem, sh, ns, kd, cd) N (sl, nx, c, cr) (rn, rw_) (n, b) := by
  obtain ⟨c1, c2, c3, c4, c5, c6, c7, c8⟩ := Q
  exact ⟨c1.of e1 e2, c2.fr (fun b j q => e b j (by omega)) (by rw [e3]), c3.fr (fun b j q => e b j (by omega)) (fun j _ => by rw [e3]), fun j hj => (e _ j (by omega)).trans (c4 j hj), c5.fr (fun b j q => e b j (by omega)), c6.fr (fun b j q => e b j (by omega)), q, c8.fr (fun b j q => e b j (by omega))⟩
theorem CM.ad1 (Q : CM h (x + 107) (r, tl, tp, rf, ft, fp, sd) (M, mem, sh, ns, kd, cd) N (sl, nx, c, cr) (rn, rw_) (on_, ob)) {v : Nat} (hn : on_ < 450) : ∃ h1, f_X12_writes (x + 107) (nI v) h = some ((), h1) ∧ CM h1 (x + 107) (r, tl, tp, rf, ft, fp, sd) (M, mem, sh, ns, kd, cd) N (sl, nx, c, cr) (rn, rw_) (adF (on_, ob) v) ∧ FM x h h1 := by
  have T := Q.1
  have e1 : hI h (x + 107) 102 = nI on_ := Q.2.2.2.2.2.2.1.1
  have hb := Q.2.2.2.2.2.2.1.2
  refine ⟨sI (sI h (x + 107 + 67) on_ (nI v)) (x + 107) 102 (nI (on_ + 1)), ?_, Q.im rfl rfl (fun b j q => by rw [hI_sI, if_neg (by omega), hI_sI, if_neg (by omega)]) rfl ⟨?_, fun j hj hj2 => ?_⟩, (FM.sI (by omega) (by omega)).trans (FM.sI (by omega) (by omega))⟩
  · simp (disch := omega) only [nm, bd_s, ko_K, ka_K, koK_t, kaK_t, kr_s, kn_s, kn_n, hK_sI, hR_sI, hK_sL, hR_sL, hI_sL, hL_sI, hL_sL, hI_sI, hN_sI, hN_sL, ch_G, ch_T, nb_0, nb_1, zb_G, d_T, d_F, d_eT, d_eF, b2i_t, b2i_f, tn_nI, fa_lit, fa_litL, m1_e, nI_add, pk_mul, pk_sub, nI_leI, nI_ltI, nI_eq, le_T, le_F, lt_T, lt_F, eq_T, eq_F, if_pos, if_neg, m1_le, m1_lt', m1_gt, m1_le', m1_eq, m1_qe, b2i_eq0, in_N, in_n, in_I, ↓reduceIte, Bool.true_eq_false, Bool.false_eq_true, reduceCtorEq, decide_eq_true_eq, decide_eq_false_iff_not, Nat.not_lt, Nat.not_le, not_true_eq_false, not_false_eq_true, true_and, and_true, and_self, false_and, and_false, true_or, or_true, false_or, or_false, f_X12_writes, T.k, T.r101, T.k101, e1]
  · rw [hI_sI, if_pos ⟨rfl, rfl⟩]
  · rw [hI_sI, if_neg (by omega), hI_sI]
    by_cases z : j = on_
    · rw [if_pos ⟨rfl, z⟩, z, updN_s]
    · rw [if_neg (by omega), updN_o z]
      exact hb j (by omega) hj2
theorem CM.ad2 (Q : CM h (x + 107) (r, tl, tp, rf, ft, fp, sd) (M, mem, sh, ns, kd, cd) N (sl, nx, c, cr) (rn, rw_) (on_, ob)) {v : Nat} (hn : on_ + 1 < 450) (hv : v ≤ 4096) : ∃ h1, f_X12_writesTwo (x + 107) (nI v) h = some ((), h1) ∧ CM h1 (x + 107) (r, tl, tp, rf, ft, fp, sd) (M, mem, sh, ns, kd, cd) N (sl, nx, c, cr) (rn, rw_) (adF (adF (on_, ob) (v / 256)) (v % 256)) ∧ FM x h h1 := by
  have T := Q.1
  obtain ⟨h1, e1, Q1, F1⟩ := Q.ad1 (v := v / 256) (by omega)
  have T1 := Q1.1
  obtain ⟨h2, e2, Q2, F2⟩ := CM.ad1 (on_ := on_ + 1) Q1 (v := v % 256) (by omega)
  refine ⟨h2, ?_, Q2, F1.trans F2⟩
  have d1 : nI v / nI 256 = nI (v / 256) := pk_div (by omega) (by omega) (by omega)
  have m2 : v - v / 256 * 256 = v % 256 := by omega
  simp (disch := omega) only [nm, bd_s, ko_K, ka_K, koK_t, kaK_t, kr_s, kn_s, kn_n, hK_sI, hR_sI, hK_sL, hR_sL, hI_sL, hL_sI, hL_sL, hI_sI, hN_sI, hN_sL, ch_G, ch_T, nb_0, nb_1, zb_G, d_T, d_F, d_eT, d_eF, b2i_t, b2i_f, tn_nI, fa_lit, fa_litL, m1_e, nI_add, pk_mul, pk_sub, nI_leI, nI_ltI, nI_eq, le_T, le_F, lt_T, lt_F, eq_T, eq_F, if_pos, if_neg, m1_le, m1_lt', m1_gt, m1_le', m1_eq, m1_qe, b2i_eq0, in_N, in_n, in_I, ↓reduceIte, Bool.true_eq_false, Bool.false_eq_true, reduceCtorEq, decide_eq_true_eq, decide_eq_false_iff_not, Nat.not_lt, Nat.not_le, not_true_eq_false, not_false_eq_true, true_and, and_true, and_self, false_and, and_false, true_or, or_true, false_or, or_false, f_X12_writesTwo, T.k, d1, e1, T1.k, m2, e2]
end Im
