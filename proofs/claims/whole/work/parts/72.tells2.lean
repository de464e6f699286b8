theorem ctN_and (p q : Nat → Bool) (n : Nat) : ctN (fun a => p a && q a) n ≤ ctN p n := fb_sm_le (fun a _ => by
  show (if (p a && q a) = true then 1 else 0) ≤ (if p a = true then 1 else 0)
  cases p a <;> cases q a <;> decide)
section T2
variable {h : aH} {m k M e b a0 rn : Nat} {rw_ : Nat → Nat}
theorem m_tell58 {pl : Nat → Bool} (P : PK h m (8 * k) M e b a0) (hk : k < 16) {t : Nat} (ht : t < 128) (w best few : Int32) (k38 : Nat → Int32 → Int32 → Int32 → Int32 → Int32 → aH → Option (Int32 × aH)) : f_X12_tells_58 k38 FU m (nI k) w best few (stp t) (nI 0) (nI 0) (LPl h m pl 4096) = f_X12_tells_124 k38 m (nI k) w best few (stp t) (nI (moN pl (wsN M e b a0) (wzN M e) (ctN pl 4096) t)) (LPl h m pl 4096) := by
  have P1 := P.lp pl 4096
  have T1 := P1.1
  obtain ⟨-, -, -, -, -, -, h4, h8, he, hb, ha0⟩ := id P
  have e61 : hI (LPl h m pl 4096) m 61 = nI (ctN pl 4096) := LPl_61
  have p37 : ∀ i, i < 4096 → hI (LPl h m pl 4096) (m + 37) i = b2i (pl i) := fun i hi => LPl_37 hi
  have key : ∀ (d i n : Nat), i + d = 4096 → d < n → f_X12_tells_58 k38 n m (nI k) w best few (stp t) (nI (ctN (fun a => pl a && decide (basN M e b ((a + 4032 + t) % 4096) = basN M e b a0)) i)) (nI i) (LPl h m pl 4096) = f_X12_tells_124 k38 m (nI k) w best few (stp t) (nI (moN pl (wsN M e b a0) (wzN M e) (ctN pl 4096) t)) (LPl h m pl 4096) := by
    intro d
    induction d with
    | zero =>
      intro i n hi hn
      obtain ⟨n, rfl⟩ : ∃ m, n = m + 1 := ⟨n - 1, by omega⟩
      have hi : i = 4096 := by omega
      subst hi
      have el : ctN (fun a => pl a && decide (basN M e b ((a + 4032 + t) % 4096) = basN M e b a0)) 4096 = lfN pl (wsN M e b a0) (wzN M e) t := by
        unfold lfN
        exact ctN_cong (fun a ha => by rw [in_d h4 h8 he hb (Nat.mod_lt _ (by omega)) ha0])
      rw [el]
      have l1 := lf_le pl (wsN M e b a0) (wzN M e) t
      have l2 := ctN_le pl 4096
      have l3 : lfN pl (wsN M e b a0) (wzN M e) t ≤ ctN pl 4096 := by
        rw [← el]
        exact ctN_and pl _ 4096
      unfold moN
      generalize lfN pl (wsN M e b a0) (wzN M e) t = u at *
      generalize ctN pl 4096 = v at *
      by_cases c : v - u ≤ u
      · rw [Nat.max_eq_right c]
        simp (disch := omega) only [nm, bd_s, ko_K, ka_K, koK_t, kaK_t, kr_s, kn_s, kn_n, hK_sI, hR_sI, hK_sL, hR_sL, hI_sL, hL_sI, hL_sL, hI_sI, hN_sI, hN_sL, ch_G, ch_T, nb_0, nb_1, zb_G, d_T, d_F, d_eT, d_eF, b2i_t, b2i_f, tn_nI, fa_lit, fa_litL, m1_e, nI_add, pk_mul, pk_sub, nI_leI, nI_ltI, nI_eq, le_T, le_F, lt_T, lt_F, eq_T, eq_F, if_pos, if_neg, m1_le, m1_lt', m1_gt, m1_le', m1_eq, m1_qe, b2i_eq0, in_N, in_n, in_I, ↓reduceIte, Bool.true_eq_false, Bool.false_eq_true, reduceCtorEq, decide_eq_true_eq, decide_eq_false_iff_not, Nat.not_lt, Nat.not_le, not_true_eq_false, not_false_eq_true, true_and, and_true, and_self, false_and, and_false, true_or, or_true, false_or, or_false, f_X12_tells_58, b_X12_tells_58, T1.k, e61]
      · rw [Nat.max_eq_left (by omega)]
        simp (disch := omega) only [nm, bd_s, ko_K, ka_K, koK_t, kaK_t, kr_s, kn_s, kn_n, hK_sI, hR_sI, hK_sL, hR_sL, hI_sL, hL_sI, hL_sL, hI_sI, hN_sI, hN_sL, ch_G, ch_T, nb_0, nb_1, zb_G, d_T, d_F, d_eT, d_eF, b2i_t, b2i_f, tn_nI, fa_lit, fa_litL, m1_e, nI_add, pk_mul, pk_sub, nI_leI, nI_ltI, nI_eq, le_T, le_F, lt_T, lt_F, eq_T, eq_F, if_pos, if_neg, m1_le, m1_lt', m1_gt, m1_le', m1_eq, m1_qe, b2i_eq0, in_N, in_n, in_I, ↓reduceIte, Bool.true_eq_false, Bool.false_eq_true, reduceCtorEq, decide_eq_true_eq, decide_eq_false_iff_not, Nat.not_lt, Nat.not_le, not_true_eq_false, not_false_eq_true, true_and, and_true, and_self, false_and, and_false, true_or, or_true, false_or, or_false, f_X12_tells_58, b_X12_tells_58, T1.k, e61]
    | succ d ih =>
      intro i n hi hn
      obtain ⟨n, rfl⟩ : ∃ m, n = m + 1 := ⟨n - 1, by omega⟩
      have p := p37 i (by omega)
      have ff := P1.ff i t
      have st := ih (i + 1) n (by omega) (by omega)
      rw [ctN_succ] at st
      generalize pl i = z1 at *
      generalize decide (basN M e b ((i + 4032 + t) % 4096) = basN M e b a0) = z2 at *
      generalize ctN (fun a => pl a && decide (basN M e b ((a + 4032 + t) % 4096) = basN M e b a0)) i = c0 at *
      generalize LPl h m pl 4096 = g at *
      cases z1
      · simp only [Bool.false_and, Bool.false_eq_true, if_false, Nat.add_zero] at st
        simp (disch := omega) only [nm, bd_s, ko_K, ka_K, koK_t, kaK_t, kr_s, kn_s, kn_n, hK_sI, hR_sI, hK_sL, hR_sL, hI_sL, hL_sI, hL_sL, hI_sI, hN_sI, hN_sL, ch_G, ch_T, nb_0, nb_1, zb_G, d_T, d_F, d_eT, d_eF, b2i_t, b2i_f, tn_nI, fa_lit, fa_litL, m1_e, nI_add, pk_mul, pk_sub, nI_leI, nI_ltI, nI_eq, le_T, le_F, lt_T, lt_F, eq_T, eq_F, if_pos, if_neg, m1_le, m1_lt', m1_gt, m1_le', m1_eq, m1_qe, b2i_eq0, in_N, in_n, in_I, ↓reduceIte, Bool.true_eq_false, Bool.false_eq_true, reduceCtorEq, decide_eq_true_eq, decide_eq_false_iff_not, Nat.not_lt, Nat.not_le, not_true_eq_false, not_false_eq_true, true_and, and_true, and_self, false_and, and_false, true_or, or_true, false_or, or_false, f_X12_tells_58, b_X12_tells_58, f_X12_tells_94, T1.k, T1.r60, T1.k60, p, st]
      · cases z2
        · simp only [Bool.and_false, Bool.false_eq_true, if_false, Nat.add_zero] at st
          simp (disch := omega) only [nm, bd_s, ko_K, ka_K, koK_t, kaK_t, kr_s, kn_s, kn_n, hK_sI, hR_sI, hK_sL, hR_sL, hI_sL, hL_sI, hL_sL, hI_sI, hN_sI, hN_sL, ch_G, ch_T, nb_0, nb_1, zb_G, d_T, d_F, d_eT, d_eF, b2i_t, b2i_f, tn_nI, fa_lit, fa_litL, m1_e, nI_add, pk_mul, pk_sub, nI_leI, nI_ltI, nI_eq, le_T, le_F, lt_T, lt_F, eq_T, eq_F, if_pos, if_neg, m1_le, m1_lt', m1_gt, m1_le', m1_eq, m1_qe, b2i_eq0, in_N, in_n, in_I, ↓reduceIte, Bool.true_eq_false, Bool.false_eq_true, reduceCtorEq, decide_eq_true_eq, decide_eq_false_iff_not, Nat.not_lt, Nat.not_le, not_true_eq_false, not_false_eq_true, true_and, and_true, and_self, false_and, and_false, true_or, or_true, false_or, or_false, f_X12_tells_58, b_X12_tells_58, f_X12_tells_94, T1.k, T1.r60, T1.k60, p, ff, st]
        · simp only [Bool.and_true, if_true] at st
          simp (disch := omega) only [nm, bd_s, ko_K, ka_K, koK_t, kaK_t, kr_s, kn_s, kn_n, hK_sI, hR_sI, hK_sL, hR_sL, hI_sL, hL_sI, hL_sL, hI_sI, hN_sI, hN_sL, ch_G, ch_T, nb_0, nb_1, zb_G, d_T, d_F, d_eT, d_eF, b2i_t, b2i_f, tn_nI, fa_lit, fa_litL, m1_e, nI_add, pk_mul, pk_sub, nI_leI, nI_ltI, nI_eq, le_T, le_F, lt_T, lt_F, eq_T, eq_F, if_pos, if_neg, m1_le, m1_lt', m1_gt, m1_le', m1_eq, m1_qe, b2i_eq0, in_N, in_n, in_I, ↓reduceIte, Bool.true_eq_false, Bool.false_eq_true, reduceCtorEq, decide_eq_true_eq, decide_eq_false_iff_not, Nat.not_lt, Nat.not_le, not_true_eq_false, not_false_eq_true, true_and, and_true, and_self, false_and, and_false, true_or, or_true, false_or, or_false, f_X12_tells_58, b_X12_tells_58, f_X12_tells_94, T1.k, T1.r60, T1.k60, p, ff, st]
  exact key 4096 0 FU (by omega) (FU_gt (by omega))
theorem m_tell38 {pl : Nat → Bool} (P : PK h m (8 * k) M e b a0) (hk : k < 16) (w : Int32) (h0 : 0 < ctN pl 4096) : ∀ (d t : Nat) (best few : Int32) (n : Nat), t + d = 128 → d < n → (t = 0 ∧ best = -nI 1 ∨ ∃ u v, FT (moN pl (wsN M e b a0) (wzN M e) (ctN pl 4096)) 0 t u v ∧ best = nI u ∧ few = nI v) → ∃ u v, f_X12_tells_38 n m (nI k) w best few (stp t) (LPl h m pl 4096) = some (if w = nI 0 then nI u else nI v, LPl h m pl 4096) ∧ FT (moN pl (wsN M e b a0) (wzN M e) (ctN pl 4096)) 0 128 u v := by
  have T1 : MS (LPl h m pl 4096) m := (P.lp pl 4096).1
  have e61 : hI (LPl h m pl 4096) m 61 = nI (ctN pl 4096) := LPl_61
  have c4 := ctN_le pl 4096
  intro d
  induction d with
  | zero =>
    intro t best few n ht hn hs
    obtain ⟨n, rfl⟩ : ∃ m, n = m + 1 := ⟨n - 1, by omega⟩
    have ht : t = 128 := by omega
    subst ht
    rcases hs with hs | ⟨u, v, hs, rfl, rfl⟩
    · omega
    · refine ⟨u, v, ?_, hs⟩
      have u1 := hs.2.1
      by_cases w0 : w = nI 0
      · rw [if_pos w0]
        simp (disch := omega) only [nm, bd_s, ko_K, ka_K, koK_t, kaK_t, kr_s, kn_s, kn_n, hK_sI, hR_sI, hK_sL, hR_sL, hI_sL, hL_sI, hL_sL, hI_sI, hN_sI, hN_sL, ch_G, ch_T, nb_0, nb_1, zb_G, d_T, d_F, d_eT, d_eF, b2i_t, b2i_f, tn_nI, fa_lit, fa_litL, m1_e, nI_add, pk_mul, pk_sub, nI_leI, nI_ltI, nI_eq, le_T, le_F, lt_T, lt_F, eq_T, eq_F, if_pos, if_neg, m1_le, m1_lt', m1_gt, m1_le', m1_eq, m1_qe, b2i_eq0, in_N, in_n, in_I, ↓reduceIte, Bool.true_eq_false, Bool.false_eq_true, reduceCtorEq, decide_eq_true_eq, decide_eq_false_iff_not, Nat.not_lt, Nat.not_le, not_true_eq_false, not_false_eq_true, true_and, and_true, and_self, false_and, and_false, true_or, or_true, false_or, or_false, f_X12_tells_38, b_X12_tells_38, f_X12_tells_157, f_X12_tells_176, stp_e, w0]
      · rw [if_neg w0]
        simp (disch := omega) only [nm, bd_s, ko_K, ka_K, koK_t, kaK_t, kr_s, kn_s, kn_n, hK_sI, hR_sI, hK_sL, hR_sL, hI_sL, hL_sI, hL_sL, hI_sI, hN_sI, hN_sL, ch_G, ch_T, nb_0, nb_1, zb_G, d_T, d_F, d_eT, d_eF, b2i_t, b2i_f, tn_nI, fa_lit, fa_litL, m1_e, nI_add, pk_mul, pk_sub, nI_leI, nI_ltI, nI_eq, le_T, le_F, lt_T, lt_F, eq_T, eq_F, if_pos, if_neg, m1_le, m1_lt', m1_gt, m1_le', m1_eq, m1_qe, b2i_eq0, in_N, in_n, in_I, ↓reduceIte, Bool.true_eq_false, Bool.false_eq_true, reduceCtorEq, decide_eq_true_eq, decide_eq_false_iff_not, Nat.not_lt, Nat.not_le, not_true_eq_false, not_false_eq_true, true_and, and_true, and_self, false_and, and_false, true_or, or_true, false_or, or_false, f_X12_tells_38, b_X12_tells_38, f_X12_tells_157, f_X12_tells_176, stp_e, w0]
  | succ d ih =>
    intro t best few n ht hn hs
    obtain ⟨n, rfl⟩ : ∃ m, n = m + 1 := ⟨n - 1, by omega⟩
    have s1 := stp_lt (show t < 128 by omega)
    have s2 := stp_1 (show t < 128 by omega)
    have s3 := stp_64 (show t < 128 by omega)
    have lp := m_tell58 (pl := pl) P hk (show t < 128 by omega) w best few (f_X12_tells_38 n)
    have mob : moN pl (wsN M e b a0) (wzN M e) (ctN pl 4096) t ≤ 4096 := by
      have := lf_le pl (wsN M e b a0) (wzN M e) t
      unfold moN; omega
    have e0 : f_X12_tells_38 (n + 1) m (nI k) w best few (stp t) (LPl h m pl 4096) = f_X12_tells_124 (f_X12_tells_38 n) m (nI k) w best few (stp t) (nI (moN pl (wsN M e b a0) (wzN M e) (ctN pl 4096) t)) (LPl h m pl 4096) := by
      rw [← lp]
      simp (disch := omega) only [nm, bd_s, ko_K, ka_K, koK_t, kaK_t, kr_s, kn_s, kn_n, hK_sI, hR_sI, hK_sL, hR_sL, hI_sL, hL_sI, hL_sL, hI_sI, hN_sI, hN_sL, ch_G, ch_T, nb_0, nb_1, zb_G, d_T, d_F, d_eT, d_eF, b2i_t, b2i_f, tn_nI, fa_lit, fa_litL, m1_e, nI_add, pk_mul, pk_sub, nI_leI, nI_ltI, nI_eq, le_T, le_F, lt_T, lt_F, eq_T, eq_F, if_pos, if_neg, m1_le, m1_lt', m1_gt, m1_le', m1_eq, m1_qe, b2i_eq0, in_N, in_n, in_I, ↓reduceIte, Bool.true_eq_false, Bool.false_eq_true, reduceCtorEq, decide_eq_true_eq, decide_eq_false_iff_not, Nat.not_lt, Nat.not_le, not_true_eq_false, not_false_eq_true, true_and, and_true, and_self, false_and, and_false, true_or, or_true, false_or, or_false, f_X12_tells_38, b_X12_tells_38, T1.k, e61, s1]
    rw [e0]
    rcases hs with ⟨rfl, rfl⟩ | ⟨u, v, hs, rfl, rfl⟩
    · obtain ⟨u', v', e1, f1⟩ := ih 1 (nI 0) (nI (moN pl (wsN M e b a0) (wzN M e) (ctN pl 4096) 0)) n (by omega) (by omega) (Or.inr ⟨0, _, FT.one _ 0, rfl, rfl⟩)
      refine ⟨u', v', ?_, f1⟩
      simp (disch := omega) only [nm, bd_s, ko_K, ka_K, koK_t, kaK_t, kr_s, kn_s, kn_n, hK_sI, hR_sI, hK_sL, hR_sL, hI_sL, hL_sI, hL_sL, hI_sI, hN_sI, hN_sL, ch_G, ch_T, nb_0, nb_1, zb_G, d_T, d_F, d_eT, d_eF, b2i_t, b2i_f, tn_nI, fa_lit, fa_litL, m1_e, nI_add, pk_mul, pk_sub, nI_leI, nI_ltI, nI_eq, le_T, le_F, lt_T, lt_F, eq_T, eq_F, if_pos, if_neg, m1_le, m1_lt', m1_gt, m1_le', m1_eq, m1_qe, b2i_eq0, in_N, in_n, in_I, ↓reduceIte, Bool.true_eq_false, Bool.false_eq_true, reduceCtorEq, decide_eq_true_eq, decide_eq_false_iff_not, Nat.not_lt, Nat.not_le, not_true_eq_false, not_false_eq_true, true_and, and_true, and_self, false_and, and_false, true_or, or_true, false_or, or_false, f_X12_tells_124, f_X12_tells_141, f_X12_tells_151, s2, s3, Nat.zero_add, e1]
    · have hu := hs.2.1
      have hv : v ≤ 4096 := by
        have := lf_le pl (wsN M e b a0) (wzN M e) u
        have e3 := hs.2.2.1
        unfold moN at e3; omega
      by_cases c : moN pl (wsN M e b a0) (wzN M e) (ctN pl 4096) t < v
      · obtain ⟨u', v', e1, f1⟩ := ih (t + 1) (nI t) (nI (moN pl (wsN M e b a0) (wzN M e) (ctN pl 4096) t)) n (by omega) (by omega) (Or.inr ⟨t, _, (FT.up hs).1 c, rfl, rfl⟩)
        refine ⟨u', v', ?_, f1⟩
        simp (disch := omega) only [nm, bd_s, ko_K, ka_K, koK_t, kaK_t, kr_s, kn_s, kn_n, hK_sI, hR_sI, hK_sL, hR_sL, hI_sL, hL_sI, hL_sL, hI_sI, hN_sI, hN_sL, ch_G, ch_T, nb_0, nb_1, zb_G, d_T, d_F, d_eT, d_eF, b2i_t, b2i_f, tn_nI, fa_lit, fa_litL, m1_e, nI_add, pk_mul, pk_sub, nI_leI, nI_ltI, nI_eq, le_T, le_F, lt_T, lt_F, eq_T, eq_F, if_pos, if_neg, m1_le, m1_lt', m1_gt, m1_le', m1_eq, m1_qe, b2i_eq0, in_N, in_n, in_I, ↓reduceIte, Bool.true_eq_false, Bool.false_eq_true, reduceCtorEq, decide_eq_true_eq, decide_eq_false_iff_not, Nat.not_lt, Nat.not_le, not_true_eq_false, not_false_eq_true, true_and, and_true, and_self, false_and, and_false, true_or, or_true, false_or, or_false, f_X12_tells_124, f_X12_tells_141, f_X12_tells_151, s2, s3, e1]
      · obtain ⟨u', v', e1, f1⟩ := ih (t + 1) (nI u) (nI v) n (by omega) (by omega) (Or.inr ⟨u, v, (FT.up hs).2 c, rfl, rfl⟩)
        refine ⟨u', v', ?_, f1⟩
        simp (disch := omega) only [nm, bd_s, ko_K, ka_K, koK_t, kaK_t, kr_s, kn_s, kn_n, hK_sI, hR_sI, hK_sL, hR_sL, hI_sL, hL_sI, hL_sL, hI_sI, hN_sI, hN_sL, ch_G, ch_T, nb_0, nb_1, zb_G, d_T, d_F, d_eT, d_eF, b2i_t, b2i_f, tn_nI, fa_lit, fa_litL, m1_e, nI_add, pk_mul, pk_sub, nI_leI, nI_ltI, nI_eq, le_T, le_F, lt_T, lt_F, eq_T, eq_F, if_pos, if_neg, m1_le, m1_lt', m1_gt, m1_le', m1_eq, m1_qe, b2i_eq0, in_N, in_n, in_I, ↓reduceIte, Bool.true_eq_false, Bool.false_eq_true, reduceCtorEq, decide_eq_true_eq, decide_eq_false_iff_not, Nat.not_lt, Nat.not_le, not_true_eq_false, not_false_eq_true, true_and, and_true, and_self, false_and, and_false, true_or, or_true, false_or, or_false, f_X12_tells_124, f_X12_tells_141, f_X12_tells_151, s2, s3, e1]
end T2
section T3
variable {h : aH} {x r tl : Nat} {tp : Nat → Nat} {rf : Nat → Int32} {ft fp : Int32} {sd : Nat} {M mem sh : Nat} {ns : Nat → List Nat} {kd : Nat → Nat} {cd : Nat → List Nat} {N : tyN} {sl : Nat → tyN} {nx c cr : Nat} {rn : Nat} {rw_ : Nat → Nat} {on_ : Nat} {ob : Nat → Nat}
theorem S_tells (C : CX h x (r, tl, tp, rf, ft, fp, sd) (M, mem, sh, ns, kd, cd) N (sl, nx, c, cr) (rn, rw_) (on_, ob)) (Q : CM h (x + 107) (r, tl, tp, rf, ft, fp, sd) (M, mem, sh, ns, kd, cd) N (sl, nx, c, cr) (rn, rw_) (on_, ob)) (O : Ok (r, tl, tp, rf, ft, fp, sd) (M, mem, sh, ns, kd, cd) N (sl, nx, c, cr) (rn, rw_) (on_, ob)) (p w : Int32) : SM Int32 x h (f_X11_tells x p w) (f_X12_tells (x + 107) p w) := by
  have S := C.1
  have W := S.now
  have T := Q.1
  by_cases hp : r = 1 ∧ ∃ k, k < 16 ∧ p = nI k
  · obtain ⟨hr, k, hk, rfl⟩ := hp
    have c1 := C.ip hr hk
    have c2 := Q.ip hr hk
    rcases pk_ix w (n := 2) (by omega) with hw | hw | ⟨j, hj, rfl⟩
    · refine glue0 C Q O (v := -nI 1) ?_ ?_
      · simp (disch := omega) only [nm, bd_s, ko_K, ka_K, koK_t, kaK_t, kr_s, kn_s, kn_n, hK_sI, hR_sI, hK_sL, hR_sL, hI_sL, hL_sI, hL_sL, hI_sI, hN_sI, hN_sL, ch_G, ch_T, nb_0, nb_1, zb_G, d_T, d_F, d_eT, d_eF, b2i_t, b2i_f, tn_nI, fa_lit, fa_litL, m1_e, nI_add, pk_mul, pk_sub, nI_leI, nI_ltI, nI_eq, le_T, le_F, lt_T, lt_F, eq_T, eq_F, if_pos, if_neg, m1_le, m1_lt', m1_gt, m1_le', m1_eq, m1_qe, b2i_eq0, in_N, in_n, in_I, ↓reduceIte, Bool.true_eq_false, Bool.false_eq_true, reduceCtorEq, decide_eq_true_eq, decide_eq_false_iff_not, Nat.not_lt, Nat.not_le, not_true_eq_false, not_false_eq_true, true_and, and_true, and_self, false_and, and_false, true_or, or_true, false_or, or_false, f_X11_tells_17, f_X11_tells_78, f_X11_tells, S.k0, c1, ng_lt' hw, ng_le' hw, ng_le hw, ng_lt hw, ng_eq hw, ng_qe hw, in_g hw, in_gN hw]
      · simp (disch := omega) only [nm, bd_s, ko_K, ka_K, koK_t, kaK_t, kr_s, kn_s, kn_n, hK_sI, hR_sI, hK_sL, hR_sL, hI_sL, hL_sI, hL_sL, hI_sI, hN_sI, hN_sL, ch_G, ch_T, nb_0, nb_1, zb_G, d_T, d_F, d_eT, d_eF, b2i_t, b2i_f, tn_nI, fa_lit, fa_litL, m1_e, nI_add, pk_mul, pk_sub, nI_leI, nI_ltI, nI_eq, le_T, le_F, lt_T, lt_F, eq_T, eq_F, if_pos, if_neg, m1_le, m1_lt', m1_gt, m1_le', m1_eq, m1_qe, b2i_eq0, in_N, in_n, in_I, ↓reduceIte, Bool.true_eq_false, Bool.false_eq_true, reduceCtorEq, decide_eq_true_eq, decide_eq_false_iff_not, Nat.not_lt, Nat.not_le, not_true_eq_false, not_false_eq_true, true_and, and_true, and_self, false_and, and_false, true_or, or_true, false_or, or_false, f_X12_tells, f_X12_tells_19, T.k, c2, ng_lt' hw, ng_le' hw, ng_le hw, ng_lt hw, ng_eq hw, ng_qe hw, in_g hw, in_gN hw]
    · refine glue0 C Q O (v := -nI 1) ?_ ?_
      · simp (disch := omega) only [nm, bd_s, ko_K, ka_K, koK_t, kaK_t, kr_s, kn_s, kn_n, hK_sI, hR_sI, hK_sL, hR_sL, hI_sL, hL_sI, hL_sL, hI_sI, hN_sI, hN_sL, ch_G, ch_T, nb_0, nb_1, zb_G, d_T, d_F, d_eT, d_eF, b2i_t, b2i_f, tn_nI, fa_lit, fa_litL, m1_e, nI_add, pk_mul, pk_sub, nI_leI, nI_ltI, nI_eq, le_T, le_F, lt_T, lt_F, eq_T, eq_F, if_pos, if_neg, m1_le, m1_lt', m1_gt, m1_le', m1_eq, m1_qe, b2i_eq0, in_N, in_n, in_I, ↓reduceIte, Bool.true_eq_false, Bool.false_eq_true, reduceCtorEq, decide_eq_true_eq, decide_eq_false_iff_not, Nat.not_lt, Nat.not_le, not_true_eq_false, not_false_eq_true, true_and, and_true, and_self, false_and, and_false, true_or, or_true, false_or, or_false, f_X11_tells_17, f_X11_tells_78, f_X11_tells, S.k0, c1, bg_lt hw, bg_le hw]
      · simp (disch := omega) only [nm, bd_s, ko_K, ka_K, koK_t, kaK_t, kr_s, kn_s, kn_n, hK_sI, hR_sI, hK_sL, hR_sL, hI_sL, hL_sI, hL_sL, hI_sI, hN_sI, hN_sL, ch_G, ch_T, nb_0, nb_1, zb_G, d_T, d_F, d_eT, d_eF, b2i_t, b2i_f, tn_nI, fa_lit, fa_litL, m1_e, nI_add, pk_mul, pk_sub, nI_leI, nI_ltI, nI_eq, le_T, le_F, lt_T, lt_F, eq_T, eq_F, if_pos, if_neg, m1_le, m1_lt', m1_gt, m1_le', m1_eq, m1_qe, b2i_eq0, in_N, in_n, in_I, ↓reduceIte, Bool.true_eq_false, Bool.false_eq_true, reduceCtorEq, decide_eq_true_eq, decide_eq_false_iff_not, Nat.not_lt, Nat.not_le, not_true_eq_false, not_false_eq_true, true_and, and_true, and_self, false_and, and_false, true_or, or_true, false_or, or_false, f_X12_tells, f_X12_tells_19, T.k, c2, in_bN hw]
    · obtain ⟨a, ha, h9, A, B⟩ := C.run hr
      have a2 : hI h a 2 = nI M := B.2.1
      obtain ⟨h1, am, ai, fx, er, el⟩ := c_aim C O hr hk
      have S1 : XS h1 x := (C.sc1 fx er el).1.1
      have okb := O.okb hr
      obtain ⟨o0, o1, o2, o3, o4, o5, o6, o7⟩ := (O.okn hr).2.1 k (by omega)
      obtain ⟨v, t, te, ft1⟩ := s_telling ai okb.1 okb.2.1 o2 o3 o1
      have fx2 : FX x (SC x) h (TH h1 (x + 87) v (stp t)) := fx.trans ((FX.sI (by unfold SC; omega)).trans (FX.sI (by unfold SC; omega)))
      obtain ⟨C2, F2⟩ := C.sc1 (h1 := TH h1 (x + 87) v (stp t)) fx2 er el
      have S2 := C2.1
      have t1 := TH_1 h1 (x + 87) v (stp t)
      have t2 := TH_2 h1 (x + 87) v (stp t)
      have t128 := ft1.2.1
      have s64 := stp_64 t128
      by_cases al : 0 < ctN (plP M (N (8 * k + 2)) (N (8 * k + 3)) (N (8 * k + 1)) rn rw_) 4096
      · rw [b2i_d al] at te
        have hm : ∀ g1, CM g1 (x + 107) (r, tl, tp, rf, ft, fp, sd) (M, mem, sh, ns, kd, cd) N (sl, nx, c, cr) (rn, rw_) (on_, ob) → f_X12_tells (x + 107) (nI k) (nI j) g1 = some (if nI j = nI 0 then nI t else nI v, LPl g1 (x + 107) (plP M (N (8 * k + 2)) (N (8 * k + 3)) (N (8 * k + 1)) rn rw_) 4096) := by
          intro g1 Q1
          have ly := m_laysPlaces (Q1.pk O hr hk) (Q1.rw O)
          have T1 := Q1.1
          have c2 := Q1.ip hr hk
          obtain ⟨u', v', e1, f1⟩ := m_tell38 (Q1.pk O hr hk) hk (nI j) al 128 0 (-nI 1) (nI 0) FU (by omega) (FU_gt (by omega)) (Or.inl ⟨rfl, rfl⟩)
          obtain ⟨z1, z2⟩ := ft1.eq f1
          subst z1 z2
          rw [← e1]
          simp (disch := omega) only [nm, bd_s, ko_K, ka_K, koK_t, kaK_t, kr_s, kn_s, kn_n, hK_sI, hR_sI, hK_sL, hR_sL, hI_sL, hL_sI, hL_sL, hI_sI, hN_sI, hN_sL, ch_G, ch_T, nb_0, nb_1, zb_G, d_T, d_F, d_eT, d_eF, b2i_t, b2i_f, tn_nI, fa_lit, fa_litL, m1_e, nI_add, pk_mul, pk_sub, nI_leI, nI_ltI, nI_eq, le_T, le_F, lt_T, lt_F, eq_T, eq_F, if_pos, if_neg, m1_le, m1_lt', m1_gt, m1_le', m1_eq, m1_qe, b2i_eq0, in_N, in_n, in_I, ↓reduceIte, Bool.true_eq_false, Bool.false_eq_true, reduceCtorEq, decide_eq_true_eq, decide_eq_false_iff_not, Nat.not_lt, Nat.not_le, not_true_eq_false, not_false_eq_true, true_and, and_true, and_self, false_and, and_false, true_or, or_true, false_or, or_false, f_X12_tells, T1.k, c2, ly, stp_0]
        rcases (show j = 0 ∨ j = 1 by omega) with rfl | rfl
        · refine glue Q ⟨_, ?_, C2, F2⟩ (v := nI t) (fun g1 Q1 => ⟨LPl g1 (x + 107) (plP M (N (8 * k + 2)) (N (8 * k + 3)) (N (8 * k + 1)) rn rw_) 4096, (hm g1 Q1).trans ?_, (Q1.lp _ _).1, (Q1.lp _ _).2⟩) O
          · simp (disch := omega) only [nm, bd_s, ko_K, ka_K, koK_t, kaK_t, kr_s, kn_s, kn_n, hK_sI, hR_sI, hK_sL, hR_sL, hI_sL, hL_sI, hL_sL, hI_sI, hN_sI, hN_sL, ch_G, ch_T, nb_0, nb_1, zb_G, d_T, d_F, d_eT, d_eF, b2i_t, b2i_f, tn_nI, fa_lit, fa_litL, m1_e, nI_add, pk_mul, pk_sub, nI_leI, nI_ltI, nI_eq, le_T, le_F, lt_T, lt_F, eq_T, eq_F, if_pos, if_neg, m1_le, m1_lt', m1_gt, m1_le', m1_eq, m1_qe, b2i_eq0, in_N, in_n, in_I, ↓reduceIte, Bool.true_eq_false, Bool.false_eq_true, reduceCtorEq, decide_eq_true_eq, decide_eq_false_iff_not, Nat.not_lt, Nat.not_le, not_true_eq_false, not_false_eq_true, true_and, and_true, and_self, false_and, and_false, true_or, or_true, false_or, or_false, f_X11_tells_17, f_X11_tells_78, f_X11_tells, S.k0, S.r0_7, S.r0_2, W.k, W.r0, W.k1, W.rp, h9, A.k, a2, S.k87, am, c1, S1.k0, S1.r0_7, S1.k87, te, S2.k0, S2.r0_7, S2.k87, t1, s64]
          · rw [if_pos rfl]
        · refine glue Q ⟨_, ?_, C2, F2⟩ (v := nI v) (fun g1 Q1 => ⟨LPl g1 (x + 107) (plP M (N (8 * k + 2)) (N (8 * k + 3)) (N (8 * k + 1)) rn rw_) 4096, (hm g1 Q1).trans ?_, (Q1.lp _ _).1, (Q1.lp _ _).2⟩) O
          · simp (disch := omega) only [nm, bd_s, ko_K, ka_K, koK_t, kaK_t, kr_s, kn_s, kn_n, hK_sI, hR_sI, hK_sL, hR_sL, hI_sL, hL_sI, hL_sL, hI_sI, hN_sI, hN_sL, ch_G, ch_T, nb_0, nb_1, zb_G, d_T, d_F, d_eT, d_eF, b2i_t, b2i_f, tn_nI, fa_lit, fa_litL, m1_e, nI_add, pk_mul, pk_sub, nI_leI, nI_ltI, nI_eq, le_T, le_F, lt_T, lt_F, eq_T, eq_F, if_pos, if_neg, m1_le, m1_lt', m1_gt, m1_le', m1_eq, m1_qe, b2i_eq0, in_N, in_n, in_I, ↓reduceIte, Bool.true_eq_false, Bool.false_eq_true, reduceCtorEq, decide_eq_true_eq, decide_eq_false_iff_not, Nat.not_lt, Nat.not_le, not_true_eq_false, not_false_eq_true, true_and, and_true, and_self, false_and, and_false, true_or, or_true, false_or, or_false, f_X11_tells_17, f_X11_tells_78, f_X11_tells, S.k0, S.r0_7, S.r0_2, W.k, W.r0, W.k1, W.rp, h9, A.k, a2, S.k87, am, c1, S1.k0, S1.r0_7, S1.k87, te, S2.k0, S2.r0_7, S2.k87, t2]
          · rw [if_neg (show ¬ nI 1 = nI 0 by decide)]
      · rw [b2i_n al] at te
        refine glue Q ⟨_, ?_, C2, F2⟩ (v := -nI 1) (fun g1 Q1 => ⟨LPl g1 (x + 107) (plP M (N (8 * k + 2)) (N (8 * k + 3)) (N (8 * k + 1)) rn rw_) 4096, ?_, (Q1.lp _ _).1, (Q1.lp _ _).2⟩) O
        · simp (disch := omega) only [nm, bd_s, ko_K, ka_K, koK_t, kaK_t, kr_s, kn_s, kn_n, hK_sI, hR_sI, hK_sL, hR_sL, hI_sL, hL_sI, hL_sL, hI_sI, hN_sI, hN_sL, ch_G, ch_T, nb_0, nb_1, zb_G, d_T, d_F, d_eT, d_eF, b2i_t, b2i_f, tn_nI, fa_lit, fa_litL, m1_e, nI_add, pk_mul, pk_sub, nI_leI, nI_ltI, nI_eq, le_T, le_F, lt_T, lt_F, eq_T, eq_F, if_pos, if_neg, m1_le, m1_lt', m1_gt, m1_le', m1_eq, m1_qe, b2i_eq0, in_N, in_n, in_I, ↓reduceIte, Bool.true_eq_false, Bool.false_eq_true, reduceCtorEq, decide_eq_true_eq, decide_eq_false_iff_not, Nat.not_lt, Nat.not_le, not_true_eq_false, not_false_eq_true, true_and, and_true, and_self, false_and, and_false, true_or, or_true, false_or, or_false, f_X11_tells_17, f_X11_tells_78, f_X11_tells, S.k0, S.r0_7, S.r0_2, W.k, W.r0, W.k1, W.rp, h9, A.k, a2, S.k87, am, c1, S1.k0, S1.r0_7, S1.k87, te]
        · have ly := m_laysPlaces (Q1.pk O hr hk) (Q1.rw O)
          have T1 := Q1.1
          have T2 := (Q1.lp (plP M (N (8 * k + 2)) (N (8 * k + 3)) (N (8 * k + 1)) rn rw_) 4096).1.1
          have c2 := Q1.ip hr hk
          have e61 : hI (LPl g1 (x + 107) (plP M (N (8 * k + 2)) (N (8 * k + 3)) (N (8 * k + 1)) rn rw_) 4096) (x + 107) 61 = nI (ctN (plP M (N (8 * k + 2)) (N (8 * k + 3)) (N (8 * k + 1)) rn rw_) 4096) := LPl_61
          rw [show ctN (plP M (N (8 * k + 2)) (N (8 * k + 3)) (N (8 * k + 1)) rn rw_) 4096 = 0 by omega] at e61
          have e1 : ∀ n, f_X12_tells_38 (n + 1) (x + 107) (nI k) (nI j) (-nI 1) (nI 0) (stp 0) (LPl g1 (x + 107) (plP M (N (8 * k + 2)) (N (8 * k + 3)) (N (8 * k + 1)) rn rw_) 4096) = some (-nI 1, LPl g1 (x + 107) (plP M (N (8 * k + 2)) (N (8 * k + 3)) (N (8 * k + 1)) rn rw_) 4096) := by
            intro n
            simp (disch := omega) only [nm, bd_s, ko_K, ka_K, koK_t, kaK_t, kr_s, kn_s, kn_n, hK_sI, hR_sI, hK_sL, hR_sL, hI_sL, hL_sI, hL_sL, hI_sI, hN_sI, hN_sL, ch_G, ch_T, nb_0, nb_1, zb_G, d_T, d_F, d_eT, d_eF, b2i_t, b2i_f, tn_nI, fa_lit, fa_litL, m1_e, nI_add, pk_mul, pk_sub, nI_leI, nI_ltI, nI_eq, le_T, le_F, lt_T, lt_F, eq_T, eq_F, if_pos, if_neg, m1_le, m1_lt', m1_gt, m1_le', m1_eq, m1_qe, b2i_eq0, in_N, in_n, in_I, ↓reduceIte, Bool.true_eq_false, Bool.false_eq_true, reduceCtorEq, decide_eq_true_eq, decide_eq_false_iff_not, Nat.not_lt, Nat.not_le, not_true_eq_false, not_false_eq_true, true_and, and_true, and_self, false_and, and_false, true_or, or_true, false_or, or_false, f_X12_tells_38, b_X12_tells_38, f_X12_tells_157, f_X12_tells_176, T2.k, e61, n64]
          simp (disch := omega) only [nm, bd_s, ko_K, ka_K, koK_t, kaK_t, kr_s, kn_s, kn_n, hK_sI, hR_sI, hK_sL, hR_sL, hI_sL, hL_sI, hL_sL, hI_sI, hN_sI, hN_sL, ch_G, ch_T, nb_0, nb_1, zb_G, d_T, d_F, d_eT, d_eF, b2i_t, b2i_f, tn_nI, fa_lit, fa_litL, m1_e, nI_add, pk_mul, pk_sub, nI_leI, nI_ltI, nI_eq, le_T, le_F, lt_T, lt_F, eq_T, eq_F, if_pos, if_neg, m1_le, m1_lt', m1_gt, m1_le', m1_eq, m1_qe, b2i_eq0, in_N, in_n, in_I, ↓reduceIte, Bool.true_eq_false, Bool.false_eq_true, reduceCtorEq, decide_eq_true_eq, decide_eq_false_iff_not, Nat.not_lt, Nat.not_le, not_true_eq_false, not_false_eq_true, true_and, and_true, and_self, false_and, and_false, true_or, or_true, false_or, or_false, f_X12_tells, T1.k, c2, ly, stp_0]
          exact e1 9999
  · have c1 := C.np O hp
    have c2 := Q.np O hp
    refine glue0 C Q O (v := -nI 1) ?_ ?_
    · simp (disch := omega) only [nm, bd_s, ko_K, ka_K, koK_t, kaK_t, kr_s, kn_s, kn_n, hK_sI, hR_sI, hK_sL, hR_sL, hI_sL, hL_sI, hL_sL, hI_sI, hN_sI, hN_sL, ch_G, ch_T, nb_0, nb_1, zb_G, d_T, d_F, d_eT, d_eF, b2i_t, b2i_f, tn_nI, fa_lit, fa_litL, m1_e, nI_add, pk_mul, pk_sub, nI_leI, nI_ltI, nI_eq, le_T, le_F, lt_T, lt_F, eq_T, eq_F, if_pos, if_neg, m1_le, m1_lt', m1_gt, m1_le', m1_eq, m1_qe, b2i_eq0, in_N, in_n, in_I, ↓reduceIte, Bool.true_eq_false, Bool.false_eq_true, reduceCtorEq, decide_eq_true_eq, decide_eq_false_iff_not, Nat.not_lt, Nat.not_le, not_true_eq_false, not_false_eq_true, true_and, and_true, and_self, false_and, and_false, true_or, or_true, false_or, or_false, f_X11_tells_17, f_X11_tells_78, f_X11_tells, S.k0, c1]
    · simp (disch := omega) only [nm, bd_s, ko_K, ka_K, koK_t, kaK_t, kr_s, kn_s, kn_n, hK_sI, hR_sI, hK_sL, hR_sL, hI_sL, hL_sI, hL_sL, hI_sI, hN_sI, hN_sL, ch_G, ch_T, nb_0, nb_1, zb_G, d_T, d_F, d_eT, d_eF, b2i_t, b2i_f, tn_nI, fa_lit, fa_litL, m1_e, nI_add, pk_mul, pk_sub, nI_leI, nI_ltI, nI_eq, le_T, le_F, lt_T, lt_F, eq_T, eq_F, if_pos, if_neg, m1_le, m1_lt', m1_gt, m1_le', m1_eq, m1_qe, b2i_eq0, in_N, in_n, in_I, ↓reduceIte, Bool.true_eq_false, Bool.false_eq_true, reduceCtorEq, decide_eq_true_eq, decide_eq_false_iff_not, Nat.not_lt, Nat.not_le, not_true_eq_false, not_false_eq_true, true_and, and_true, and_self, false_and, and_false, true_or, or_true, false_or, or_false, f_X12_tells, f_X12_tells_19, T.k, c2]
end T3
