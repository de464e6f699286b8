section S2
variable {h : aH} {m : Nat} {tp : Nat → Nat}
theorem m_see43 {n : Nat} (T : MS h m) (tz : ∀ j, j < 1600 → hI h (m + 1) j = nI (tp j)) (ht : ∀ j, tp j ≤ 255) (n16 : n ≤ 16) : ∀ (d i k : Nat), i + d = n → d + 1 < k → f_X12_see_43 k m (nI (2 * n)) (nI 1) (nI (2 * i)) h = f_X12_see_88 m (nI (2 * n)) (b2i (seA tp d i)) h := by
  intro d
  induction d with
  | zero =>
    intro i k hi hk
    obtain ⟨k, rfl⟩ : ∃ m, k = m + 1 := ⟨k - 1, by omega⟩
    have hi : i = n := by omega
    subst hi
    rw [show seA tp 0 i = true from rfl]
    simp (disch := omega) only [nm, bd_s, ko_K, ka_K, koK_t, kaK_t, kr_s, kn_s, kn_n, hK_sI, hR_sI, hK_sL, hR_sL, hI_sL, hL_sI, hL_sL, hI_sI, hN_sI, hN_sL, ch_G, ch_T, nb_0, nb_1, zb_G, d_T, d_F, d_eT, d_eF, b2i_t, b2i_f, tn_nI, fa_lit, fa_litL, m1_e, nI_add, pk_mul, pk_sub, nI_leI, nI_ltI, nI_eq, le_T, le_F, lt_T, lt_F, eq_T, eq_F, if_pos, if_neg, m1_le, m1_lt', m1_gt, m1_le', m1_eq, m1_qe, b2i_eq0, in_N, in_n, in_I, ↓reduceIte, Bool.true_eq_false, Bool.false_eq_true, reduceCtorEq, decide_eq_true_eq, decide_eq_false_iff_not, Nat.not_lt, Nat.not_le, not_true_eq_false, not_false_eq_true, true_and, and_true, and_self, false_and, and_false, true_or, or_true, false_or, or_false, f_X12_see_43, b_X12_see_43]
  | succ d ih =>
    intro i k hi hk
    obtain ⟨k, rfl⟩ : ∃ m, k = m + 1 := ⟨k - 1, by omega⟩
    have z1 := tz (2 * i) (by omega)
    have z2 := tz (2 * i + 1) (by omega)
    have v1 := ht (2 * i)
    have v2 := ht (2 * i + 1)
    rw [show seA tp (d + 1) i = (seP tp i && seA tp d (i + 1)) from rfl]
    have out : seP tp i = false → f_X12_see_81 (f_X12_see_43 k) m (nI (2 * n)) (nI (2 * i)) (nI 0) h = f_X12_see_88 m (nI (2 * n)) (b2i (seP tp i && seA tp d (i + 1))) h := by
      intro q
      rw [q, Bool.false_and, b2i_f]
      obtain ⟨k, rfl⟩ : ∃ m, k = m + 1 := ⟨k - 1, by omega⟩
      by_cases c : 2 * n ≤ 2 * i + 2
      · simp (disch := omega) only [nm, bd_s, ko_K, ka_K, koK_t, kaK_t, kr_s, kn_s, kn_n, hK_sI, hR_sI, hK_sL, hR_sL, hI_sL, hL_sI, hL_sL, hI_sI, hN_sI, hN_sL, ch_G, ch_T, nb_0, nb_1, zb_G, d_T, d_F, d_eT, d_eF, b2i_t, b2i_f, tn_nI, fa_lit, fa_litL, m1_e, nI_add, pk_mul, pk_sub, nI_leI, nI_ltI, nI_eq, le_T, le_F, lt_T, lt_F, eq_T, eq_F, if_pos, if_neg, m1_le, m1_lt', m1_gt, m1_le', m1_eq, m1_qe, b2i_eq0, in_N, in_n, in_I, ↓reduceIte, Bool.true_eq_false, Bool.false_eq_true, reduceCtorEq, decide_eq_true_eq, decide_eq_false_iff_not, Nat.not_lt, Nat.not_le, not_true_eq_false, not_false_eq_true, true_and, and_true, and_self, false_and, and_false, true_or, or_true, false_or, or_false, f_X12_see_81, f_X12_see_43, b_X12_see_43]
      · simp (disch := omega) only [nm, bd_s, ko_K, ka_K, koK_t, kaK_t, kr_s, kn_s, kn_n, hK_sI, hR_sI, hK_sL, hR_sL, hI_sL, hL_sI, hL_sL, hI_sI, hN_sI, hN_sL, ch_G, ch_T, nb_0, nb_1, zb_G, d_T, d_F, d_eT, d_eF, b2i_t, b2i_f, tn_nI, fa_lit, fa_litL, m1_e, nI_add, pk_mul, pk_sub, nI_leI, nI_ltI, nI_eq, le_T, le_F, lt_T, lt_F, eq_T, eq_F, if_pos, if_neg, m1_le, m1_lt', m1_gt, m1_le', m1_eq, m1_qe, b2i_eq0, in_N, in_n, in_I, ↓reduceIte, Bool.true_eq_false, Bool.false_eq_true, reduceCtorEq, decide_eq_true_eq, decide_eq_false_iff_not, Nat.not_lt, Nat.not_le, not_true_eq_false, not_false_eq_true, true_and, and_true, and_self, false_and, and_false, true_or, or_true, false_or, or_false, f_X12_see_81, f_X12_see_43, b_X12_see_43]
    by_cases c1 : tp (2 * i) ≤ 127
    · by_cases c2 : tp (2 * i + 1) ≤ 1
      · have sp : seP tp i = true := by simp [seP, c1, c2]
        have st := ih (i + 1) k (by omega) (by omega)
        rw [show 2 * (i + 1) = 2 * i + 2 by omega] at st
        rw [sp, Bool.true_and]
        simp (disch := omega) only [nm, bd_s, ko_K, ka_K, koK_t, kaK_t, kr_s, kn_s, kn_n, hK_sI, hR_sI, hK_sL, hR_sL, hI_sL, hL_sI, hL_sL, hI_sI, hN_sI, hN_sL, ch_G, ch_T, nb_0, nb_1, zb_G, d_T, d_F, d_eT, d_eF, b2i_t, b2i_f, tn_nI, fa_lit, fa_litL, m1_e, nI_add, pk_mul, pk_sub, nI_leI, nI_ltI, nI_eq, le_T, le_F, lt_T, lt_F, eq_T, eq_F, if_pos, if_neg, m1_le, m1_lt', m1_gt, m1_le', m1_eq, m1_qe, b2i_eq0, in_N, in_n, in_I, ↓reduceIte, Bool.true_eq_false, Bool.false_eq_true, reduceCtorEq, decide_eq_true_eq, decide_eq_false_iff_not, Nat.not_lt, Nat.not_le, not_true_eq_false, not_false_eq_true, true_and, and_true, and_self, false_and, and_false, true_or, or_true, false_or, or_false, f_X12_see_43, b_X12_see_43, f_X12_see_81, T.k, T.r0, T.k0, z1, z2, st]
      · have out := out (by simp [seP, c2])
        simp (disch := omega) only [nm, bd_s, ko_K, ka_K, koK_t, kaK_t, kr_s, kn_s, kn_n, hK_sI, hR_sI, hK_sL, hR_sL, hI_sL, hL_sI, hL_sL, hI_sI, hN_sI, hN_sL, ch_G, ch_T, nb_0, nb_1, zb_G, d_T, d_F, d_eT, d_eF, b2i_t, b2i_f, tn_nI, fa_lit, fa_litL, m1_e, nI_add, pk_mul, pk_sub, nI_leI, nI_ltI, nI_eq, le_T, le_F, lt_T, lt_F, eq_T, eq_F, if_pos, if_neg, m1_le, m1_lt', m1_gt, m1_le', m1_eq, m1_qe, b2i_eq0, in_N, in_n, in_I, ↓reduceIte, Bool.true_eq_false, Bool.false_eq_true, reduceCtorEq, decide_eq_true_eq, decide_eq_false_iff_not, Nat.not_lt, Nat.not_le, not_true_eq_false, not_false_eq_true, true_and, and_true, and_self, false_and, and_false, true_or, or_true, false_or, or_false, f_X12_see_43, b_X12_see_43, f_X12_see_80, T.k, T.r0, T.k0, z1, z2, out]
    · have out := out (by simp [seP, c1])
      simp (disch := omega) only [nm, bd_s, ko_K, ka_K, koK_t, kaK_t, kr_s, kn_s, kn_n, hK_sI, hR_sI, hK_sL, hR_sL, hI_sL, hL_sI, hL_sL, hI_sI, hN_sI, hN_sL, ch_G, ch_T, nb_0, nb_1, zb_G, d_T, d_F, d_eT, d_eF, b2i_t, b2i_f, tn_nI, fa_lit, fa_litL, m1_e, nI_add, pk_mul, pk_sub, nI_leI, nI_ltI, nI_eq, le_T, le_F, lt_T, lt_F, eq_T, eq_F, if_pos, if_neg, m1_le, m1_lt', m1_gt, m1_le', m1_eq, m1_qe, b2i_eq0, in_N, in_n, in_I, ↓reduceIte, Bool.true_eq_false, Bool.false_eq_true, reduceCtorEq, decide_eq_true_eq, decide_eq_false_iff_not, Nat.not_lt, Nat.not_le, not_true_eq_false, not_false_eq_true, true_and, and_true, and_self, false_and, and_false, true_or, or_true, false_or, or_false, f_X12_see_43, b_X12_see_43, f_X12_see_80, T.k, T.r0, T.k0, z1, z2, out]
def MWr (h : aH) (m : Nat) (tp : Nat → Nat) (i : Nat) : aH := sA h (m + 36) (fun j => if j < i then nI (tp j) else hI h (m + 36) j)
theorem MWr_0 : MWr h m tp 0 = h := by
  unfold MWr
  rw [show (fun j => if j < 0 then nI (tp j) else hI h (m + 36) j) = hI h (m + 36) by funext j; rw [if_neg (by omega)], sA_id]
theorem MWr_s {i : Nat} : sI (MWr h m tp i) (m + 36) i (nI (tp i)) = MWr h m tp (i + 1) := by
  unfold MWr
  apply aH_ext
  · intro b; rfl
  · intro b j
    simp only [hI_sI, hI_sA]
    by_cases c1 : b = m + 36
    · subst c1
      by_cases c2 : j = i
      · subst c2; rw [if_pos ⟨rfl, rfl⟩, if_pos rfl, if_pos (by omega)]
      · rw [if_neg (by omega), if_pos rfl, if_pos rfl]
        by_cases c3 : j < i
        · rw [if_pos c3, if_pos (by omega)]
        · rw [if_neg c3, if_neg (by omega)]
    · rw [if_neg (by omega), if_neg c1, if_neg c1]
  · intro b j; rfl
  · intro b j; rfl
  · rfl
  · rfl
theorem m_see100 {n : Nat} (T : MS h m) (tz : ∀ j, j < 1600 → hI h (m + 1) j = nI (tp j)) (n16 : n ≤ 16) : f_X12_see_100 FU m (nI (2 * n)) (nI 0) h = some (nI n, sI (MWr h m tp (2 * n)) m 58 (nI n)) := by
  have G : ∀ i, MS (MWr h m tp i) m := fun i => T.of rfl rfl
  have L1 := (loop_itr (fun k i (_ : Unit) => f_X12_see_100 k m (nI (2 * n)) (nI i) (MWr h m tp i)) (2 * n) (fun _ u => u) (fun _ => (nI n, sI (MWr h m tp (2 * n)) m 58 (nI n))) (fun _ _ => True) (fun k i _ hi _ => ⟨?_, trivial⟩) (fun k _ _ => ?_) (2 * n) 0 () FU (by omega) trivial (FU_gt (by omega))).1
  · rw [MWr_0] at L1; exact L1
  · have z : hI (MWr h m tp i) (m + 1) i = nI (tp i) := by unfold MWr; rw [hI_sA, if_neg (by omega)]; exact tz i (by omega)
    have nx := MWr_s (h := h) (m := m) (tp := tp) (i := i)
    simp (disch := omega) only [nm, bd_s, ko_K, ka_K, koK_t, kaK_t, kr_s, kn_s, kn_n, hK_sI, hR_sI, hK_sL, hR_sL, hI_sL, hL_sI, hL_sL, hI_sI, hN_sI, hN_sL, ch_G, ch_T, nb_0, nb_1, zb_G, d_T, d_F, d_eT, d_eF, b2i_t, b2i_f, tn_nI, fa_lit, fa_litL, m1_e, nI_add, pk_mul, pk_sub, nI_leI, nI_ltI, nI_eq, le_T, le_F, lt_T, lt_F, eq_T, eq_F, if_pos, if_neg, m1_le, m1_lt', m1_gt, m1_le', m1_eq, m1_qe, b2i_eq0, in_N, in_n, in_I, ↓reduceIte, Bool.true_eq_false, Bool.false_eq_true, reduceCtorEq, decide_eq_true_eq, decide_eq_false_iff_not, Nat.not_lt, Nat.not_le, not_true_eq_false, not_false_eq_true, true_and, and_true, and_self, false_and, and_false, true_or, or_true, false_or, or_false, f_X12_see_100, b_X12_see_100, (G i).k, (G i).r59, (G i).k59, (G i).r0, (G i).k0, z, nx]
  · have e3 : nI (2 * n) / nI 2 = nI n := by rw [pk_div (by omega) (by omega) (by omega)]; congr 1; omega
    simp (disch := omega) only [nm, bd_s, ko_K, ka_K, koK_t, kaK_t, kr_s, kn_s, kn_n, hK_sI, hR_sI, hK_sL, hR_sL, hI_sL, hL_sI, hL_sL, hI_sI, hN_sI, hN_sL, ch_G, ch_T, nb_0, nb_1, zb_G, d_T, d_F, d_eT, d_eF, b2i_t, b2i_f, tn_nI, fa_lit, fa_litL, m1_e, nI_add, pk_mul, pk_sub, nI_leI, nI_ltI, nI_eq, le_T, le_F, lt_T, lt_F, eq_T, eq_F, if_pos, if_neg, m1_le, m1_lt', m1_gt, m1_le', m1_eq, m1_qe, b2i_eq0, in_N, in_n, in_I, ↓reduceIte, Bool.true_eq_false, Bool.false_eq_true, reduceCtorEq, decide_eq_true_eq, decide_eq_false_iff_not, Nat.not_lt, Nat.not_le, not_true_eq_false, not_false_eq_true, true_and, and_true, and_self, false_and, and_false, true_or, or_true, false_or, or_false, f_X12_see_100, b_X12_see_100, (G (2 * n)).k, e3]
end S2
section S3
variable {h : aH} {x r tl : Nat} {tp : Nat → Nat} {rf : Nat → Int32} {ft fp : Int32} {sd : Nat} {M mem sh : Nat} {ns : Nat → List Nat} {kd : Nat → Nat} {cd : Nat → List Nat} {N : tyN} {sl : Nat → tyN} {nx c cr : Nat} {rn : Nat} {rw_ : Nat → Nat} {on_ : Nat} {ob : Nat → Nat}
/-- refused, the tape gone -/
theorem glueT {ρ : Type} {v : ρ} {f g : aH → Option (ρ × aH)} {k : Nat} (C : CX h x (r, tl, tp, rf, ft, fp, sd) (M, mem, sh, ns, kd, cd) N (sl, nx, c, cr) (rn, rw_) (on_, ob)) (Q : CM h (x + 107) (r, tl, tp, rf, ft, fp, sd) (M, mem, sh, ns, kd, cd) N (sl, nx, c, cr) (rn, rw_) (on_, ob)) (O : Ok (r, tl, tp, rf, ft, fp, sd) (M, mem, sh, ns, kd, cd) N (sl, nx, c, cr) (rn, rw_) (on_, ob)) (hk : k < 8) (hc : f h = some (v, rfX (sI h x 13 (nI 0)) x k)) (hm : ∀ g1, CM g1 (x + 107) (r, tl, tp, rf, ft, fp, sd) (M, mem, sh, ns, kd, cd) N (sl, nx, c, cr) (rn, rw_) (on_, ob) → g g1 = some (v, rfX (sI g1 (x + 107) 1 (nI 0)) (x + 107) k)) : SM ρ x h f g :=
  glue Q ⟨_, hc, ((tape0_c C).1.rfd hk).1, (tape0_c C).2.trans ((tape0_c C).1.rfd hk).2⟩ (fun h1 Q1 => ⟨_, hm h1 Q1, ((tape0_m Q1).1.rfd hk).1, (tape0_m Q1).2.trans ((tape0_m Q1).1.rfd hk).2⟩) (tape0_o O).rfd
theorem S_see (C : CX h x (r, tl, tp, rf, ft, fp, sd) (M, mem, sh, ns, kd, cd) N (sl, nx, c, cr) (rn, rw_) (on_, ob)) (Q : CM h (x + 107) (r, tl, tp, rf, ft, fp, sd) (M, mem, sh, ns, kd, cd) N (sl, nx, c, cr) (rn, rw_) (on_, ob)) (O : Ok (r, tl, tp, rf, ft, fp, sd) (M, mem, sh, ns, kd, cd) N (sl, nx, c, cr) (rn, rw_) (on_, ob)) : SM Int32 x h (f_X11_see x) (f_X12_see (x + 107)) := by
  have S := C.1
  have T := Q.1
  have e0 : hI h x 12 = nI r := C.2.1.1
  have e13 : hI h x 13 = nI tl := C.2.1.2.1
  have t16 : tl ≤ 1600 := O.1.1
  have tb : ∀ j, tp j ≤ 255 := O.1.2.1
  obtain ⟨C1, F1⟩ := tape0_c C
  have S1 := C1.1
  have f12 : hI (sI h x 13 (nI 0)) x 12 = nI r := C1.2.1.1
  have rfx := c_refuse (k := 1) S1 (by omega)
  have tz : ∀ j, j < 1600 → hI (sI h x 13 (nI 0)) (x + 1) j = (nI (tp j)).toInt8.toInt32 := C1.2.1.2.2.1
  by_cases hr : r = 1
  · subst hr
    by_cases ok : ∃ n, 1 ≤ n ∧ n ≤ 16 ∧ tl = 2 * n
    · obtain ⟨n, n0, n16, rfl⟩ := ok
      have lk := s_look (h := sI h x 13 (nI 0)) (tp := tp) (y := x + 87) (z := x + 1) (n := n) S1.k87 S1.r87_3 S1.r87_4 S1.k88 S1.k89 S1.k1 tz tb (by omega) n16 n0
      have hm0 : ∀ g1, CM g1 (x + 107) (1, 2 * n, tp, rf, ft, fp, sd) (M, mem, sh, ns, kd, cd) N (sl, nx, c, cr) (rn, rw_) (on_, ob) → f_X12_see (x + 107) g1 = f_X12_see_88 (x + 107) (nI (2 * n)) (b2i (seA tp n 0)) (sI g1 (x + 107) 1 (nI 0)) := by
        intro g1 Q1
        have T1 := Q1.1
        have T2 := (tape0_m Q1).1.1
        have g45 : hI g1 (x + 107) 45 = nI 1 := Q1.2.1.1
        have g13 : hI g1 (x + 107) 1 = nI (2 * n) := Q1.2.1.2.1
        have mz : ∀ j, j < 1600 → hI (sI g1 (x + 107) 1 (nI 0)) (x + 107 + 1) j = nI (tp j) := (tape0_m Q1).1.2.1.2.2.1
        have st := m_see43 T2 mz tb n16 n 0 FU (by omega) (by have : FU = 10000 := rfl; omega)
        have e3 : nI (2 * n) / nI 2 = nI n := by rw [pk_div (by omega) (by omega) (by omega)]; congr 1; omega
        have e4 : n * 2 = 2 * n := by omega
        have e5 : 2 * n - 2 * n = 0 := by omega
        rw [← st]
        simp (disch := omega) only [nm, bd_s, ko_K, ka_K, koK_t, kaK_t, kr_s, kn_s, kn_n, hK_sI, hR_sI, hK_sL, hR_sL, hI_sL, hL_sI, hL_sL, hI_sI, hN_sI, hN_sL, ch_G, ch_T, nb_0, nb_1, zb_G, d_T, d_F, d_eT, d_eF, b2i_t, b2i_f, tn_nI, fa_lit, fa_litL, m1_e, nI_add, pk_mul, pk_sub, nI_leI, nI_ltI, nI_eq, le_T, le_F, lt_T, lt_F, eq_T, eq_F, if_pos, if_neg, m1_le, m1_lt', m1_gt, m1_le', m1_eq, m1_qe, b2i_eq0, in_N, in_n, in_I, ↓reduceIte, Bool.true_eq_false, Bool.false_eq_true, reduceCtorEq, decide_eq_true_eq, decide_eq_false_iff_not, Nat.not_lt, Nat.not_le, not_true_eq_false, not_false_eq_true, true_and, and_true, and_self, false_and, and_false, true_or, or_true, false_or, or_false, f_X12_see, f_X12_see_40, T1.k, g13, g45, e3, e4, e5]
      by_cases sa : seA tp n 0 = true
      · rw [if_pos sa] at lk
        have g0 : hI (LK (sI h x 13 (nI 0)) (x + 87) tp n n) (x + 87) 0 = nI n := by
          unfold LK; rw [hI_sA, if_neg (by omega), hI_sA, if_neg (by omega), hI_sI, if_pos ⟨rfl, rfl⟩]
        have go : ∀ b j, ¬ (x + 87 ≤ b ∧ b < x + 90) → hI (LK (sI h x 13 (nI 0)) (x + 87) tp n n) b j = hI (sI h x 13 (nI 0)) b j := fun b j q => by
          unfold LK; rw [hI_sA, if_neg (by omega), hI_sA, if_neg (by omega), hI_sI (sI h x 13 (nI 0)), if_neg (by omega)]
        have S2 : XS (LK (sI h x 13 (nI 0)) (x + 87) tp n n) x := S1.of rfl rfl
        refine glue (A' := (1, 0, tp, rf, ft, fp, sd)) (B' := (M, mem, sh, ns, kd, cd)) (N' := N) (D' := (sl, nx, c, cr)) (E' := (n, tp)) (F' := (on_, ob)) (v := nI n) Q ⟨LK (sI h x 13 (nI 0)) (x + 87) tp n n, ?_, ?_, ?_⟩ (fun g1 Q1 => ⟨sI (MWr (sI g1 (x + 107) 1 (nI 0)) (x + 107) tp (2 * n)) (x + 107) 58 (nI n), ?_, ?_, ?_⟩) ?_
        · simp (disch := omega) only [nm, bd_s, ko_K, ka_K, koK_t, kaK_t, kr_s, kn_s, kn_n, hK_sI, hR_sI, hK_sL, hR_sL, hI_sL, hL_sI, hL_sL, hI_sI, hN_sI, hN_sL, ch_G, ch_T, nb_0, nb_1, zb_G, d_T, d_F, d_eT, d_eF, b2i_t, b2i_f, tn_nI, fa_lit, fa_litL, m1_e, nI_add, pk_mul, pk_sub, nI_leI, nI_ltI, nI_eq, le_T, le_F, lt_T, lt_F, eq_T, eq_F, if_pos, if_neg, m1_le, m1_lt', m1_gt, m1_le', m1_eq, m1_qe, b2i_eq0, in_N, in_n, in_I, ↓reduceIte, Bool.true_eq_false, Bool.false_eq_true, reduceCtorEq, decide_eq_true_eq, decide_eq_false_iff_not, Nat.not_lt, Nat.not_le, not_true_eq_false, not_false_eq_true, true_and, and_true, and_self, false_and, and_false, true_or, or_true, false_or, or_false, f_X11_see_27, f_X11_see, f_X11_takeTape, S.k0, S.k87, S1.k0, S1.r0_7, S1.r0_0, S1.k87, e13, e0, lk, S2.k0, S2.r0_7, S2.k87, g0]
        · obtain ⟨c1, c2, c3, c4, c5, c6, c7, c8, c9⟩ := C1
          refine ⟨S2, c2.fr (fun b _ _ j => go b j (by omega)) rfl, c3.fr (fun b _ _ j => go b j (by omega)) rfl rfl, c4.fr (fun b _ _ j => go b j (by omega)), c5.fr (fun b _ _ j => go b j (by omega)) (fun _ _ _ => rfl) (fun _ _ _ _ => rfl), ⟨g0, n16, fun i hi _ => ⟨?_, ?_⟩⟩, c7.fr (fun b _ _ j => go b j (by omega)), c8, c9⟩
          · have : i < n := hi
            unfold LK; rw [hI_sA, if_neg (by omega), hI_sA, if_pos rfl, if_pos this]; rfl
          · have : i < n := hi
            unfold LK; rw [hI_sA, if_pos rfl, if_pos this]
        · exact F1.trans (fun b b1 b2 => ⟨rfl, fun j => ⟨go b j (by omega), rfl, rfl⟩⟩)
        · have T2 := (tape0_m Q1).1.1
          have mz : ∀ j, j < 1600 → hI (sI g1 (x + 107) 1 (nI 0)) (x + 107 + 1) j = nI (tp j) := (tape0_m Q1).1.2.1.2.2.1
          have cp := m_see100 T2 mz n16
          rw [hm0 g1 Q1, sa, b2i_t, ← cp]
          simp (disch := omega) only [nm, bd_s, ko_K, ka_K, koK_t, kaK_t, kr_s, kn_s, kn_n, hK_sI, hR_sI, hK_sL, hR_sL, hI_sL, hL_sI, hL_sL, hI_sI, hN_sI, hN_sL, ch_G, ch_T, nb_0, nb_1, zb_G, d_T, d_F, d_eT, d_eF, b2i_t, b2i_f, tn_nI, fa_lit, fa_litL, m1_e, nI_add, pk_mul, pk_sub, nI_leI, nI_ltI, nI_eq, le_T, le_F, lt_T, lt_F, eq_T, eq_F, if_pos, if_neg, m1_le, m1_lt', m1_gt, m1_le', m1_eq, m1_qe, b2i_eq0, in_N, in_n, in_I, ↓reduceIte, Bool.true_eq_false, Bool.false_eq_true, reduceCtorEq, decide_eq_true_eq, decide_eq_false_iff_not, Nat.not_lt, Nat.not_le, not_true_eq_false, not_false_eq_true, true_and, and_true, and_self, false_and, and_false, true_or, or_true, false_or, or_false, f_X12_see_88]
        · have Q2 := (tape0_m Q1).1
          have gm : ∀ b j, ¬ (b = x + 107 + 36 ∨ b = x + 107 ∧ j = 58) → hI (sI (MWr (sI g1 (x + 107) 1 (nI 0)) (x + 107) tp (2 * n)) (x + 107) 58 (nI n)) b j = hI (sI g1 (x + 107) 1 (nI 0)) b j := fun b j q => by
            rw [hI_sI, if_neg (by omega)]; unfold MWr; rw [hI_sA, if_neg (by omega)]
          obtain ⟨c1, c2, c3, c4, c5, c6, c7, c8⟩ := Q2
          refine ⟨c1.of rfl rfl, c2.fr (fun b j q => gm b j (by omega)) rfl, c3.fr (fun b j q => gm b j (by omega)) (fun _ _ => rfl), fun j hj => (gm _ j (by omega)).trans (c4 j hj), c5.fr (fun b j q => gm b j (by omega)), ⟨?_, fun j hj _ => ?_⟩, c7.fr (fun b j q => gm b j (by omega)), c8.fr (fun b j q => gm b j (by omega))⟩
          · rw [hI_sI, if_pos ⟨rfl, rfl⟩]
          · have : j < 2 * n := hj
            rw [hI_sI, if_neg (by omega)]; unfold MWr; rw [hI_sA, if_pos rfl, if_pos this]
        · exact (tape0_m Q1).2.trans ((FM.sA (by omega) (by omega)).trans (FM.sI (by omega) (by omega)))
        · obtain ⟨o1, o2, o3⟩ := tape0_o O
          refine ⟨o1, ⟨n16, fun i hi => ?_⟩, o3.1, ?_⟩
          · have al : ∀ (d i j : Nat), seA tp d i = true → i ≤ j → j < i + d → seP tp j = true := by
              intro d
              induction d with
              | zero => intro i j _ _ _; omega
              | succ d ih =>
                intro i j q q1 q2
                rw [show seA tp (d + 1) i = (seP tp i && seA tp d (i + 1)) from rfl, Bool.and_eq_true] at q
                by_cases cj : j = i
                · rw [cj]; exact q.1
                · exact ih (i + 1) j q.2 (by omega) (by omega)
            have := al n 0 i sa (by omega) (by have : i < n := hi; omega)
            simpa [seP] using this
          · rcases o3.2 with z | z
            · exact absurd (show (1 : Nat) = 0 from z.1) (by decide)
            · exact Or.inr z
      · rw [if_neg sa] at lk
        refine glueT (k := 1) (v := -nI 1) C Q O (by omega) ?_ (fun g1 Q1 => ?_)
        · simp (disch := omega) only [nm, bd_s, ko_K, ka_K, koK_t, kaK_t, kr_s, kn_s, kn_n, hK_sI, hR_sI, hK_sL, hR_sL, hI_sL, hL_sI, hL_sL, hI_sI, hN_sI, hN_sL, ch_G, ch_T, nb_0, nb_1, zb_G, d_T, d_F, d_eT, d_eF, b2i_t, b2i_f, tn_nI, fa_lit, fa_litL, m1_e, nI_add, pk_mul, pk_sub, nI_leI, nI_ltI, nI_eq, le_T, le_F, lt_T, lt_F, eq_T, eq_F, if_pos, if_neg, m1_le, m1_lt', m1_gt, m1_le', m1_eq, m1_qe, b2i_eq0, in_N, in_n, in_I, ↓reduceIte, Bool.true_eq_false, Bool.false_eq_true, reduceCtorEq, decide_eq_true_eq, decide_eq_false_iff_not, Nat.not_lt, Nat.not_le, not_true_eq_false, not_false_eq_true, true_and, and_true, and_self, false_and, and_false, true_or, or_true, false_or, or_false, f_X11_see_27, f_X11_see, f_X11_takeTape, S.k0, S.k87, S1.k0, S1.r0_7, S1.r0_0, S1.k87, e13, e0, lk, rfx]
        · have T2 := (tape0_m Q1).1.1
          have rfm := m_refuses (k := 1) T2 (by omega)
          rw [hm0 g1 Q1, ts_nt sa, b2i_f]
          simp (disch := omega) only [nm, bd_s, ko_K, ka_K, koK_t, kaK_t, kr_s, kn_s, kn_n, hK_sI, hR_sI, hK_sL, hR_sL, hI_sL, hL_sI, hL_sL, hI_sI, hN_sI, hN_sL, ch_G, ch_T, nb_0, nb_1, zb_G, d_T, d_F, d_eT, d_eF, b2i_t, b2i_f, tn_nI, fa_lit, fa_litL, m1_e, nI_add, pk_mul, pk_sub, nI_leI, nI_ltI, nI_eq, le_T, le_F, lt_T, lt_F, eq_T, eq_F, if_pos, if_neg, m1_le, m1_lt', m1_gt, m1_le', m1_eq, m1_qe, b2i_eq0, in_N, in_n, in_I, ↓reduceIte, Bool.true_eq_false, Bool.false_eq_true, reduceCtorEq, decide_eq_true_eq, decide_eq_false_iff_not, Nat.not_lt, Nat.not_le, not_true_eq_false, not_false_eq_true, true_and, and_true, and_self, false_and, and_false, true_or, or_true, false_or, or_false, f_X12_see_88, T2.k, rfm]
    · have lk : f_X8_look (x + 87) (x + 1) (nI tl) (sI h x 13 (nI 0)) = some (nI 0, sI h x 13 (nI 0)) := by
        have e2 : Int32.ofNat 1600 = nI 1600 := rfl
        by_cases c1 : tl < 2
        · simp (disch := omega) only [nm, bd_s, ko_K, ka_K, koK_t, kaK_t, kr_s, kn_s, kn_n, hK_sI, hR_sI, hK_sL, hR_sL, hI_sL, hL_sI, hL_sL, hI_sI, hN_sI, hN_sL, ch_G, ch_T, nb_0, nb_1, zb_G, d_T, d_F, d_eT, d_eF, b2i_t, b2i_f, tn_nI, fa_lit, fa_litL, m1_e, nI_add, pk_mul, pk_sub, nI_leI, nI_ltI, nI_eq, le_T, le_F, lt_T, lt_F, eq_T, eq_F, if_pos, if_neg, m1_le, m1_lt', m1_gt, m1_le', m1_eq, m1_qe, b2i_eq0, in_N, in_n, in_I, ↓reduceIte, Bool.true_eq_false, Bool.false_eq_true, reduceCtorEq, decide_eq_true_eq, decide_eq_false_iff_not, Nat.not_lt, Nat.not_le, not_true_eq_false, not_false_eq_true, true_and, and_true, and_self, false_and, and_false, true_or, or_true, false_or, or_false, f_X8_look, f_X8_look_23]
        · by_cases c2 : 32 < tl
          · simp (disch := omega) only [nm, bd_s, ko_K, ka_K, koK_t, kaK_t, kr_s, kn_s, kn_n, hK_sI, hR_sI, hK_sL, hR_sL, hI_sL, hL_sI, hL_sL, hI_sI, hN_sI, hN_sL, ch_G, ch_T, nb_0, nb_1, zb_G, d_T, d_F, d_eT, d_eF, b2i_t, b2i_f, tn_nI, fa_lit, fa_litL, m1_e, nI_add, pk_mul, pk_sub, nI_leI, nI_ltI, nI_eq, le_T, le_F, lt_T, lt_F, eq_T, eq_F, if_pos, if_neg, m1_le, m1_lt', m1_gt, m1_le', m1_eq, m1_qe, b2i_eq0, in_N, in_n, in_I, ↓reduceIte, Bool.true_eq_false, Bool.false_eq_true, reduceCtorEq, decide_eq_true_eq, decide_eq_false_iff_not, Nat.not_lt, Nat.not_le, not_true_eq_false, not_false_eq_true, true_and, and_true, and_self, false_and, and_false, true_or, or_true, false_or, or_false, f_X8_look, f_X8_look_23]
          · have c3 : tl % 2 = 1 := by
              rcases (show tl % 2 = 0 ∨ tl % 2 = 1 by omega) with q | q
              · exact absurd ⟨tl / 2, by omega, by omega, by omega⟩ ok
              · exact q
            have e1 : nI tl &&& nI 1 = nI 1 := by
              have := fa_mask tl 1
              rw [show nI (2 ^ 1 - 1) = nI 1 from rfl, show tl % 2 ^ 1 = 1 by omega] at this
              exact this
            simp (disch := omega) only [nm, bd_s, ko_K, ka_K, koK_t, kaK_t, kr_s, kn_s, kn_n, hK_sI, hR_sI, hK_sL, hR_sL, hI_sL, hL_sI, hL_sL, hI_sI, hN_sI, hN_sL, ch_G, ch_T, nb_0, nb_1, zb_G, d_T, d_F, d_eT, d_eF, b2i_t, b2i_f, tn_nI, fa_lit, fa_litL, m1_e, nI_add, pk_mul, pk_sub, nI_leI, nI_ltI, nI_eq, le_T, le_F, lt_T, lt_F, eq_T, eq_F, if_pos, if_neg, m1_le, m1_lt', m1_gt, m1_le', m1_eq, m1_qe, b2i_eq0, in_N, in_n, in_I, ↓reduceIte, Bool.true_eq_false, Bool.false_eq_true, reduceCtorEq, decide_eq_true_eq, decide_eq_false_iff_not, Nat.not_lt, Nat.not_le, not_true_eq_false, not_false_eq_true, true_and, and_true, and_self, false_and, and_false, true_or, or_true, false_or, or_false, f_X8_look, f_X8_look_23, S1.k1, e2, e1]
      refine glueT (k := 1) (v := -nI 1) C Q O (by omega) ?_ (fun g1 Q1 => ?_)
      · simp (disch := omega) only [nm, bd_s, ko_K, ka_K, koK_t, kaK_t, kr_s, kn_s, kn_n, hK_sI, hR_sI, hK_sL, hR_sL, hI_sL, hL_sI, hL_sL, hI_sI, hN_sI, hN_sL, ch_G, ch_T, nb_0, nb_1, zb_G, d_T, d_F, d_eT, d_eF, b2i_t, b2i_f, tn_nI, fa_lit, fa_litL, m1_e, nI_add, pk_mul, pk_sub, nI_leI, nI_ltI, nI_eq, le_T, le_F, lt_T, lt_F, eq_T, eq_F, if_pos, if_neg, m1_le, m1_lt', m1_gt, m1_le', m1_eq, m1_qe, b2i_eq0, in_N, in_n, in_I, ↓reduceIte, Bool.true_eq_false, Bool.false_eq_true, reduceCtorEq, decide_eq_true_eq, decide_eq_false_iff_not, Nat.not_lt, Nat.not_le, not_true_eq_false, not_false_eq_true, true_and, and_true, and_self, false_and, and_false, true_or, or_true, false_or, or_false, f_X11_see_27, f_X11_see, f_X11_takeTape, S.k0, S.k87, S1.k0, S1.r0_7, S1.r0_0, S1.k87, e13, e0, lk, rfx]
      · have T1 := Q1.1
        have T2 := (tape0_m Q1).1.1
        have g45 : hI g1 (x + 107) 45 = nI 1 := Q1.2.1.1
        have g13 : hI g1 (x + 107) 1 = nI tl := Q1.2.1.2.1
        have rfm := m_refuses (k := 1) T2 (by omega)
        have bad : ∀ n : Nat, n < 2 ^ 31 → f_X12_see_39 (x + 107) (nI n) (sI g1 (x + 107) 1 (nI 0)) = some (-nI 1, rfX (sI g1 (x + 107) 1 (nI 0)) (x + 107) 1) := by
          intro n hn
          have e1 : ∀ k, f_X12_see_43 (k + 1) (x + 107) (nI n) (nI 0) (nI 0) (sI g1 (x + 107) 1 (nI 0)) = some (-nI 1, rfX (sI g1 (x + 107) 1 (nI 0)) (x + 107) 1) := by
            intro k
            by_cases c : n ≤ 0
            · simp (disch := omega) only [nm, bd_s, ko_K, ka_K, koK_t, kaK_t, kr_s, kn_s, kn_n, hK_sI, hR_sI, hK_sL, hR_sL, hI_sL, hL_sI, hL_sL, hI_sI, hN_sI, hN_sL, ch_G, ch_T, nb_0, nb_1, zb_G, d_T, d_F, d_eT, d_eF, b2i_t, b2i_f, tn_nI, fa_lit, fa_litL, m1_e, nI_add, pk_mul, pk_sub, nI_leI, nI_ltI, nI_eq, le_T, le_F, lt_T, lt_F, eq_T, eq_F, if_pos, if_neg, m1_le, m1_lt', m1_gt, m1_le', m1_eq, m1_qe, b2i_eq0, in_N, in_n, in_I, ↓reduceIte, Bool.true_eq_false, Bool.false_eq_true, reduceCtorEq, decide_eq_true_eq, decide_eq_false_iff_not, Nat.not_lt, Nat.not_le, not_true_eq_false, not_false_eq_true, true_and, and_true, and_self, false_and, and_false, true_or, or_true, false_or, or_false, f_X12_see_43, b_X12_see_43, f_X12_see_88, T2.k, rfm]
            · simp (disch := omega) only [nm, bd_s, ko_K, ka_K, koK_t, kaK_t, kr_s, kn_s, kn_n, hK_sI, hR_sI, hK_sL, hR_sL, hI_sL, hL_sI, hL_sL, hI_sI, hN_sI, hN_sL, ch_G, ch_T, nb_0, nb_1, zb_G, d_T, d_F, d_eT, d_eF, b2i_t, b2i_f, tn_nI, fa_lit, fa_litL, m1_e, nI_add, pk_mul, pk_sub, nI_leI, nI_ltI, nI_eq, le_T, le_F, lt_T, lt_F, eq_T, eq_F, if_pos, if_neg, m1_le, m1_lt', m1_gt, m1_le', m1_eq, m1_qe, b2i_eq0, in_N, in_n, in_I, ↓reduceIte, Bool.true_eq_false, Bool.false_eq_true, reduceCtorEq, decide_eq_true_eq, decide_eq_false_iff_not, Nat.not_lt, Nat.not_le, not_true_eq_false, not_false_eq_true, true_and, and_true, and_self, false_and, and_false, true_or, or_true, false_or, or_false, f_X12_see_43, b_X12_see_43, f_X12_see_88, T2.k, rfm]
          exact e1 9999
        have bad := bad tl (by omega)
        have e3 : nI tl / nI 2 = nI (tl / 2) := pk_div (by omega) (by omega) (by omega)
        by_cases c1 : tl ≤ 0
        · simp (disch := omega) only [nm, bd_s, ko_K, ka_K, koK_t, kaK_t, kr_s, kn_s, kn_n, hK_sI, hR_sI, hK_sL, hR_sL, hI_sL, hL_sI, hL_sL, hI_sI, hN_sI, hN_sL, ch_G, ch_T, nb_0, nb_1, zb_G, d_T, d_F, d_eT, d_eF, b2i_t, b2i_f, tn_nI, fa_lit, fa_litL, m1_e, nI_add, pk_mul, pk_sub, nI_leI, nI_ltI, nI_eq, le_T, le_F, lt_T, lt_F, eq_T, eq_F, if_pos, if_neg, m1_le, m1_lt', m1_gt, m1_le', m1_eq, m1_qe, b2i_eq0, in_N, in_n, in_I, ↓reduceIte, Bool.true_eq_false, Bool.false_eq_true, reduceCtorEq, decide_eq_true_eq, decide_eq_false_iff_not, Nat.not_lt, Nat.not_le, not_true_eq_false, not_false_eq_true, true_and, and_true, and_self, false_and, and_false, true_or, or_true, false_or, or_false, f_X12_see, T1.k, g13, g45, bad]
        · by_cases c2 : tl % 2 = 0
          · have c3 : 16 < tl / 2 := by
              refine Nat.lt_of_not_le (fun z => ok ⟨tl / 2, by omega, z, by omega⟩)
            have e5 : tl - tl / 2 * 2 = 0 := by omega
            simp (disch := omega) only [nm, bd_s, ko_K, ka_K, koK_t, kaK_t, kr_s, kn_s, kn_n, hK_sI, hR_sI, hK_sL, hR_sL, hI_sL, hL_sI, hL_sL, hI_sI, hN_sI, hN_sL, ch_G, ch_T, nb_0, nb_1, zb_G, d_T, d_F, d_eT, d_eF, b2i_t, b2i_f, tn_nI, fa_lit, fa_litL, m1_e, nI_add, pk_mul, pk_sub, nI_leI, nI_ltI, nI_eq, le_T, le_F, lt_T, lt_F, eq_T, eq_F, if_pos, if_neg, m1_le, m1_lt', m1_gt, m1_le', m1_eq, m1_qe, b2i_eq0, in_N, in_n, in_I, ↓reduceIte, Bool.true_eq_false, Bool.false_eq_true, reduceCtorEq, decide_eq_true_eq, decide_eq_false_iff_not, Nat.not_lt, Nat.not_le, not_true_eq_false, not_false_eq_true, true_and, and_true, and_self, false_and, and_false, true_or, or_true, false_or, or_false, f_X12_see, T1.k, g13, g45, e3, e5, bad]
          · have e5 : tl - tl / 2 * 2 = 1 := by omega
            simp (disch := omega) only [nm, bd_s, ko_K, ka_K, koK_t, kaK_t, kr_s, kn_s, kn_n, hK_sI, hR_sI, hK_sL, hR_sL, hI_sL, hL_sI, hL_sL, hI_sI, hN_sI, hN_sL, ch_G, ch_T, nb_0, nb_1, zb_G, d_T, d_F, d_eT, d_eF, b2i_t, b2i_f, tn_nI, fa_lit, fa_litL, m1_e, nI_add, pk_mul, pk_sub, nI_leI, nI_ltI, nI_eq, le_T, le_F, lt_T, lt_F, eq_T, eq_F, if_pos, if_neg, m1_le, m1_lt', m1_gt, m1_le', m1_eq, m1_qe, b2i_eq0, in_N, in_n, in_I, ↓reduceIte, Bool.true_eq_false, Bool.false_eq_true, reduceCtorEq, decide_eq_true_eq, decide_eq_false_iff_not, Nat.not_lt, Nat.not_le, not_true_eq_false, not_false_eq_true, true_and, and_true, and_self, false_and, and_false, true_or, or_true, false_or, or_false, f_X12_see, T1.k, g13, g45, e3, e5, bad]
  · have r0 : r = 0 := by have := O.r01; omega
    subst r0
    refine glueT (k := 1) (v := -nI 1) C Q O (by omega) ?_ (fun g1 Q1 => ?_)
    · simp (disch := omega) only [nm, bd_s, ko_K, ka_K, koK_t, kaK_t, kr_s, kn_s, kn_n, hK_sI, hR_sI, hK_sL, hR_sL, hI_sL, hL_sI, hL_sL, hI_sI, hN_sI, hN_sL, ch_G, ch_T, nb_0, nb_1, zb_G, d_T, d_F, d_eT, d_eF, b2i_t, b2i_f, tn_nI, fa_lit, fa_litL, m1_e, nI_add, pk_mul, pk_sub, nI_leI, nI_ltI, nI_eq, le_T, le_F, lt_T, lt_F, eq_T, eq_F, if_pos, if_neg, m1_le, m1_lt', m1_gt, m1_le', m1_eq, m1_qe, b2i_eq0, in_N, in_n, in_I, ↓reduceIte, Bool.true_eq_false, Bool.false_eq_true, reduceCtorEq, decide_eq_true_eq, decide_eq_false_iff_not, Nat.not_lt, Nat.not_le, not_true_eq_false, not_false_eq_true, true_and, and_true, and_self, false_and, and_false, true_or, or_true, false_or, or_false, f_X11_see_27, f_X11_see, f_X11_takeTape, S.k0, S1.k0, e13, e0, rfx]
    · have T1 := Q1.1
      have T2 := (tape0_m Q1).1.1
      have g45 : hI g1 (x + 107) 45 = nI 0 := Q1.2.1.1
      have g13 : hI g1 (x + 107) 1 = nI tl := Q1.2.1.2.1
      have rfm := m_refuses (k := 1) T2 (by omega)
      have e1 : ∀ k, f_X12_see_43 (k + 1) (x + 107) (nI tl) (nI 0) (nI 0) (sI g1 (x + 107) 1 (nI 0)) = some (-nI 1, rfX (sI g1 (x + 107) 1 (nI 0)) (x + 107) 1) := by
        intro k
        by_cases c : tl ≤ 0
        · simp (disch := omega) only [nm, bd_s, ko_K, ka_K, koK_t, kaK_t, kr_s, kn_s, kn_n, hK_sI, hR_sI, hK_sL, hR_sL, hI_sL, hL_sI, hL_sL, hI_sI, hN_sI, hN_sL, ch_G, ch_T, nb_0, nb_1, zb_G, d_T, d_F, d_eT, d_eF, b2i_t, b2i_f, tn_nI, fa_lit, fa_litL, m1_e, nI_add, pk_mul, pk_sub, nI_leI, nI_ltI, nI_eq, le_T, le_F, lt_T, lt_F, eq_T, eq_F, if_pos, if_neg, m1_le, m1_lt', m1_gt, m1_le', m1_eq, m1_qe, b2i_eq0, in_N, in_n, in_I, ↓reduceIte, Bool.true_eq_false, Bool.false_eq_true, reduceCtorEq, decide_eq_true_eq, decide_eq_false_iff_not, Nat.not_lt, Nat.not_le, not_true_eq_false, not_false_eq_true, true_and, and_true, and_self, false_and, and_false, true_or, or_true, false_or, or_false, f_X12_see_43, b_X12_see_43, f_X12_see_88, T2.k, rfm]
        · simp (disch := omega) only [nm, bd_s, ko_K, ka_K, koK_t, kaK_t, kr_s, kn_s, kn_n, hK_sI, hR_sI, hK_sL, hR_sL, hI_sL, hL_sI, hL_sL, hI_sI, hN_sI, hN_sL, ch_G, ch_T, nb_0, nb_1, zb_G, d_T, d_F, d_eT, d_eF, b2i_t, b2i_f, tn_nI, fa_lit, fa_litL, m1_e, nI_add, pk_mul, pk_sub, nI_leI, nI_ltI, nI_eq, le_T, le_F, lt_T, lt_F, eq_T, eq_F, if_pos, if_neg, m1_le, m1_lt', m1_gt, m1_le', m1_eq, m1_qe, b2i_eq0, in_N, in_n, in_I, ↓reduceIte, Bool.true_eq_false, Bool.false_eq_true, reduceCtorEq, decide_eq_true_eq, decide_eq_false_iff_not, Nat.not_lt, Nat.not_le, not_true_eq_false, not_false_eq_true, true_and, and_true, and_self, false_and, and_false, true_or, or_true, false_or, or_false, f_X12_see_43, b_X12_see_43, f_X12_see_88, T2.k, rfm]
      simp (disch := omega) only [nm, bd_s, ko_K, ka_K, koK_t, kaK_t, kr_s, kn_s, kn_n, hK_sI, hR_sI, hK_sL, hR_sL, hI_sL, hL_sI, hL_sL, hI_sI, hN_sI, hN_sL, ch_G, ch_T, nb_0, nb_1, zb_G, d_T, d_F, d_eT, d_eF, b2i_t, b2i_f, tn_nI, fa_lit, fa_litL, m1_e, nI_add, pk_mul, pk_sub, nI_leI, nI_ltI, nI_eq, le_T, le_F, lt_T, lt_F, eq_T, eq_F, if_pos, if_neg, m1_le, m1_lt', m1_gt, m1_le', m1_eq, m1_qe, b2i_eq0, in_N, in_n, in_I, ↓reduceIte, Bool.true_eq_false, Bool.false_eq_true, reduceCtorEq, decide_eq_true_eq, decide_eq_false_iff_not, Nat.not_lt, Nat.not_le, not_true_eq_false, not_false_eq_true, true_and, and_true, and_self, false_and, and_false, true_or, or_true, false_or, or_false, f_X12_see, f_X12_see_39, f_X12_see_40, T1.k, g13, g45]
      exact e1 9999
end S3
