/-! free: both sides -/
theorem fu_n {l : Nat} (h : l ≤ 5000) : FU = (FU - 1 - l) + 1 + l := by unfold FU; omega
section Fr1
variable {h : aH} {x r tl : Nat} {tp : Nat → Nat} {rf : Nat → Int32} {ft fp : Int32} {sd : Nat} {M mem sh : Nat} {ns : Nat → List Nat} {kd : Nat → Nat} {cd : Nat → List Nat} {N : tyN} {sl : Nat → tyN} {nx c cr : Nat} {rn : Nat} {rw_ : Nat → Nat} {on_ : Nat} {ob : Nat → Nat}
theorem c_remove (C : CX h x (r, tl, tp, rf, ft, fp, sd) (M, mem, sh, ns, kd, cd) N (sl, nx, c, cr) (rn, rw_) (on_, ob)) (okn : okN M mem sh N) (h4 : 4 ≤ M) (h8 : M ≤ 8) (mm : mem ≤ 1024) {i : Nat} (hi : i < N 256) : ∃ h1, f_X9_removeObject (x + 3) (nI i) (nI M) h = some ((), h1) ∧ CX h1 x (r, tl, tp, rf, ft, fp, sd) (M, mem, sh, ns, kd, cd) (frN M N i) (sl, nx, c, cr) (rn, rw_) (on_, ob) ∧ FC x h h1 := by
  have n32 := okn.2.2.2.2.1
  have W := C.1.now
  have R := C.2.2.2.1
  obtain ⟨a1, a2, a3⟩ := okn.ob mm hi
  obtain ⟨v1, v2, v3⟩ := R.2.2.1 i hi (by omega)
  have e6 : hI h (x + 3) 6 = nI (N 256) := R.2.1
  obtain ⟨C1, F1⟩ := C.rm n32 hi
  have okr := okn.rm hi
  unfold frN
  generalize N (257 + 3 * i) = b at *
  generalize N (258 + 3 * i) = l at *
  have s0 : f_X9_removeObject (x + 3) (nI i) (nI M) h = f_X9_removeObject_104 FU (x + 3) (nI M) (nI b) (nI l) (nI 0) (rmH h (x + 3) i (N 256 - 1)) := by
    unfold rmH
    simp (disch := omega) only [nm, bd_s, ko_K, ka_K, koK_t, kaK_t, kr_s, kn_s, kn_n, hK_sI, hR_sI, hK_sL, hR_sL, hI_sL, hL_sI, hL_sL, hI_sI, hN_sI, hN_sL, ch_G, ch_T, nb_0, nb_1, zb_G, d_T, d_F, d_eT, d_eF, b2i_t, b2i_f, tn_nI, fa_lit, fa_litL, m1_e, nI_add, pk_mul, pk_sub, nI_leI, nI_ltI, nI_eq, le_T, le_F, lt_T, lt_F, eq_T, eq_F, if_pos, if_neg, m1_le, m1_lt', m1_gt, m1_le', m1_eq, m1_qe, b2i_eq0, in_N, in_n, in_I, ↓reduceIte, Bool.true_eq_false, Bool.false_eq_true, reduceCtorEq, decide_eq_true_eq, decide_eq_false_iff_not, Nat.not_lt, Nat.not_le, not_true_eq_false, not_false_eq_true, true_and, and_true, and_self, false_and, and_false, true_or, or_true, false_or, or_false, f_X9_removeObject, W.k, W.r1, W.r2, W.r3, W.k2, W.k3, W.k4, e6, v1, v2, hK_acp, hR_acp, hI_acp]
  obtain ⟨h2, z1, C2, F2, -⟩ := c_zero (b := b) (l := l) a2 l 0 (FU - 1 - l) (rmN N i) _ (by omega) okr.2.2.2.2.1 C1
  rw [← fu_n (by omega)] at z1
  have okz : okN M mem sh (zF b l 0 (rmN N i)) := okr.mm (fun j z => zF_o _ _ _ _ _ (by omega)) (fun a ha => by
    by_cases c : 353 + b + 0 ≤ 353 + a ∧ 353 + a < 353 + b + 0 + l
    · rw [zF_i _ _ _ _ _ c.1 c.2]; omega
    · rw [zF_o _ _ _ _ _ c]; exact okr.2.2.2.2.2.2.2.2 a ha)
  obtain ⟨h3, y1, C3, F3, -⟩ := c_ivs h4 h8 (b := b) (l := l) a2 32 0 (FU - 1 - 32) _ h2 (by omega) okz.2.1 C2
  rw [← fu_n (by omega)] at y1
  have oki := okN.ivf (b := b) (l := l) h8 32 0 _ (by omega) okz
  obtain ⟨h5, n1, C5, F5⟩ := C3.nt oki.2.2.2.2.1 oki.2.2.2.2.2.2.2.1 1 b l
  have W3 := C3.1.now
  refine ⟨h5, ?_, C5, (F1.trans F2).trans (F3.trans F5)⟩
  rw [s0, z1, y1]
  simp (disch := omega) only [nm, bd_s, ko_K, ka_K, koK_t, kaK_t, kr_s, kn_s, kn_n, hK_sI, hR_sI, hK_sL, hR_sL, hI_sL, hL_sI, hL_sL, hI_sI, hN_sI, hN_sL, ch_G, ch_T, nb_0, nb_1, zb_G, d_T, d_F, d_eT, d_eF, b2i_t, b2i_f, tn_nI, fa_lit, fa_litL, m1_e, nI_add, pk_mul, pk_sub, nI_leI, nI_ltI, nI_eq, le_T, le_F, lt_T, lt_F, eq_T, eq_F, if_pos, if_neg, m1_le, m1_lt', m1_gt, m1_le', m1_eq, m1_qe, b2i_eq0, in_N, in_n, in_I, ↓reduceIte, Bool.true_eq_false, Bool.false_eq_true, reduceCtorEq, decide_eq_true_eq, decide_eq_false_iff_not, Nat.not_lt, Nat.not_le, not_true_eq_false, not_false_eq_true, true_and, and_true, and_self, false_and, and_false, true_or, or_true, false_or, or_false, f_X9_removeObject_129, b_X9_removeObject_129, W3.k, n1]
/-- the reference's rows shift -/
def mRm (h : aH) (m i t : Nat) : aH := fb h (m + 34) (257 + 3 * i) t (fun j => hI h (m + 34) (257 + 3 * i + j + 3))
theorem m_shift (Q : CM h (x + 107) (r, tl, tp, rf, ft, fp, sd) (M, mem, sh, ns, kd, cd) N (sl, nx, c, cr) (rn, rw_) (on_, ob)) (n32 : N 256 ≤ 32) {i b l : Nat} (hi : i < N 256) : ∃ h1, (∀ h9, f_X12_isKept (x + 107) (nI 1) (nI b) (nI l) h1 = some ((), h9) → f_X12_frees_121 FU (x + 107) (nI b) (nI l) (nI (257 + 3 * i)) (sI h (x + 107 + 34) 256 (nI (N 256 - 1))) = some ((), h9)) ∧ CM h1 (x + 107) (r, tl, tp, rf, ft, fp, sd) (M, mem, sh, ns, kd, cd) (rmN N i) (sl, nx, c, cr) (rn, rw_) (on_, ob) ∧ FM x h h1 := by
  have T := Q.1
  obtain ⟨g, hg⟩ : ∃ g, g = sI h (x + 107 + 34) 256 (nI (N 256 - 1)) := ⟨_, rfl⟩
  rw [← hg]
  have G : MS g (x + 107) := by rw [hg]; exact T.of rfl rfl
  have g6 : hI g (x + 107 + 34) 256 = nI (N 256 - 1) := by rw [hg, hI_sI, if_pos ⟨rfl, rfl⟩]
  have go : ∀ b j, ¬ (b = x + 107 + 34 ∧ j = 256) → hI g b j = hI h b j := fun b j q => by rw [hg, hI_sI, if_neg q]
  have L : ∀ (d t n : Nat) (h9 : aH), t + d = 3 * (N 256 - 1 - i) → d < n → f_X12_isKept (x + 107) (nI 1) (nI b) (nI l) (mRm g (x + 107) i (3 * (N 256 - 1 - i))) = some ((), h9) → f_X12_frees_121 n (x + 107) (nI b) (nI l) (nI (257 + 3 * i + t)) (mRm g (x + 107) i t) = some ((), h9) := by
    intro d
    induction d with
    | zero =>
      intro t n h9 ht hn hk
      obtain ⟨n, rfl⟩ : ∃ k, n = k + 1 := ⟨n - 1, by omega⟩
      have ht : t = 3 * (N 256 - 1 - i) := by omega
      subst ht
      have G1 : MS (mRm g (x + 107) i (3 * (N 256 - 1 - i))) (x + 107) := G.of rfl rfl
      have g1 : hI (mRm g (x + 107) i (3 * (N 256 - 1 - i))) (x + 107 + 34) 256 = nI (N 256 - 1) := by unfold mRm; rw [hI_fb, if_neg (by omega)]; exact g6
      simp (disch := omega) only [nm, bd_s, ko_K, ka_K, koK_t, kaK_t, kr_s, kn_s, kn_n, hK_sI, hR_sI, hK_sL, hR_sL, hI_sL, hL_sI, hL_sL, hI_sI, hN_sI, hN_sL, ch_G, ch_T, nb_0, nb_1, zb_G, d_T, d_F, d_eT, d_eF, b2i_t, b2i_f, tn_nI, fa_lit, fa_litL, m1_e, nI_add, pk_mul, pk_sub, nI_leI, nI_ltI, nI_eq, le_T, le_F, lt_T, lt_F, eq_T, eq_F, if_pos, if_neg, m1_le, m1_lt', m1_gt, m1_le', m1_eq, m1_qe, b2i_eq0, in_N, in_n, in_I, ↓reduceIte, Bool.true_eq_false, Bool.false_eq_true, reduceCtorEq, decide_eq_true_eq, decide_eq_false_iff_not, Nat.not_lt, Nat.not_le, not_true_eq_false, not_false_eq_true, true_and, and_true, and_self, false_and, and_false, true_or, or_true, false_or, or_false, f_X12_frees_121, b_X12_frees_121, f_X12_objectMany, G1.k, G1.r47, G1.k47, g1, hk]
    | succ d ih =>
      intro t n h9 ht hn hk
      obtain ⟨n, rfl⟩ : ∃ k, n = k + 1 := ⟨n - 1, by omega⟩
      have G1 : MS (mRm g (x + 107) i t) (x + 107) := G.of rfl rfl
      have g1 : hI (mRm g (x + 107) i t) (x + 107 + 34) 256 = nI (N 256 - 1) := by unfold mRm; rw [hI_fb, if_neg (by omega)]; exact g6
      have v : hI (mRm g (x + 107) i t) (x + 107 + 34) (257 + 3 * i + t + 3) = hI g (x + 107 + 34) (257 + 3 * i + t + 3) := by unfold mRm; rw [hI_fb, if_neg (by omega)]
      have nx := fb_next (h := g) (a := x + 107 + 34) (t := 257 + 3 * i) (i := t) (f := fun j => hI g (x + 107 + 34) (257 + 3 * i + j + 3))
      rw [show fb g (x + 107 + 34) (257 + 3 * i) t (fun j => hI g (x + 107 + 34) (257 + 3 * i + j + 3)) = mRm g (x + 107) i t from rfl, show fb g (x + 107 + 34) (257 + 3 * i) (t + 1) (fun j => hI g (x + 107 + 34) (257 + 3 * i + j + 3)) = mRm g (x + 107) i (t + 1) from rfl] at nx
      rw [← ih (t + 1) n h9 (by omega) (by omega) hk]
      show _ = f_X12_frees_121 n (x + 107) (nI b) (nI l) (nI (257 + 3 * i + t + 1)) _
      simp (disch := omega) only [nm, bd_s, ko_K, ka_K, koK_t, kaK_t, kr_s, kn_s, kn_n, hK_sI, hR_sI, hK_sL, hR_sL, hI_sL, hL_sI, hL_sL, hI_sI, hN_sI, hN_sL, ch_G, ch_T, nb_0, nb_1, zb_G, d_T, d_F, d_eT, d_eF, b2i_t, b2i_f, tn_nI, fa_lit, fa_litL, m1_e, nI_add, pk_mul, pk_sub, nI_leI, nI_ltI, nI_eq, le_T, le_F, lt_T, lt_F, eq_T, eq_F, if_pos, if_neg, m1_le, m1_lt', m1_gt, m1_le', m1_eq, m1_qe, b2i_eq0, in_N, in_n, in_I, ↓reduceIte, Bool.true_eq_false, Bool.false_eq_true, reduceCtorEq, decide_eq_true_eq, decide_eq_false_iff_not, Nat.not_lt, Nat.not_le, not_true_eq_false, not_false_eq_true, true_and, and_true, and_self, false_and, and_false, true_or, or_true, false_or, or_false, f_X12_frees_121, b_X12_frees_121, f_X12_objectMany, G1.k, G1.r47, G1.k47, g1, v, nx]
  refine ⟨mRm g (x + 107) i (3 * (N 256 - 1 - i)), fun h9 hk => ?_, ?_, ?_⟩
  · have := L (3 * (N 256 - 1 - i)) 0 FU h9 (by omega) (FU_gt (by omega)) hk
    rw [show mRm g (x + 107) i 0 = g from fb_0, Nat.add_zero (257 + 3 * i)] at this
    exact this
  · refine Q.nc (by rw [show hK (mRm g (x + 107) i (3 * (N 256 - 1 - i))) = hK g from rfl, hg]; rfl) (by rw [show hR (mRm g (x + 107) i (3 * (N 256 - 1 - i))) = hR g from rfl, hg]; rfl) (fun b j _ q => ?_) (by rw [show hL (mRm g (x + 107) i (3 * (N 256 - 1 - i))) = hL g from rfl, hg]; rfl) (fun _ _ => by rw [show hL (mRm g (x + 107) i (3 * (N 256 - 1 - i))) = hL g from rfl, hg]; rfl) (fun j hj => ?_)
    · unfold mRm; rw [hI_fb, if_neg (by omega), go _ _ (by omega)]
    · unfold mRm
      rw [hI_fb]
      by_cases c : 257 + 3 * i ≤ j ∧ j < 257 + 3 * i + 3 * (N 256 - 1 - i)
      · rw [if_pos ⟨rfl, c⟩, go _ _ (by omega), mN_n (by omega)]
        unfold rmN
        rw [if_neg (by omega), if_pos (by omega), show 257 + 3 * i + (j - (257 + 3 * i)) + 3 = j + 3 by omega]
        exact Q.n (by omega) (by omega)
      · rw [if_neg (by omega)]
        by_cases c6 : j = 256
        · subst c6; rw [g6, mN_n (by omega), rmN_n]
        · rw [go _ _ (by omega), Q.2.2.2.1 j hj]
          unfold mN
          have : rmN N i j = N j := by unfold rmN; rw [if_neg c6, if_neg (by omega)]
          rw [this]
  · have f1 : FM x h g := by rw [hg]; exact FM.sI (by omega) (by omega)
    exact f1.trans (FM.fb (by omega) (by omega))
theorem m_frees (Q : CM h (x + 107) (r, tl, tp, rf, ft, fp, sd) (M, mem, sh, ns, kd, cd) N (sl, nx, c, cr) (rn, rw_) (on_, ob)) (okn : okN M mem sh N) (h4 : 4 ≤ M) (h8 : M ≤ 8) (mm : mem ≤ 1024) {i : Nat} (hi : i < N 256) : ∃ h1, f_X12_frees (x + 107) (nI i) h = some ((), h1) ∧ CM h1 (x + 107) (r, tl, tp, rf, ft, fp, sd) (M, mem, sh, ns, kd, cd) (frN M N i) (sl, nx, c, cr) (rn, rw_) (on_, ob) ∧ FM x h h1 := by
  have n32 := okn.2.2.2.2.1
  have T := Q.1
  obtain ⟨a1, a2, a3⟩ := okn.ob mm hi
  have v1 : hI h (x + 107 + 34) (257 + 3 * i) = nI (N (257 + 3 * i)) := Q.n (by omega) (by omega)
  have v2 : hI h (x + 107 + 34) (257 + 3 * i + 1) = nI (N (258 + 3 * i)) := by rw [show 258 + 3 * i = 257 + 3 * i + 1 by omega]; exact Q.n (by omega) (by omega)
  have v1' : hI h (x + 107 + 34) (257 + 3 * i + 0) = nI (N (257 + 3 * i)) := v1
  unfold frN
  generalize N (257 + 3 * i) = b at *
  generalize N (258 + 3 * i) = l at *
  obtain ⟨h1, z1, Q1, F1⟩ := m_zero (b := b) (l := l) (k := i) a2 l 0 (FU - 1 - l) N h (by omega) Q
  rw [← fu_n (by omega)] at z1
  have okz : okN M mem sh (zF b l 0 N) := okn.mm (fun j z => zF_o _ _ _ _ _ (by omega)) (fun a ha => by
    by_cases c : 353 + b + 0 ≤ 353 + a ∧ 353 + a < 353 + b + 0 + l
    · rw [zF_i _ _ _ _ _ c.1 c.2]; omega
    · rw [zF_o _ _ _ _ _ c]; exact okn.2.2.2.2.2.2.2.2 a ha)
  have ez : zF b l 0 N 256 = N 256 := zF_o _ _ _ _ _ (by omega)
  obtain ⟨h2, y1, Q2, F2⟩ := m_ivs h4 h8 (b := b) (l := l) (i := i) a2 a3 32 0 (FU - 1 - 32) _ h1 (by omega) okz.2.1 Q1
  rw [← fu_n (by omega), Nat.mul_zero] at y1
  have oki := okN.ivf (b := b) (l := l) h8 32 0 _ (by omega) okz
  have ei : ivF M b l 32 0 (zF b l 0 N) 256 = N 256 := by rw [ivF_o _ _ _ _ (by omega) (by omega), ez]
  obtain ⟨h3, s1, Q3, F3⟩ := m_shift Q2 (by rw [ei]; exact n32) (i := i) (b := b) (l := l) (by rw [ei]; exact hi)
  rw [ei] at s1
  rw [← ivF_rm 32 0 _ (by rw [ez]; exact n32) (by omega), ← zF_rm n32] at Q3
  have n40 : ivF M b l 32 0 (zF b l 0 (rmN N i)) 1377 ≤ 40 := by
    rw [zF_rm n32, ivF_rm 32 0 _ (by rw [ez]; exact n32) (by omega), rmN_o (by rw [ei]; exact n32) (by omega)]; exact oki.2.2.2.2.2.2.2.1
  obtain ⟨h5, n1, Q5, F5⟩ := Q3.nt n40 1 b l
  have s1 := s1 h5 n1
  have T2 := Q2.1
  have e2 : hI h2 (x + 107 + 34) 256 = nI (N 256) := by rw [← ei]; exact Q2.n (by omega) (by omega)
  refine ⟨h5, ?_, Q5, (F1.trans F2).trans (F3.trans F5)⟩
  have s0 : f_X12_frees (x + 107) (nI i) h = f_X12_frees_17 FU (x + 107) (nI i) (nI b) (nI l) (nI 0) h := by
    simp (disch := omega) only [nm, bd_s, ko_K, ka_K, koK_t, kaK_t, kr_s, kn_s, kn_n, hK_sI, hR_sI, hK_sL, hR_sL, hI_sL, hL_sI, hL_sL, hI_sI, hN_sI, hN_sL, ch_G, ch_T, nb_0, nb_1, zb_G, d_T, d_F, d_eT, d_eF, b2i_t, b2i_f, tn_nI, fa_lit, fa_litL, m1_e, nI_add, pk_mul, pk_sub, nI_leI, nI_ltI, nI_eq, le_T, le_F, lt_T, lt_F, eq_T, eq_F, if_pos, if_neg, m1_le, m1_lt', m1_gt, m1_le', m1_eq, m1_qe, b2i_eq0, in_N, in_n, in_I, ↓reduceIte, Bool.true_eq_false, Bool.false_eq_true, reduceCtorEq, decide_eq_true_eq, decide_eq_false_iff_not, Nat.not_lt, Nat.not_le, not_true_eq_false, not_false_eq_true, true_and, and_true, and_self, false_and, and_false, true_or, or_true, false_or, or_false, f_X12_frees, f_X12_objectOf, T.k, T.r47, T.k47, v1', v2]
  rw [s0, z1, y1]
  simp (disch := omega) only [nm, bd_s, ko_K, ka_K, koK_t, kaK_t, kr_s, kn_s, kn_n, hK_sI, hR_sI, hK_sL, hR_sL, hI_sL, hL_sI, hL_sL, hI_sI, hN_sI, hN_sL, ch_G, ch_T, nb_0, nb_1, zb_G, d_T, d_F, d_eT, d_eF, b2i_t, b2i_f, tn_nI, fa_lit, fa_litL, m1_e, nI_add, pk_mul, pk_sub, nI_leI, nI_ltI, nI_eq, le_T, le_F, lt_T, lt_F, eq_T, eq_F, if_pos, if_neg, m1_le, m1_lt', m1_gt, m1_le', m1_eq, m1_qe, b2i_eq0, in_N, in_n, in_I, ↓reduceIte, Bool.true_eq_false, Bool.false_eq_true, reduceCtorEq, decide_eq_true_eq, decide_eq_false_iff_not, Nat.not_lt, Nat.not_le, not_true_eq_false, not_false_eq_true, true_and, and_true, and_self, false_and, and_false, true_or, or_true, false_or, or_false, f_X12_frees_46, b_X12_frees_46, T2.k, T2.r47, T2.k47, e2, s1]
/-- which object a pointer's bounds are -/
def obQ (M : Nat) (N : tyN) (k i : Nat) : Bool := decide (N (257 + 3 * i) = basN M (N (8 * k + 2)) (N (8 * k + 3)) (N (8 * k + 1))) && decide (N (258 + 3 * i) = lnN M (N (8 * k + 2)) (N (8 * k + 3)) (N (8 * k + 4)))
def obN (M : Nat) (N : tyN) (k : Nat) : Option Nat := if (decide (N (8 * k) = 1) && decide (N (8 * k + 6) = 0)) = true then fnd (obQ M N k) (N 256) 0 else none
theorem obN_lt {k i : Nat} (h : obN M N k = some i) : i < N 256 := by
  unfold obN at h
  split at h
  · have := fnd_lt _ _ _ h; omega
  · cases h
theorem c_objectOf (C : CX h x (r, tl, tp, rf, ft, fp, sd) (M, mem, sh, ns, kd, cd) N (sl, nx, c, cr) (rn, rw_) (on_, ob)) (okn : okN M mem sh N) (hr : r = 1) (h4 : 4 ≤ M) (h8 : M ≤ 8) {k : Nat} (hk : k < 16) : f_X11_objectOf x (nI k) h = some (opI (obN M N k), h) := by
  have S := C.1
  have W := S.now
  have n32 := okn.2.2.2.2.1
  have R := C.2.2.2.1
  have kp := W.kp (k := k) (by omega)
  have us := c_usable C okn hk
  obtain ⟨a, ha, h9, A, B⟩ := C.run hr
  have b2 : hI h a 2 = nI M := B.2.1
  obtain ⟨p0, p1, p2, p3, p4, p5, p6, p7⟩ := R.cl (show k < 32 by omega) (okn.fl hk)
  have okp := okn.2.1 k (by omega)
  have pb := p_base kp (nI M)
  rw [p3, p4, p2, bas_nI h4 h8 okp.2.2.1 okp.2.2.2.1 (by have := okp.2.1; omega)] at pb
  have px := p_extent kp (nI M)
  rw [p3, p4, p5, len_nI h4 h8 okp.2.2.1 okp.2.2.2.1] at px
  have ll := lnN_le h4 h8 okp.2.2.1 okp.2.2.2.2.2.1
  have bl := basN_lt M (N (8 * k + 2)) (N (8 * k + 3)) (N (8 * k + 1))
  rw [show (N (8 * k + 4) + 2 ^ M - N (8 * k + 3)) % 2 ^ M * 2 ^ N (8 * k + 2) = lnN M (N (8 * k + 2)) (N (8 * k + 3)) (N (8 * k + 4)) from rfl] at px
  unfold obN
  by_cases u : (decide (N (8 * k) = 1) && decide (N (8 * k + 6) = 0)) = true
  · rw [if_pos u]
    rw [u, b2i_t] at us
    have ow := s_objectWith W (n := N 256) R.2.1 n32 (nI (basN M (N (8 * k + 2)) (N (8 * k + 3)) (N (8 * k + 1)))) (nI (lnN M (N (8 * k + 2)) (N (8 * k + 3)) (N (8 * k + 4))))
    have fc := fnd_congr (p := fun i => decide (hI h (x + 3 + 2) i = nI (basN M (N (8 * k + 2)) (N (8 * k + 3)) (N (8 * k + 1)))) && decide (hI h (x + 3 + 3) i = nI (lnN M (N (8 * k + 2)) (N (8 * k + 3)) (N (8 * k + 4))))) (q := obQ M N k) (N 256) 0 (fun j _ h2 => by
      obtain ⟨v1, v2, v3⟩ := R.2.2.1 j (by omega) (by omega)
      have o1 := okn.1 (257 + 3 * j)
      have o2 := okn.1 (258 + 3 * j)
      unfold obQ
      simp (disch := omega) only [v1, v2, nI_eq])
    rw [fc] at ow
    have ow : f_X9_objectWith (x + 3) (nI (basN M (N (8 * k + 2)) (N (8 * k + 3)) (N (8 * k + 1)))) (nI (lnN M (N (8 * k + 2)) (N (8 * k + 3)) (N (8 * k + 4)))) h = some (opI (fnd (obQ M N k) (N 256) 0), h) := by
      rw [ow]; cases fnd (obQ M N k) (N 256) 0 <;> rfl
    generalize opI (fnd (obQ M N k) (N 256) 0) = w at *
    simp (disch := omega) only [nm, bd_s, ko_K, ka_K, koK_t, kaK_t, kr_s, kn_s, kn_n, hK_sI, hR_sI, hK_sL, hR_sL, hI_sL, hL_sI, hL_sL, hI_sI, hN_sI, hN_sL, ch_G, ch_T, nb_0, nb_1, zb_G, d_T, d_F, d_eT, d_eF, b2i_t, b2i_f, tn_nI, fa_lit, fa_litL, m1_e, nI_add, pk_mul, pk_sub, nI_leI, nI_ltI, nI_eq, le_T, le_F, lt_T, lt_F, eq_T, eq_F, if_pos, if_neg, m1_le, m1_lt', m1_gt, m1_le', m1_eq, m1_qe, b2i_eq0, in_N, in_n, in_I, ↓reduceIte, Bool.true_eq_false, Bool.false_eq_true, reduceCtorEq, decide_eq_true_eq, decide_eq_false_iff_not, Nat.not_lt, Nat.not_le, not_true_eq_false, not_false_eq_true, true_and, and_true, and_self, false_and, and_false, true_or, or_true, false_or, or_false, f_X11_objectOf, S.k0, S.r0_2, W.k, W.r0, W.k1, W.rp, kp, us, h9, A.k, b2, pb, px, ow]
  · rw [if_neg u]
    rw [ts_nt u, b2i_f] at us
    show _ = some (-nI 1, h)
    simp (disch := omega) only [nm, bd_s, ko_K, ka_K, koK_t, kaK_t, kr_s, kn_s, kn_n, hK_sI, hR_sI, hK_sL, hR_sL, hI_sL, hL_sI, hL_sL, hI_sI, hN_sI, hN_sL, ch_G, ch_T, nb_0, nb_1, zb_G, d_T, d_F, d_eT, d_eF, b2i_t, b2i_f, tn_nI, fa_lit, fa_litL, m1_e, nI_add, pk_mul, pk_sub, nI_leI, nI_ltI, nI_eq, le_T, le_F, lt_T, lt_F, eq_T, eq_F, if_pos, if_neg, m1_le, m1_lt', m1_gt, m1_le', m1_eq, m1_qe, b2i_eq0, in_N, in_n, in_I, ↓reduceIte, Bool.true_eq_false, Bool.false_eq_true, reduceCtorEq, decide_eq_true_eq, decide_eq_false_iff_not, Nat.not_lt, Nat.not_le, not_true_eq_false, not_false_eq_true, true_and, and_true, and_self, false_and, and_false, true_or, or_true, false_or, or_false, f_X11_objectOf, S.k0, S.r0_2, W.k, W.r0, W.k1, W.rp, kp, us]
theorem m_objectBy (Q : CM h (x + 107) (r, tl, tp, rf, ft, fp, sd) (M, mem, sh, ns, kd, cd) N (sl, nx, c, cr) (rn, rw_) (on_, ob)) (okn : okN M mem sh N) (hr : r = 1) (h4 : 4 ≤ M) (h8 : M ≤ 8) {k : Nat} (hk : k < 16) : f_X12_objectBy (x + 107) (nI k) h = some (opI (obN M N k), h) := by
  have T := Q.1
  have n32 := okn.2.2.2.2.1
  have us := m_isOpen Q okn hr hk
  have e6 : hI h (x + 107 + 34) 256 = nI (N 256) := Q.n (by omega) (by omega)
  obtain ⟨q0, q1, q2, q3, q4, q5, q6⟩ := Q.q (show k < 32 by omega) (okn.fl hk)
  have okp := okn.2.1 k (by omega)
  have m1 : hI h (x + 107 + 28) 4 = nI M := Q.2.2.1.2.1
  have pb := m_baseOf T (k := 8 * k) (by omega)
  rw [m1, q1, q2, q3, bas_nI h4 h8 okp.2.2.1 okp.2.2.2.1 (by have := okp.2.1; omega)] at pb
  have px := m_lengthOf T (k := 8 * k) (by omega)
  rw [m1, q2, q3, q4, len_nI h4 h8 okp.2.2.1 okp.2.2.2.1] at px
  have ll := lnN_le h4 h8 okp.2.2.1 okp.2.2.2.2.2.1
  have bl := basN_lt M (N (8 * k + 2)) (N (8 * k + 3)) (N (8 * k + 1))
  rw [show (N (8 * k + 4) + 2 ^ M - N (8 * k + 3)) % 2 ^ M * 2 ^ N (8 * k + 2) = lnN M (N (8 * k + 2)) (N (8 * k + 3)) (N (8 * k + 4)) from rfl] at px
  unfold obN
  by_cases u : (decide (N (8 * k) = 1) && decide (N (8 * k + 6) = 0)) = true
  · rw [if_pos u]
    rw [u, b2i_t] at us
    have L := loop_fnd (fun n i => f_X12_objectBy_2 n (x + 107) (nI k) (nI i) h) (N 256) (obQ M N k) (fun j => (nI j, h)) (-nI 1, h) (fun n i hi => ?_) (fun n => ?_) (N 256) 0 FU (by omega) (FU_gt (by omega))
    · refine Eq.trans L ?_
      cases fnd (obQ M N k) (N 256) 0 <;> rfl
    · have v1 : hI h (x + 107 + 34) (257 + 3 * i + 0) = nI (N (257 + 3 * i)) := Q.n (by omega) (by omega)
      have v2 : hI h (x + 107 + 34) (257 + 3 * i + 1) = nI (N (258 + 3 * i)) := by rw [show 258 + 3 * i = 257 + 3 * i + 1 by omega]; exact Q.n (by omega) (by omega)
      have o1 := okn.1 (257 + 3 * i)
      have o2 := okn.1 (258 + 3 * i)
      unfold obQ
      generalize lnN M (N (8 * k + 2)) (N (8 * k + 3)) (N (8 * k + 4)) = ln at *
      generalize basN M (N (8 * k + 2)) (N (8 * k + 3)) (N (8 * k + 1)) = bs at *
      generalize N (257 + 3 * i) = b at *
      generalize N (258 + 3 * i) = l at *
      by_cases c1 : b = bs
      · by_cases c2 : l = ln
        · rw [decide_eq_true c1, decide_eq_true c2, Bool.and_self, if_pos rfl]
          simp (disch := omega) only [nm, bd_s, ko_K, ka_K, koK_t, kaK_t, kr_s, kn_s, kn_n, hK_sI, hR_sI, hK_sL, hR_sL, hI_sL, hL_sI, hL_sL, hI_sI, hN_sI, hN_sL, ch_G, ch_T, nb_0, nb_1, zb_G, d_T, d_F, d_eT, d_eF, b2i_t, b2i_f, tn_nI, fa_lit, fa_litL, m1_e, nI_add, pk_mul, pk_sub, nI_leI, nI_ltI, nI_eq, le_T, le_F, lt_T, lt_F, eq_T, eq_F, if_pos, if_neg, m1_le, m1_lt', m1_gt, m1_le', m1_eq, m1_qe, b2i_eq0, in_N, in_n, in_I, ↓reduceIte, Bool.true_eq_false, Bool.false_eq_true, reduceCtorEq, decide_eq_true_eq, decide_eq_false_iff_not, Nat.not_lt, Nat.not_le, not_true_eq_false, not_false_eq_true, true_and, and_true, and_self, false_and, and_false, true_or, or_true, false_or, or_false, f_X12_objectBy_2, b_X12_objectBy_2, f_X12_objectBy_60, f_X12_objectBy_54, f_X12_objectMany, f_X12_objectOf, T.k, T.r47, T.k47, e6, us, v1, v2, pb, px]
        · rw [decide_eq_false c2, Bool.and_false, if_neg (by decide)]
          simp (disch := omega) only [nm, bd_s, ko_K, ka_K, koK_t, kaK_t, kr_s, kn_s, kn_n, hK_sI, hR_sI, hK_sL, hR_sL, hI_sL, hL_sI, hL_sL, hI_sI, hN_sI, hN_sL, ch_G, ch_T, nb_0, nb_1, zb_G, d_T, d_F, d_eT, d_eF, b2i_t, b2i_f, tn_nI, fa_lit, fa_litL, m1_e, nI_add, pk_mul, pk_sub, nI_leI, nI_ltI, nI_eq, le_T, le_F, lt_T, lt_F, eq_T, eq_F, if_pos, if_neg, m1_le, m1_lt', m1_gt, m1_le', m1_eq, m1_qe, b2i_eq0, in_N, in_n, in_I, ↓reduceIte, Bool.true_eq_false, Bool.false_eq_true, reduceCtorEq, decide_eq_true_eq, decide_eq_false_iff_not, Nat.not_lt, Nat.not_le, not_true_eq_false, not_false_eq_true, true_and, and_true, and_self, false_and, and_false, true_or, or_true, false_or, or_false, f_X12_objectBy_2, b_X12_objectBy_2, f_X12_objectBy_60, f_X12_objectBy_54, f_X12_objectMany, f_X12_objectOf, T.k, T.r47, T.k47, e6, us, v1, v2, pb, px]
      · rw [decide_eq_false c1, Bool.false_and, if_neg (by decide)]
        simp (disch := omega) only [nm, bd_s, ko_K, ka_K, koK_t, kaK_t, kr_s, kn_s, kn_n, hK_sI, hR_sI, hK_sL, hR_sL, hI_sL, hL_sI, hL_sL, hI_sI, hN_sI, hN_sL, ch_G, ch_T, nb_0, nb_1, zb_G, d_T, d_F, d_eT, d_eF, b2i_t, b2i_f, tn_nI, fa_lit, fa_litL, m1_e, nI_add, pk_mul, pk_sub, nI_leI, nI_ltI, nI_eq, le_T, le_F, lt_T, lt_F, eq_T, eq_F, if_pos, if_neg, m1_le, m1_lt', m1_gt, m1_le', m1_eq, m1_qe, b2i_eq0, in_N, in_n, in_I, ↓reduceIte, Bool.true_eq_false, Bool.false_eq_true, reduceCtorEq, decide_eq_true_eq, decide_eq_false_iff_not, Nat.not_lt, Nat.not_le, not_true_eq_false, not_false_eq_true, true_and, and_true, and_self, false_and, and_false, true_or, or_true, false_or, or_false, f_X12_objectBy_2, b_X12_objectBy_2, f_X12_objectBy_60, f_X12_objectBy_54, f_X12_objectMany, f_X12_objectOf, T.k, T.r47, T.k47, e6, us, v1, v2, pb, px]
    · simp (disch := omega) only [nm, bd_s, ko_K, ka_K, koK_t, kaK_t, kr_s, kn_s, kn_n, hK_sI, hR_sI, hK_sL, hR_sL, hI_sL, hL_sI, hL_sL, hI_sI, hN_sI, hN_sL, ch_G, ch_T, nb_0, nb_1, zb_G, d_T, d_F, d_eT, d_eF, b2i_t, b2i_f, tn_nI, fa_lit, fa_litL, m1_e, nI_add, pk_mul, pk_sub, nI_leI, nI_ltI, nI_eq, le_T, le_F, lt_T, lt_F, eq_T, eq_F, if_pos, if_neg, m1_le, m1_lt', m1_gt, m1_le', m1_eq, m1_qe, b2i_eq0, in_N, in_n, in_I, ↓reduceIte, Bool.true_eq_false, Bool.false_eq_true, reduceCtorEq, decide_eq_true_eq, decide_eq_false_iff_not, Nat.not_lt, Nat.not_le, not_true_eq_false, not_false_eq_true, true_and, and_true, and_self, false_and, and_false, true_or, or_true, false_or, or_false, f_X12_objectBy_2, b_X12_objectBy_2, f_X12_objectBy_60, f_X12_objectMany, T.k, T.r47, T.k47, e6]
  · rw [if_neg u]
    rw [ts_nt u, b2i_f] at us
    show f_X12_objectBy_2 FU (x + 107) (nI k) (nI 0) h = some (-nI 1, h)
    obtain ⟨fn, hfn⟩ : ∃ n, FU = n + 1 := ⟨9999, rfl⟩
    rw [hfn]
    by_cases z : N 256 = 0
    · rw [z] at e6
      simp (disch := omega) only [nm, bd_s, ko_K, ka_K, koK_t, kaK_t, kr_s, kn_s, kn_n, hK_sI, hR_sI, hK_sL, hR_sL, hI_sL, hL_sI, hL_sL, hI_sI, hN_sI, hN_sL, ch_G, ch_T, nb_0, nb_1, zb_G, d_T, d_F, d_eT, d_eF, b2i_t, b2i_f, tn_nI, fa_lit, fa_litL, m1_e, nI_add, pk_mul, pk_sub, nI_leI, nI_ltI, nI_eq, le_T, le_F, lt_T, lt_F, eq_T, eq_F, if_pos, if_neg, m1_le, m1_lt', m1_gt, m1_le', m1_eq, m1_qe, b2i_eq0, in_N, in_n, in_I, ↓reduceIte, Bool.true_eq_false, Bool.false_eq_true, reduceCtorEq, decide_eq_true_eq, decide_eq_false_iff_not, Nat.not_lt, Nat.not_le, not_true_eq_false, not_false_eq_true, true_and, and_true, and_self, false_and, and_false, true_or, or_true, false_or, or_false, f_X12_objectBy_2, b_X12_objectBy_2, f_X12_objectBy_60, f_X12_objectMany, T.k, T.r47, T.k47, e6]
    · simp (disch := omega) only [nm, bd_s, ko_K, ka_K, koK_t, kaK_t, kr_s, kn_s, kn_n, hK_sI, hR_sI, hK_sL, hR_sL, hI_sL, hL_sI, hL_sL, hI_sI, hN_sI, hN_sL, ch_G, ch_T, nb_0, nb_1, zb_G, d_T, d_F, d_eT, d_eF, b2i_t, b2i_f, tn_nI, fa_lit, fa_litL, m1_e, nI_add, pk_mul, pk_sub, nI_leI, nI_ltI, nI_eq, le_T, le_F, lt_T, lt_F, eq_T, eq_F, if_pos, if_neg, m1_le, m1_lt', m1_gt, m1_le', m1_eq, m1_qe, b2i_eq0, in_N, in_n, in_I, ↓reduceIte, Bool.true_eq_false, Bool.false_eq_true, reduceCtorEq, decide_eq_true_eq, decide_eq_false_iff_not, Nat.not_lt, Nat.not_le, not_true_eq_false, not_false_eq_true, true_and, and_true, and_self, false_and, and_false, true_or, or_true, false_or, or_false, f_X12_objectBy_2, b_X12_objectBy_2, f_X12_objectBy_60, f_X12_objectMany, T.k, T.r47, T.k47, e6, us]
theorem S_free (C : CX h x (r, tl, tp, rf, ft, fp, sd) (M, mem, sh, ns, kd, cd) N (sl, nx, c, cr) (rn, rw_) (on_, ob)) (Q : CM h (x + 107) (r, tl, tp, rf, ft, fp, sd) (M, mem, sh, ns, kd, cd) N (sl, nx, c, cr) (rn, rw_) (on_, ob)) (O : Ok (r, tl, tp, rf, ft, fp, sd) (M, mem, sh, ns, kd, cd) N (sl, nx, c, cr) (rn, rw_) (on_, ob)) (p : Int32) : SM Int32 x h (f_X11_free x p) (f_X12_free (x + 107) p) := by
  have S := C.1
  have W := S.now
  have rfx := c_refuse (k := 2) S (by omega)
  by_cases hp : r = 1 ∧ ∃ k, k < 16 ∧ p = nI k
  · obtain ⟨hr, k, hk, rfl⟩ := hp
    have c1 := C.ip hr hk
    have okn := O.okn hr
    obtain ⟨h4, h8, -, mm, -⟩ := O.okb hr
    have n32 := okn.2.2.2.2.1
    have ow := c_objectOf C okn hr h4 h8 hk
    cases q : obN M N k with
    | none =>
      rw [q] at ow
      have ow : f_X11_objectOf x (nI k) h = some (-nI 1, h) := ow
      refine glueR (k := 2) (v := -nI 1) C Q O (by omega) ?_ (fun g1 Q1 => ?_)
      · simp (disch := omega) only [nm, bd_s, ko_K, ka_K, koK_t, kaK_t, kr_s, kn_s, kn_n, hK_sI, hR_sI, hK_sL, hR_sL, hI_sL, hL_sI, hL_sL, hI_sI, hN_sI, hN_sL, ch_G, ch_T, nb_0, nb_1, zb_G, d_T, d_F, d_eT, d_eF, b2i_t, b2i_f, tn_nI, fa_lit, fa_litL, m1_e, nI_add, pk_mul, pk_sub, nI_leI, nI_ltI, nI_eq, le_T, le_F, lt_T, lt_F, eq_T, eq_F, if_pos, if_neg, m1_le, m1_lt', m1_gt, m1_le', m1_eq, m1_qe, b2i_eq0, in_N, in_n, in_I, ↓reduceIte, Bool.true_eq_false, Bool.false_eq_true, reduceCtorEq, decide_eq_true_eq, decide_eq_false_iff_not, Nat.not_lt, Nat.not_le, not_true_eq_false, not_false_eq_true, true_and, and_true, and_self, false_and, and_false, true_or, or_true, false_or, or_false, f_X11_free_17, f_X11_free, S.k0, c1, ow, rfx]
      · have T1 := Q1.1
        have c2 := Q1.ip hr hk
        have om := m_objectBy Q1 okn hr h4 h8 hk
        rw [q] at om
        have om : f_X12_objectBy (x + 107) (nI k) g1 = some (-nI 1, g1) := om
        have rfm := m_refuses (k := 2) T1 (by omega)
        simp (disch := omega) only [nm, bd_s, ko_K, ka_K, koK_t, kaK_t, kr_s, kn_s, kn_n, hK_sI, hR_sI, hK_sL, hR_sL, hI_sL, hL_sI, hL_sL, hI_sI, hN_sI, hN_sL, ch_G, ch_T, nb_0, nb_1, zb_G, d_T, d_F, d_eT, d_eF, b2i_t, b2i_f, tn_nI, fa_lit, fa_litL, m1_e, nI_add, pk_mul, pk_sub, nI_leI, nI_ltI, nI_eq, le_T, le_F, lt_T, lt_F, eq_T, eq_F, if_pos, if_neg, m1_le, m1_lt', m1_gt, m1_le', m1_eq, m1_qe, b2i_eq0, in_N, in_n, in_I, ↓reduceIte, Bool.true_eq_false, Bool.false_eq_true, reduceCtorEq, decide_eq_true_eq, decide_eq_false_iff_not, Nat.not_lt, Nat.not_le, not_true_eq_false, not_false_eq_true, true_and, and_true, and_self, false_and, and_false, true_or, or_true, false_or, or_false, f_X12_free_18, f_X12_free, T1.k, c2, om, rfm]
    | some i =>
      rw [q] at ow
      have ow : f_X11_objectOf x (nI k) h = some (nI i, h) := ow
      have hi := obN_lt q
      refine glueA (N' := frN M N i) (v := nI (N (258 + 3 * i))) C Q O hr (okn.fr h8 mm hi) (fun h1 e1 C1 => ?_) (fun g g1 Q0 e1 Q1 => ?_)
      · have S1 := C1.1
        have W1 := S1.now
        obtain ⟨a, ha, h9, A, B⟩ := C1.run hr
        have b2 : hI h1 a 2 = nI M := B.2.1
        obtain ⟨h2, e2, C2, F2⟩ := c_remove C1 okn h4 h8 mm hi
        have v := (C.2.2.2.1.2.2.1 i hi (by omega)).2.1
        refine ⟨h2, ?_, C2, F2⟩
        simp (disch := omega) only [nm, bd_s, ko_K, ka_K, koK_t, kaK_t, kr_s, kn_s, kn_n, hK_sI, hR_sI, hK_sL, hR_sL, hI_sL, hL_sI, hL_sL, hI_sI, hN_sI, hN_sL, ch_G, ch_T, nb_0, nb_1, zb_G, d_T, d_F, d_eT, d_eF, b2i_t, b2i_f, tn_nI, fa_lit, fa_litL, m1_e, nI_add, pk_mul, pk_sub, nI_leI, nI_ltI, nI_eq, le_T, le_F, lt_T, lt_F, eq_T, eq_F, if_pos, if_neg, m1_le, m1_lt', m1_gt, m1_le', m1_eq, m1_qe, b2i_eq0, in_N, in_n, in_I, ↓reduceIte, Bool.true_eq_false, Bool.false_eq_true, reduceCtorEq, decide_eq_true_eq, decide_eq_false_iff_not, Nat.not_lt, Nat.not_le, not_true_eq_false, not_false_eq_true, true_and, and_true, and_self, false_and, and_false, true_or, or_true, false_or, or_false, f_X11_free_17, f_X11_free, S.k0, c1, ow, S.r0_2, S.r0_4, S.k81, W.k, W.r2, W.k3, v, e1, S1.k0, S1.r0_2, W1.k, h9, A.k, b2, e2]
      · have T0 := Q0.1
        have T1 := Q1.1
        have c2 := Q0.ip hr hk
        have om := m_objectBy Q0 okn hr h4 h8 hk
        rw [q] at om
        have om : f_X12_objectBy (x + 107) (nI k) g = some (nI i, g) := om
        obtain ⟨g2, e2, Q2, F2⟩ := m_frees Q1 okn h4 h8 mm hi
        have v : hI g (x + 107 + 34) (257 + 3 * i + 1) = nI (N (258 + 3 * i)) := by rw [show 258 + 3 * i = 257 + 3 * i + 1 by omega]; exact Q0.n (by omega) (by omega)
        refine ⟨g2, ?_, Q2, F2⟩
        simp (disch := omega) only [nm, bd_s, ko_K, ka_K, koK_t, kaK_t, kr_s, kn_s, kn_n, hK_sI, hR_sI, hK_sL, hR_sL, hI_sL, hL_sI, hL_sL, hI_sI, hN_sI, hN_sL, ch_G, ch_T, nb_0, nb_1, zb_G, d_T, d_F, d_eT, d_eF, b2i_t, b2i_f, tn_nI, fa_lit, fa_litL, m1_e, nI_add, pk_mul, pk_sub, nI_leI, nI_ltI, nI_eq, le_T, le_F, lt_T, lt_F, eq_T, eq_F, if_pos, if_neg, m1_le, m1_lt', m1_gt, m1_le', m1_eq, m1_qe, b2i_eq0, in_N, in_n, in_I, ↓reduceIte, Bool.true_eq_false, Bool.false_eq_true, reduceCtorEq, decide_eq_true_eq, decide_eq_false_iff_not, Nat.not_lt, Nat.not_le, not_true_eq_false, not_false_eq_true, true_and, and_true, and_self, false_and, and_false, true_or, or_true, false_or, or_false, f_X12_free_18, f_X12_free, f_X12_objectOf, T0.k, T0.r47, T0.k47, c2, om, v, e1, T1.k, e2]
  · have c1 := C.np O hp
    refine glueR (k := 2) (v := -nI 1) C Q O (by omega) ?_ (fun g1 Q1 => ?_)
    · simp (disch := omega) only [nm, bd_s, ko_K, ka_K, koK_t, kaK_t, kr_s, kn_s, kn_n, hK_sI, hR_sI, hK_sL, hR_sL, hI_sL, hL_sI, hL_sL, hI_sI, hN_sI, hN_sL, ch_G, ch_T, nb_0, nb_1, zb_G, d_T, d_F, d_eT, d_eF, b2i_t, b2i_f, tn_nI, fa_lit, fa_litL, m1_e, nI_add, pk_mul, pk_sub, nI_leI, nI_ltI, nI_eq, le_T, le_F, lt_T, lt_F, eq_T, eq_F, if_pos, if_neg, m1_le, m1_lt', m1_gt, m1_le', m1_eq, m1_qe, b2i_eq0, in_N, in_n, in_I, ↓reduceIte, Bool.true_eq_false, Bool.false_eq_true, reduceCtorEq, decide_eq_true_eq, decide_eq_false_iff_not, Nat.not_lt, Nat.not_le, not_true_eq_false, not_false_eq_true, true_and, and_true, and_self, false_and, and_false, true_or, or_true, false_or, or_false, f_X11_free_17, f_X11_free, S.k0, c1, rfx]
    · have T1 := Q1.1
      have c2 := Q1.np O hp
      have rfm := m_refuses (k := 2) T1 (by omega)
      simp (disch := omega) only [nm, bd_s, ko_K, ka_K, koK_t, kaK_t, kr_s, kn_s, kn_n, hK_sI, hR_sI, hK_sL, hR_sL, hI_sL, hL_sI, hL_sL, hI_sI, hN_sI, hN_sL, ch_G, ch_T, nb_0, nb_1, zb_G, d_T, d_F, d_eT, d_eF, b2i_t, b2i_f, tn_nI, fa_lit, fa_litL, m1_e, nI_add, pk_mul, pk_sub, nI_leI, nI_ltI, nI_eq, le_T, le_F, lt_T, lt_F, eq_T, eq_F, if_pos, if_neg, m1_le, m1_lt', m1_gt, m1_le', m1_eq, m1_qe, b2i_eq0, in_N, in_n, in_I, ↓reduceIte, Bool.true_eq_false, Bool.false_eq_true, reduceCtorEq, decide_eq_true_eq, decide_eq_false_iff_not, Nat.not_lt, Nat.not_le, not_true_eq_false, not_false_eq_true, true_and, and_true, and_self, false_and, and_false, true_or, or_true, false_or, or_false, f_X12_free_18, f_X12_free, T1.k, c2, rfm]
end Fr1
