/-! windows and places -/
def stp (i : Nat) : Int32 := nI i - nI 64
theorem stp_lt {i : Nat} (hi : i < 128) : (nI 64 ≤ stp i) = False := by
  have : ∀ i, i < 128 → ¬ (nI 64 ≤ stp i) := by decide +kernel
  exact eq_false (this i hi)
theorem stp_e : (nI 64 ≤ stp 128) = True := by decide +kernel
theorem stp_1 {i : Nat} (hi : i < 128) : stp i + nI 1 = stp (i + 1) := by
  have : ∀ i, i < 128 → stp i + nI 1 = stp (i + 1) := by decide +kernel
  exact this i hi
theorem stp_0 : -nI 64 = stp 0 := by decide +kernel
theorem st_w (i : Nat) : stp i = nI (i + (2 ^ 32 - 64)) := nI_wrap (by decide)
theorem b2i_and (b : Bool) : b2i b &&& nI 1 = b2i b := by cases b <;> decide
theorem n64 : (nI 64 ≤ stp 0) = False := stp_lt (by omega)
/-- an address and a step -/
theorem ad_st (a t : Nat) : (nI a + stp t) &&& nI 4095 = nI ((a + 4032 + t) % 4096) := by
  rw [st_w, nI_add, an_4095, show (a + (t + (2 ^ 32 - 64))) % 4096 = (a + 4032 + t) % 4096 by omega]
theorem wz_nI {M e : Nat} (h4 : 4 ≤ M) (h8 : M ≤ 8) (he : e ≤ 13 - M) {h : aH} {p : Nat} (hp : hK h p = some (.inl 6)) (e3 : hI h p 3 = nI e) : f_X6_windowSize p (nI M) h = some (nI (wzN M e), h) := by
  have h1 := p2_le (show e + M ≤ 13 by omega)
  simp only [f_X6_windowSize, ko_t hp, e3, nI_add, one_shl (show e + M ≤ 13 by omega), j_min, bd_s]
  unfold wzN
  by_cases c : 2 ^ (e + M) < 4096
  · rw [if_pos (show nI (2 ^ (e + M)) < (4096 : Int32) from nI_lt (b := 4096) c (by omega)), Nat.min_eq_right (by omega)]
  · rw [if_neg (show ¬ nI (2 ^ (e + M)) < (4096 : Int32) from nI_nlt (b := 4096) (by omega) (by omega)), Nat.min_eq_left (by omega)]; rfl
theorem ws_nI {M e b a0 : Nat} (h4 : 4 ≤ M) (h8 : M ≤ 8) (he : e ≤ 13 - M) (hb : b < 2 ^ M) (ha : a0 < 4096) {h : aH} {p : Nat} (hp : hK h p = some (.inl 6)) (e2 : hI h p 2 = nI a0) (e3 : hI h p 3 = nI e) (e4 : hI h p 4 = nI b) : f_X6_windowStart p (nI M) h = some (nI (wsN M e b a0), h) := by
  have h1 := p2_le (show e + M - 2 ≤ 11 by omega)
  simp only [f_X6_windowStart, ko_t hp, p_base hp, bd_s, e2, e3, e4, bas_nI h4 h8 he hb (show a0 < 2 ^ 31 by omega), nI_add]
  rw [show nI (e + M) - 2 = nI (e + M - 2) from pk_sub (b := 2) (by omega), one_shl (by omega), nI_wrap (by omega), show (4095 : Int32) = nI 4095 from rfl, an_4095]
  unfold wsN
  congr 3
  omega
/-- one row that is seen -/
def rwP (M e b a0 : Nat) (rw_ : Nat → Nat) (a i : Nat) : Bool := decide (basN M e b ((a + 4032 + rw_ (2 * i)) % 4096) = basN M e b a0) == decide (rw_ (2 * i + 1) = 1)
def plP (M e b a0 rn : Nat) (rw_ : Nat → Nat) (a : Nat) : Bool := decide (basN M e b a = basN M e b a0) && (fnd (fun i => !rwP M e b a0 rw_ a i) rn 0).isNone
theorem in_d {M e b a0 a : Nat} (h4 : 4 ≤ M) (h8 : M ≤ 8) (he : e ≤ 13 - M) (hb : b < 2 ^ M) (ha : a < 4096) (ha0 : a0 < 4096) : decide (offN (wsN M e b a0) a < wzN M e) = decide (basN M e b a = basN M e b a0) := by
  have := bas_win h4 h8 he hb ha ha0
  by_cases c : basN M e b a = basN M e b a0
  · simp [c, this.mp c]
  · have c2 : ¬ offN (wsN M e b a0) a < wzN M e := fun q => c (this.mpr q)
    simp [c, c2]
section Pl
variable {h : aH} {y : Nat}
/-- the class's Sight at y, aimed -/
def AI (h : aH) (y M e b a0 rn : Nat) (rw_ : Nat → Nat) : Prop := hK h y = some (.inl 8) ∧ hR h y 3 = some (y + 1) ∧ hR h y 4 = some (y + 2) ∧ hK h (y + 1) = some (.inr (.int, 16)) ∧ hK h (y + 2) = some (.inr (.boolean, 16)) ∧ hI h y 5 = nI (wsN M e b a0) ∧ hI h y 6 = nI (wzN M e) ∧ hI h y 0 = nI rn ∧ rn ≤ 16 ∧ (∀ i, i < rn → hI h (y + 1) i = stp (rw_ (2 * i)) ∧ hI h (y + 2) i = b2i (decide (rw_ (2 * i + 1) = 1)))
variable {M e b a0 rn : Nat} {rw_ : Nat → Nat}
theorem s_inside (A : AI h y M e b a0 rn rw_) (t : Nat) : f_X8_isInside y (nI t) h = some (b2i (decide (offN (wsN M e b a0) (t % 4096) < wzN M e)), h) := by
  obtain ⟨k0, r3, r4, k1, k2, e5, e6, -⟩ := A
  have w1 := wsN_lt M e b a0
  have w2 := wzN_le M e
  have e1 : (nI t - nI (wsN M e b a0)) &&& nI 4095 = nI (offN (wsN M e b a0) (t % 4096)) := by
    rw [nI_wrap (by omega), an_4095]; unfold offN; congr 1; omega
  have o1 : offN (wsN M e b a0) (t % 4096) < 4096 := Nat.mod_lt _ (by omega)
  by_cases c : offN (wsN M e b a0) (t % 4096) < wzN M e
  · rw [b2i_d c]
    by_cases c2 : wsN M e b a0 ≤ t
    · rw [pk_sub c2] at e1
      simp (disch := omega) only [nm, bd_s, ko_K, ka_K, koK_t, kaK_t, kr_s, kn_s, kn_n, hK_sI, hR_sI, hK_sL, hR_sL, hI_sL, hL_sI, hL_sL, hI_sI, hN_sI, hN_sL, ch_G, ch_T, nb_0, nb_1, zb_G, d_T, d_F, d_eT, d_eF, b2i_t, b2i_f, tn_nI, fa_lit, fa_litL, m1_e, nI_add, pk_mul, pk_sub, nI_leI, nI_ltI, nI_eq, le_T, le_F, lt_T, lt_F, eq_T, eq_F, if_pos, if_neg, m1_le, m1_lt', m1_gt, m1_le', m1_eq, m1_qe, b2i_eq0, in_N, in_n, in_I, ↓reduceIte, Bool.true_eq_false, Bool.false_eq_true, reduceCtorEq, decide_eq_true_eq, decide_eq_false_iff_not, Nat.not_lt, Nat.not_le, not_true_eq_false, not_false_eq_true, true_and, and_true, and_self, false_and, and_false, true_or, or_true, false_or, or_false, f_X8_isInside_22, f_X8_isInside, k0, e5, e6, e1]
    · simp (disch := omega) only [nm, bd_s, ko_K, ka_K, koK_t, kaK_t, kr_s, kn_s, kn_n, hK_sI, hR_sI, hK_sL, hR_sL, hI_sL, hL_sI, hL_sL, hI_sI, hN_sI, hN_sL, ch_G, ch_T, nb_0, nb_1, zb_G, d_T, d_F, d_eT, d_eF, b2i_t, b2i_f, tn_nI, fa_lit, fa_litL, m1_e, nI_add, pk_mul, pk_sub, nI_leI, nI_ltI, nI_eq, le_T, le_F, lt_T, lt_F, eq_T, eq_F, if_pos, if_neg, m1_le, m1_lt', m1_gt, m1_le', m1_eq, m1_qe, b2i_eq0, in_N, in_n, in_I, ↓reduceIte, Bool.true_eq_false, Bool.false_eq_true, reduceCtorEq, decide_eq_true_eq, decide_eq_false_iff_not, Nat.not_lt, Nat.not_le, not_true_eq_false, not_false_eq_true, true_and, and_true, and_self, false_and, and_false, true_or, or_true, false_or, or_false, f_X8_isInside_22, f_X8_isInside, k0, e5, e6, e1]
  · rw [b2i_n c]
    by_cases c2 : wsN M e b a0 ≤ t
    · rw [pk_sub c2] at e1
      simp (disch := omega) only [nm, bd_s, ko_K, ka_K, koK_t, kaK_t, kr_s, kn_s, kn_n, hK_sI, hR_sI, hK_sL, hR_sL, hI_sL, hL_sI, hL_sL, hI_sI, hN_sI, hN_sL, ch_G, ch_T, nb_0, nb_1, zb_G, d_T, d_F, d_eT, d_eF, b2i_t, b2i_f, tn_nI, fa_lit, fa_litL, m1_e, nI_add, pk_mul, pk_sub, nI_leI, nI_ltI, nI_eq, le_T, le_F, lt_T, lt_F, eq_T, eq_F, if_pos, if_neg, m1_le, m1_lt', m1_gt, m1_le', m1_eq, m1_qe, b2i_eq0, in_N, in_n, in_I, ↓reduceIte, Bool.true_eq_false, Bool.false_eq_true, reduceCtorEq, decide_eq_true_eq, decide_eq_false_iff_not, Nat.not_lt, Nat.not_le, not_true_eq_false, not_false_eq_true, true_and, and_true, and_self, false_and, and_false, true_or, or_true, false_or, or_false, f_X8_isInside_22, f_X8_isInside, k0, e5, e6, e1]
    · simp (disch := omega) only [nm, bd_s, ko_K, ka_K, koK_t, kaK_t, kr_s, kn_s, kn_n, hK_sI, hR_sI, hK_sL, hR_sL, hI_sL, hL_sI, hL_sL, hI_sI, hN_sI, hN_sL, ch_G, ch_T, nb_0, nb_1, zb_G, d_T, d_F, d_eT, d_eF, b2i_t, b2i_f, tn_nI, fa_lit, fa_litL, m1_e, nI_add, pk_mul, pk_sub, nI_leI, nI_ltI, nI_eq, le_T, le_F, lt_T, lt_F, eq_T, eq_F, if_pos, if_neg, m1_le, m1_lt', m1_gt, m1_le', m1_eq, m1_qe, b2i_eq0, in_N, in_n, in_I, ↓reduceIte, Bool.true_eq_false, Bool.false_eq_true, reduceCtorEq, decide_eq_true_eq, decide_eq_false_iff_not, Nat.not_lt, Nat.not_le, not_true_eq_false, not_false_eq_true, true_and, and_true, and_self, false_and, and_false, true_or, or_true, false_or, or_false, f_X8_isInside_22, f_X8_isInside, k0, e5, e6, e1]
theorem s_isPlace (A : AI h y M e b a0 rn rw_) (h4 : 4 ≤ M) (h8 : M ≤ 8) (he : e ≤ 13 - M) (hb : b < 2 ^ M) (ha0 : a0 < 4096) {a : Nat} (ha : a < 4096) : f_X8_isPlace y (nI a) h = some (b2i (plP M e b a0 rn rw_ a), h) := by
  have I := s_inside A
  obtain ⟨k0, r3, r4, k1, k2, e5, e6, e0, r16, hr⟩ := A
  have i0 := I a
  rw [Nat.mod_eq_of_lt ha, in_d h4 h8 he hb ha ha0] at i0
  unfold plP
  by_cases c : basN M e b a = basN M e b a0
  · rw [b2i_d c] at i0
    have L1 := loop_fnd (fun n i => f_X8_isPlace_12 n y (nI a) (nI i) h) rn (fun i => !rwP M e b a0 rw_ a i) (fun _ => (nI 0, h)) (nI 1, h) (fun n i hi => ?_) (fun n => ?_) rn 0 FU (by omega) (FU_gt (by omega))
    · have e1 : f_X8_isPlace y (nI a) h = f_X8_isPlace_12 FU y (nI a) (nI 0) h := by
        simp (disch := omega) only [nm, bd_s, ko_K, ka_K, koK_t, kaK_t, kr_s, kn_s, kn_n, hK_sI, hR_sI, hK_sL, hR_sL, hI_sL, hL_sI, hL_sL, hI_sI, hN_sI, hN_sL, ch_G, ch_T, nb_0, nb_1, zb_G, d_T, d_F, d_eT, d_eF, b2i_t, b2i_f, tn_nI, fa_lit, fa_litL, m1_e, nI_add, pk_mul, pk_sub, nI_leI, nI_ltI, nI_eq, le_T, le_F, lt_T, lt_F, eq_T, eq_F, if_pos, if_neg, m1_le, m1_lt', m1_gt, m1_le', m1_eq, m1_qe, b2i_eq0, in_N, in_n, in_I, ↓reduceIte, Bool.true_eq_false, Bool.false_eq_true, reduceCtorEq, decide_eq_true_eq, decide_eq_false_iff_not, Nat.not_lt, Nat.not_le, not_true_eq_false, not_false_eq_true, true_and, and_true, and_self, false_and, and_false, true_or, or_true, false_or, or_false, f_X8_isPlace, k0, i0]
      rw [e1]
      refine Eq.trans L1 ?_
      cases fnd (fun i => !rwP M e b a0 rw_ a i) rn 0
      · simp [c, b2i]; rfl
      · simp [c, b2i]; rfl
    · obtain ⟨s1, s2⟩ := hr i hi
      have i1 := I (a + (rw_ (2 * i) + (2 ^ 32 - 64)))
      rw [show (a + (rw_ (2 * i) + (2 ^ 32 - 64))) % 4096 = (a + 4032 + rw_ (2 * i)) % 4096 by omega, in_d h4 h8 he hb (Nat.mod_lt _ (by omega)) ha0] at i1
      have e2 : nI a + stp (rw_ (2 * i)) = nI (a + (rw_ (2 * i) + (2 ^ 32 - 64))) := by rw [st_w, nI_add]
      unfold rwP
      generalize decide (basN M e b ((a + 4032 + rw_ (2 * i)) % 4096) = basN M e b a0) = z1 at i1
      generalize decide (rw_ (2 * i + 1) = 1) = z2 at s2
      cases z1 <;> cases z2
      · rw [show (!(false == false)) = false from rfl]
        simp (disch := omega) only [nm, bd_s, ko_K, ka_K, koK_t, kaK_t, kr_s, kn_s, kn_n, hK_sI, hR_sI, hK_sL, hR_sL, hI_sL, hL_sI, hL_sL, hI_sI, hN_sI, hN_sL, ch_G, ch_T, nb_0, nb_1, zb_G, d_T, d_F, d_eT, d_eF, b2i_t, b2i_f, tn_nI, fa_lit, fa_litL, m1_e, nI_add, pk_mul, pk_sub, nI_leI, nI_ltI, nI_eq, le_T, le_F, lt_T, lt_F, eq_T, eq_F, if_pos, if_neg, m1_le, m1_lt', m1_gt, m1_le', m1_eq, m1_qe, b2i_eq0, in_N, in_n, in_I, ↓reduceIte, Bool.true_eq_false, Bool.false_eq_true, reduceCtorEq, decide_eq_true_eq, decide_eq_false_iff_not, Nat.not_lt, Nat.not_le, not_true_eq_false, not_false_eq_true, true_and, and_true, and_self, false_and, and_false, true_or, or_true, false_or, or_false, f_X8_isPlace_12, b_X8_isPlace_12, k0, e0, r3, k1, r4, k2, s1, e2, i1, s2]
      · rw [show (!(false == true)) = true from rfl]
        simp (disch := omega) only [nm, bd_s, ko_K, ka_K, koK_t, kaK_t, kr_s, kn_s, kn_n, hK_sI, hR_sI, hK_sL, hR_sL, hI_sL, hL_sI, hL_sL, hI_sI, hN_sI, hN_sL, ch_G, ch_T, nb_0, nb_1, zb_G, d_T, d_F, d_eT, d_eF, b2i_t, b2i_f, tn_nI, fa_lit, fa_litL, m1_e, nI_add, pk_mul, pk_sub, nI_leI, nI_ltI, nI_eq, le_T, le_F, lt_T, lt_F, eq_T, eq_F, if_pos, if_neg, m1_le, m1_lt', m1_gt, m1_le', m1_eq, m1_qe, b2i_eq0, in_N, in_n, in_I, ↓reduceIte, Bool.true_eq_false, Bool.false_eq_true, reduceCtorEq, decide_eq_true_eq, decide_eq_false_iff_not, Nat.not_lt, Nat.not_le, not_true_eq_false, not_false_eq_true, true_and, and_true, and_self, false_and, and_false, true_or, or_true, false_or, or_false, f_X8_isPlace_12, b_X8_isPlace_12, k0, e0, r3, k1, r4, k2, s1, e2, i1, s2]
      · rw [show (!(true == false)) = true from rfl]
        simp (disch := omega) only [nm, bd_s, ko_K, ka_K, koK_t, kaK_t, kr_s, kn_s, kn_n, hK_sI, hR_sI, hK_sL, hR_sL, hI_sL, hL_sI, hL_sL, hI_sI, hN_sI, hN_sL, ch_G, ch_T, nb_0, nb_1, zb_G, d_T, d_F, d_eT, d_eF, b2i_t, b2i_f, tn_nI, fa_lit, fa_litL, m1_e, nI_add, pk_mul, pk_sub, nI_leI, nI_ltI, nI_eq, le_T, le_F, lt_T, lt_F, eq_T, eq_F, if_pos, if_neg, m1_le, m1_lt', m1_gt, m1_le', m1_eq, m1_qe, b2i_eq0, in_N, in_n, in_I, ↓reduceIte, Bool.true_eq_false, Bool.false_eq_true, reduceCtorEq, decide_eq_true_eq, decide_eq_false_iff_not, Nat.not_lt, Nat.not_le, not_true_eq_false, not_false_eq_true, true_and, and_true, and_self, false_and, and_false, true_or, or_true, false_or, or_false, f_X8_isPlace_12, b_X8_isPlace_12, k0, e0, r3, k1, r4, k2, s1, e2, i1, s2]
      · rw [show (!(true == true)) = false from rfl]
        simp (disch := omega) only [nm, bd_s, ko_K, ka_K, koK_t, kaK_t, kr_s, kn_s, kn_n, hK_sI, hR_sI, hK_sL, hR_sL, hI_sL, hL_sI, hL_sL, hI_sI, hN_sI, hN_sL, ch_G, ch_T, nb_0, nb_1, zb_G, d_T, d_F, d_eT, d_eF, b2i_t, b2i_f, tn_nI, fa_lit, fa_litL, m1_e, nI_add, pk_mul, pk_sub, nI_leI, nI_ltI, nI_eq, le_T, le_F, lt_T, lt_F, eq_T, eq_F, if_pos, if_neg, m1_le, m1_lt', m1_gt, m1_le', m1_eq, m1_qe, b2i_eq0, in_N, in_n, in_I, ↓reduceIte, Bool.true_eq_false, Bool.false_eq_true, reduceCtorEq, decide_eq_true_eq, decide_eq_false_iff_not, Nat.not_lt, Nat.not_le, not_true_eq_false, not_false_eq_true, true_and, and_true, and_self, false_and, and_false, true_or, or_true, false_or, or_false, f_X8_isPlace_12, b_X8_isPlace_12, k0, e0, r3, k1, r4, k2, s1, e2, i1, s2]
    · simp (disch := omega) only [nm, bd_s, ko_K, ka_K, koK_t, kaK_t, kr_s, kn_s, kn_n, hK_sI, hR_sI, hK_sL, hR_sL, hI_sL, hL_sI, hL_sL, hI_sI, hN_sI, hN_sL, ch_G, ch_T, nb_0, nb_1, zb_G, d_T, d_F, d_eT, d_eF, b2i_t, b2i_f, tn_nI, fa_lit, fa_litL, m1_e, nI_add, pk_mul, pk_sub, nI_leI, nI_ltI, nI_eq, le_T, le_F, lt_T, lt_F, eq_T, eq_F, if_pos, if_neg, m1_le, m1_lt', m1_gt, m1_le', m1_eq, m1_qe, b2i_eq0, in_N, in_n, in_I, ↓reduceIte, Bool.true_eq_false, Bool.false_eq_true, reduceCtorEq, decide_eq_true_eq, decide_eq_false_iff_not, Nat.not_lt, Nat.not_le, not_true_eq_false, not_false_eq_true, true_and, and_true, and_self, false_and, and_false, true_or, or_true, false_or, or_false, f_X8_isPlace_12, b_X8_isPlace_12, k0, e0]
  · rw [b2i_n c] at i0
    rw [show (decide (basN M e b a = basN M e b a0) && (fnd (fun i => !rwP M e b a0 rw_ a i) rn 0).isNone) = false by simp [c], b2i_f]
    simp (disch := omega) only [nm, bd_s, ko_K, ka_K, koK_t, kaK_t, kr_s, kn_s, kn_n, hK_sI, hR_sI, hK_sL, hR_sL, hI_sL, hL_sI, hL_sL, hI_sI, hN_sI, hN_sL, ch_G, ch_T, nb_0, nb_1, zb_G, d_T, d_F, d_eT, d_eF, b2i_t, b2i_f, tn_nI, fa_lit, fa_litL, m1_e, nI_add, pk_mul, pk_sub, nI_leI, nI_ltI, nI_eq, le_T, le_F, lt_T, lt_F, eq_T, eq_F, if_pos, if_neg, m1_le, m1_lt', m1_gt, m1_le', m1_eq, m1_qe, b2i_eq0, in_N, in_n, in_I, ↓reduceIte, Bool.true_eq_false, Bool.false_eq_true, reduceCtorEq, decide_eq_true_eq, decide_eq_false_iff_not, Nat.not_lt, Nat.not_le, not_true_eq_false, not_false_eq_true, true_and, and_true, and_self, false_and, and_false, true_or, or_true, false_or, or_false, f_X8_isPlace, k0, i0]
variable (A : AI h y M e b a0 rn rw_) (h4 : 4 ≤ M) (h8 : M ≤ 8) (he : e ≤ 13 - M) (hb : b < 2 ^ M) (ha0 : a0 < 4096)
theorem s_countPlaces (A : AI h y M e b a0 rn rw_) (h4 : 4 ≤ M) (h8 : M ≤ 8) (he : e ≤ 13 - M) (hb : b < 2 ^ M) (ha0 : a0 < 4096) : f_X8_countPlaces y h = some (nI (ctN (plP M e b a0 rn rw_) 4096), h) := by
  have k0 := A.1
  have L1 := (loop_itr (fun n i (acc : Int32) => f_X8_countPlaces_4 n y acc (nI i) h) 4096 (fun j (acc : Int32) => if plP M e b a0 rn rw_ j then acc + 1 else acc) (fun r => (r, h)) (fun _ _ => True) (fun n i acc hi _ => ⟨?_, trivial⟩) (fun n acc _ => ?_) 4096 0 0 FU (by omega) trivial (FU_gt (by omega))).1
  · have := itr_cnt (plP M e b a0 rn rw_) 4096 0 0
    simp only [Nat.zero_add] at this
    rw [← this]
    exact L1
  · have p := s_isPlace A h4 h8 he hb ha0 hi
    generalize plP M e b a0 rn rw_ i = z at p
    cases z
    · simp (disch := omega) only [nm, bd_s, ko_K, ka_K, koK_t, kaK_t, kr_s, kn_s, kn_n, hK_sI, hR_sI, hK_sL, hR_sL, hI_sL, hL_sI, hL_sL, hI_sI, hN_sI, hN_sL, ch_G, ch_T, nb_0, nb_1, zb_G, d_T, d_F, d_eT, d_eF, b2i_t, b2i_f, tn_nI, fa_lit, fa_litL, m1_e, nI_add, pk_mul, pk_sub, nI_leI, nI_ltI, nI_eq, le_T, le_F, lt_T, lt_F, eq_T, eq_F, if_pos, if_neg, m1_le, m1_lt', m1_gt, m1_le', m1_eq, m1_qe, b2i_eq0, in_N, in_n, in_I, ↓reduceIte, Bool.true_eq_false, Bool.false_eq_true, reduceCtorEq, decide_eq_true_eq, decide_eq_false_iff_not, Nat.not_lt, Nat.not_le, not_true_eq_false, not_false_eq_true, true_and, and_true, and_self, false_and, and_false, true_or, or_true, false_or, or_false, f_X8_countPlaces_4, b_X8_countPlaces_4, f_X8_countPlaces_22, k0, p]
    · simp (disch := omega) only [nm, bd_s, ko_K, ka_K, koK_t, kaK_t, kr_s, kn_s, kn_n, hK_sI, hR_sI, hK_sL, hR_sL, hI_sL, hL_sI, hL_sL, hI_sI, hN_sI, hN_sL, ch_G, ch_T, nb_0, nb_1, zb_G, d_T, d_F, d_eT, d_eF, b2i_t, b2i_f, tn_nI, fa_lit, fa_litL, m1_e, nI_add, pk_mul, pk_sub, nI_leI, nI_ltI, nI_eq, le_T, le_F, lt_T, lt_F, eq_T, eq_F, if_pos, if_neg, m1_le, m1_lt', m1_gt, m1_le', m1_eq, m1_qe, b2i_eq0, in_N, in_n, in_I, ↓reduceIte, Bool.true_eq_false, Bool.false_eq_true, reduceCtorEq, decide_eq_true_eq, decide_eq_false_iff_not, Nat.not_lt, Nat.not_le, not_true_eq_false, not_false_eq_true, true_and, and_true, and_self, false_and, and_false, true_or, or_true, false_or, or_false, f_X8_countPlaces_4, b_X8_countPlaces_4, f_X8_countPlaces_22, k0, p]
  · simp (disch := omega) only [nm, bd_s, ko_K, ka_K, koK_t, kaK_t, kr_s, kn_s, kn_n, hK_sI, hR_sI, hK_sL, hR_sL, hI_sL, hL_sI, hL_sL, hI_sI, hN_sI, hN_sL, ch_G, ch_T, nb_0, nb_1, zb_G, d_T, d_F, d_eT, d_eF, b2i_t, b2i_f, tn_nI, fa_lit, fa_litL, m1_e, nI_add, pk_mul, pk_sub, nI_leI, nI_ltI, nI_eq, le_T, le_F, lt_T, lt_F, eq_T, eq_F, if_pos, if_neg, m1_le, m1_lt', m1_gt, m1_le', m1_eq, m1_qe, b2i_eq0, in_N, in_n, in_I, ↓reduceIte, Bool.true_eq_false, Bool.false_eq_true, reduceCtorEq, decide_eq_true_eq, decide_eq_false_iff_not, Nat.not_lt, Nat.not_le, not_true_eq_false, not_false_eq_true, true_and, and_true, and_self, false_and, and_false, true_or, or_true, false_or, or_false, f_X8_countPlaces_4, b_X8_countPlaces_4]
def opI (o : Option Nat) : Int32 := match o with | none => -nI 1 | some a => nI a
def nbP (pl : Nat → Bool) (k a : Nat) : Bool := pl a && decide (ctN pl a = k)
theorem s_placeNumber (A : AI h y M e b a0 rn rw_) (h4 : 4 ≤ M) (h8 : M ≤ 8) (he : e ≤ 13 - M) (hb : b < 2 ^ M) (ha0 : a0 < 4096) {k : Nat} (hk : k < 2 ^ 31) : f_X8_placeNumber y (nI k) h = some (opI (fnd (nbP (plP M e b a0 rn rw_) k) 4096 0), h) := by
  have k0 := A.1
  have L1 := loop_fnd (fun n i => f_X8_placeNumber_4 n y (nI k) (nI (ctN (plP M e b a0 rn rw_) i)) (nI i) h) 4096 (nbP (plP M e b a0 rn rw_) k) (fun a => (nI a, h)) (-nI 1, h) (fun n i hi => ?_) (fun n => ?_) 4096 0 FU (by omega) (FU_gt (by omega))
  · refine Eq.trans L1 ?_
    cases fnd (nbP (plP M e b a0 rn rw_) k) 4096 0 <;> rfl
  · have p := s_isPlace A h4 h8 he hb ha0 hi
    have cs := ctN_succ (plP M e b a0 rn rw_) i
    have cl := ctN_le (plP M e b a0 rn rw_) i
    unfold nbP
    generalize ctN (plP M e b a0 rn rw_) (i + 1) = c1 at *
    generalize ctN (plP M e b a0 rn rw_) i = c0 at *
    generalize plP M e b a0 rn rw_ i = z at *
    cases z
    · have : c1 = c0 := by simpa using cs
      simp (disch := omega) only [nm, bd_s, ko_K, ka_K, koK_t, kaK_t, kr_s, kn_s, kn_n, hK_sI, hR_sI, hK_sL, hR_sL, hI_sL, hL_sI, hL_sL, hI_sI, hN_sI, hN_sL, ch_G, ch_T, nb_0, nb_1, zb_G, d_T, d_F, d_eT, d_eF, b2i_t, b2i_f, tn_nI, fa_lit, fa_litL, m1_e, nI_add, pk_mul, pk_sub, nI_leI, nI_ltI, nI_eq, le_T, le_F, lt_T, lt_F, eq_T, eq_F, if_pos, if_neg, m1_le, m1_lt', m1_gt, m1_le', m1_eq, m1_qe, b2i_eq0, in_N, in_n, in_I, ↓reduceIte, Bool.true_eq_false, Bool.false_eq_true, reduceCtorEq, decide_eq_true_eq, decide_eq_false_iff_not, Nat.not_lt, Nat.not_le, not_true_eq_false, not_false_eq_true, true_and, and_true, and_self, false_and, and_false, true_or, or_true, false_or, or_false, f_X8_placeNumber_4, b_X8_placeNumber_4, f_X8_placeNumber_33, k0, p, Bool.false_and, this]
    · have : c1 = c0 + 1 := by simpa using cs
      by_cases q : c0 = k
      · simp (disch := omega) only [nm, bd_s, ko_K, ka_K, koK_t, kaK_t, kr_s, kn_s, kn_n, hK_sI, hR_sI, hK_sL, hR_sL, hI_sL, hL_sI, hL_sL, hI_sI, hN_sI, hN_sL, ch_G, ch_T, nb_0, nb_1, zb_G, d_T, d_F, d_eT, d_eF, b2i_t, b2i_f, tn_nI, fa_lit, fa_litL, m1_e, nI_add, pk_mul, pk_sub, nI_leI, nI_ltI, nI_eq, le_T, le_F, lt_T, lt_F, eq_T, eq_F, if_pos, if_neg, m1_le, m1_lt', m1_gt, m1_le', m1_eq, m1_qe, b2i_eq0, in_N, in_n, in_I, ↓reduceIte, Bool.true_eq_false, Bool.false_eq_true, reduceCtorEq, decide_eq_true_eq, decide_eq_false_iff_not, Nat.not_lt, Nat.not_le, not_true_eq_false, not_false_eq_true, true_and, and_true, and_self, false_and, and_false, true_or, or_true, false_or, or_false, f_X8_placeNumber_4, b_X8_placeNumber_4, f_X8_placeNumber_33, k0, p, Bool.true_and, this, q]
      · simp (disch := omega) only [nm, bd_s, ko_K, ka_K, koK_t, kaK_t, kr_s, kn_s, kn_n, hK_sI, hR_sI, hK_sL, hR_sL, hI_sL, hL_sI, hL_sL, hI_sI, hN_sI, hN_sL, ch_G, ch_T, nb_0, nb_1, zb_G, d_T, d_F, d_eT, d_eF, b2i_t, b2i_f, tn_nI, fa_lit, fa_litL, m1_e, nI_add, pk_mul, pk_sub, nI_leI, nI_ltI, nI_eq, le_T, le_F, lt_T, lt_F, eq_T, eq_F, if_pos, if_neg, m1_le, m1_lt', m1_gt, m1_le', m1_eq, m1_qe, b2i_eq0, in_N, in_n, in_I, ↓reduceIte, Bool.true_eq_false, Bool.false_eq_true, reduceCtorEq, decide_eq_true_eq, decide_eq_false_iff_not, Nat.not_lt, Nat.not_le, not_true_eq_false, not_false_eq_true, true_and, and_true, and_self, false_and, and_false, true_or, or_true, false_or, or_false, f_X8_placeNumber_4, b_X8_placeNumber_4, f_X8_placeNumber_33, k0, p, Bool.true_and, this, q]
  · simp (disch := omega) only [nm, bd_s, ko_K, ka_K, koK_t, kaK_t, kr_s, kn_s, kn_n, hK_sI, hR_sI, hK_sL, hR_sL, hI_sL, hL_sI, hL_sL, hI_sI, hN_sI, hN_sL, ch_G, ch_T, nb_0, nb_1, zb_G, d_T, d_F, d_eT, d_eF, b2i_t, b2i_f, tn_nI, fa_lit, fa_litL, m1_e, nI_add, pk_mul, pk_sub, nI_leI, nI_ltI, nI_eq, le_T, le_F, lt_T, lt_F, eq_T, eq_F, if_pos, if_neg, m1_le, m1_lt', m1_gt, m1_le', m1_eq, m1_qe, b2i_eq0, in_N, in_n, in_I, ↓reduceIte, Bool.true_eq_false, Bool.false_eq_true, reduceCtorEq, decide_eq_true_eq, decide_eq_false_iff_not, Nat.not_lt, Nat.not_le, not_true_eq_false, not_false_eq_true, true_and, and_true, and_self, false_and, and_false, true_or, or_true, false_or, or_false, f_X8_placeNumber_4, b_X8_placeNumber_4, f_X8_placeNumber_39]
end Pl
