/-! steps: fits, quick, window; bounds: rounds, exact; reachers, octetAt, share -/
section Sp
variable {h : aH} {x r tl : Nat} {tp : Nat → Nat} {rf : Nat → Int32} {ft fp : Int32} {sd : Nat} {M mem sh : Nat} {ns : Nat → List Nat} {kd : Nat → Nat} {cd : Nat → List Nat} {N : tyN} {sl : Nat → tyN} {nx c cr : Nat} {rn : Nat} {rw_ : Nat → Nat} {on_ : Nat} {ob : Nat → Nat}
theorem CM.q (Q : CM h (x + 107) (r, tl, tp, rf, ft, fp, sd) (M, mem, sh, ns, kd, cd) N (sl, nx, c, cr) (rn, rw_) (on_, ob)) {k : Nat} (hk : k < 32) (fl : N (8 * k) ≤ 1) : hI h (x + 107 + 34) (8 * k) = nI (N (8 * k)) ∧ hI h (x + 107 + 34) (8 * k + 1) = nI (N (8 * k + 1)) ∧ hI h (x + 107 + 34) (8 * k + 2) = nI (N (8 * k + 2)) ∧ hI h (x + 107 + 34) (8 * k + 3) = nI (N (8 * k + 3)) ∧ hI h (x + 107 + 34) (8 * k + 4) = nI (N (8 * k + 4)) ∧ hI h (x + 107 + 34) (8 * k + 5) = nI (N (8 * k + 5)) ∧ hI h (x + 107 + 34) (8 * k + 6) = nI (N (8 * k + 6)) :=
  ⟨Q.n (by omega) (by omega), Q.n (by omega) (by omega), Q.n (by omega) (by omega), Q.n (by omega) (by omega), Q.n (by omega) (by omega), Q.n (by omega) (by omega), Q.n (by omega) (by omega)⟩
theorem Ok.okn (O : Ok (r, tl, tp, rf, ft, fp, sd) (M, mem, sh, ns, kd, cd) N (sl, nx, c, cr) (rn, rw_) (on_, ob)) (hr : r = 1) : okN M mem sh N := (O.cs.resolve_left (fun q => by omega)).2.2.1
theorem Ok.okb (O : Ok (r, tl, tp, rf, ft, fp, sd) (M, mem, sh, ns, kd, cd) N (sl, nx, c, cr) (rn, rw_) (on_, ob)) (hr : r = 1) : okB M mem sh ns kd cd := (O.cs.resolve_left (fun q => by omega)).2.1
theorem c_isStep_t {w : Int32} (hs : -4095 ≤ w ∧ w ≤ 4095) : f_X11_isStep w h = some (nI 1, h) := by
  simp only [f_X11_isStep_19, f_X11_isStep_18, f_X11_isStep, if_neg (Int32.not_lt.mpr hs.1), if_neg (Int32.not_lt.mpr hs.2), z1_ok]
  rfl
theorem c_isStep_f {w : Int32} (hs : ¬ (-4095 ≤ w ∧ w ≤ 4095)) : f_X11_isStep w h = some (nI 0, h) := by
  simp only [f_X11_isStep_19, f_X11_isStep_18, f_X11_isStep, z0_ok, z1_ok]
  by_cases c1 : w < -4095
  · rw [if_pos c1]; rfl
  · rw [if_neg c1]
    by_cases c2 : 4095 < w
    · rw [if_pos c2]; rfl
    · exact absurd ⟨Int32.not_lt.mp c1, Int32.not_lt.mp c2⟩ hs
theorem m_isStep {w : Int32} : f_X12_isIn w.toInt64 (-lN 4095) (lN 4095) h = some (b2i (decide (-4095 ≤ w) && decide (w ≤ 4095)), h) := by
  rw [show (-lN 4095 : Int64) = (-4095 : Int32).toInt64 by decide, show lN 4095 = (4095 : Int32).toInt64 by decide]
  exact m_isIn w (-4095) 4095
theorem m_isStep_t {w : Int32} (hs : -4095 ≤ w ∧ w ≤ 4095) : f_X12_isIn w.toInt64 (-lN 4095) (lN 4095) h = some (nI 1, h) := by
  rw [m_isStep]; simp [hs, b2i]; rfl
theorem m_isStep_f {w : Int32} (hs : ¬ (-4095 ≤ w ∧ w ≤ 4095)) : f_X12_isIn w.toInt64 (-lN 4095) (lN 4095) h = some (nI 0, h) := by
  rw [m_isStep]
  by_cases c1 : -4095 ≤ w
  · have c2 : ¬ w ≤ 4095 := fun q => hs ⟨c1, q⟩
    simp [c2, b2i]; rfl
  · simp [c1, b2i]; rfl
/-- the quick test -/
def qkD (M e b a : Int32) : Int32 := ((b - (1 <<< ((M - 2) &&& 31))) - (a >>> (e &&& 31))) &&& mskI M
def qkI (M e b a s : Int32) : Bool := if s >>> ((e + M) &&& 31) = 0 then !decide (qkD M e b a - 1 ≤ (s >>> (e &&& 31)) &&& mskI M) else decide (s >>> ((e + M) &&& 31) = -1) && !decide (((s >>> (e &&& 31)) &&& mskI M) < qkD M e b a) && !decide (qkD M e b a = 0)
theorem p_isQuick {p : Nat} (hp : hK h p = some (.inl 6)) (s m : Int32) : f_X6_isQuick p s m h = some (b2i (qkI m (hI h p 3) (hI h p 4) (hI h p 2) s), h) := by
  have em : (1 <<< (m &&& 31) : Int32) - 1 = mskI m := rfl
  have ed : ((hI h p 4 - (1 <<< ((m - 2) &&& 31))) - (hI h p 2 >>> (hI h p 3 &&& 31))) &&& mskI m = qkD m (hI h p 3) (hI h p 4) (hI h p 2) := rfl
  simp only [f_X6_isQuick_73, f_X6_isQuick_97, f_X6_isQuick_96, f_X6_isQuick, nm, ko_t hp, em, ed, z0_ok, z1_ok, qkI]
  by_cases c1 : s >>> ((hI h p 3 + m) &&& 31) = 0
  · rw [if_pos c1, if_pos c1]
    by_cases c2 : qkD m (hI h p 3) (hI h p 4) (hI h p 2) - 1 ≤ (s >>> (hI h p 3 &&& 31)) &&& mskI m
    · rw [if_pos c2]; simp [c2, b2i]
    · rw [if_neg c2]; simp [c2, b2i]
  · rw [if_neg c1, if_neg c1]
    by_cases c2 : s >>> ((hI h p 3 + m) &&& 31) = -1
    · rw [if_pos c2]
      by_cases c3 : ((s >>> (hI h p 3 &&& 31)) &&& mskI m) < qkD m (hI h p 3) (hI h p 4) (hI h p 2)
      · rw [if_pos c3]; simp [c3, b2i]
      · rw [if_neg c3]
        by_cases c4 : qkD m (hI h p 3) (hI h p 4) (hI h p 2) = 0
        · rw [if_pos c4]; simp [c4, b2i]
        · rw [if_neg c4]; simp [c2, c3, c4, b2i]
    · rw [if_neg c2]; simp [c2, b2i]
theorem msk_sub {M : Nat} (h8 : M ≤ 13) (u s : Int32) : ((u &&& mskI (nI M)) - s) &&& mskI (nI M) = (u - s) &&& mskI (nI M) := by
  obtain ⟨a, ha, rfl⟩ := wb_of32 u
  obtain ⟨b, hb, rfl⟩ := wb_of32 s
  rw [and_msk h8, nI_wrap (Nat.le_of_lt hb), nI_wrap (Nat.le_of_lt hb), and_msk h8, and_msk h8, Nat.mod_add_mod]
theorem m_isQuick {m k M : Nat} (S : MS h m) (hk : k + 8 ≤ 1498) (hM : hI h (m + 28) 4 = nI M) (h8 : M ≤ 13) (s : Int32) : f_X12_isQuick m (nI k) s h = some (b2i (qkI (nI M) (hI h (m + 34) (k + 2)) (hI h (m + 34) (k + 3)) (hI h (m + 34) (k + 1)) s), h) := by
  have ed : (edgI (nI M) (hI h (m + 34) (k + 3)) - (hI h (m + 34) (k + 1) >>> (hI h (m + 34) (k + 2) &&& 31))) &&& mskI (nI M) = qkD (nI M) (hI h (m + 34) (k + 2)) (hI h (m + 34) (k + 3)) (hI h (m + 34) (k + 1)) := by
    unfold edgI qkD; exact msk_sub h8 _ _
  simp only [f_X12_isQuick_87, f_X12_isQuick_82, f_X12_isQuick_86, f_X12_isQuick_64, f_X12_isQuick, nm, ko_t S.k, kr_t S.r47, ka_t S.k47, (nI_c k).2.1, (nI_c k).1, chk_t (inb_nI (show k + 2 < 1498 by omega) (by omega)), chk_t (inb_nI (show k + 1 < 1498 by omega) (by omega)), tn_nI (show k + 2 < 2 ^ 31 by omega), tn_nI (show k + 1 < 2 ^ 31 by omega), m_mantissa S, m_modulo S, m_edgeOf S hk, hM, bd_s, ed, z0_ok, z1_ok, qkI]
  generalize qkD (nI M) (hI h (m + 34) (k + 2)) (hI h (m + 34) (k + 3)) (hI h (m + 34) (k + 1)) = d
  generalize (s >>> (hI h (m + 34) (k + 2) &&& 31)) &&& mskI (nI M) = u
  generalize s >>> ((hI h (m + 34) (k + 2) + nI M) &&& 31) = w
  by_cases c1 : w = 0
  · rw [if_pos c1, if_pos c1]
    by_cases c2 : u < d - 1
    · rw [if_pos c2]; simp [Int32.not_le.mpr c2, b2i]
    · have c3 : ¬ w = -1 := by rw [c1]; decide
      rw [if_neg c2, if_neg c3]; simp [Int32.not_lt.mp c2, b2i]
  · rw [if_neg c1, if_neg c1]
    by_cases c2 : w = -1
    · rw [if_pos c2]
      by_cases c3 : u < d
      · rw [if_pos c3]; simp [c3, b2i]
      · rw [if_neg c3]
        by_cases c4 : d = 0
        · rw [if_pos c4]; simp [c4, b2i]
        · rw [if_neg c4]; simp [c2, c3, c4, b2i]
    · rw [if_neg c2]; simp [c2, b2i]
/-- whether a step fits, as both sides reckon it -/
def fitI (M e b a s : Int32) : Bool := decide (basI M e b ((a + s) &&& 4095) = basI M e b a)
theorem S_fits (C : CX h x (r, tl, tp, rf, ft, fp, sd) (M, mem, sh, ns, kd, cd) N (sl, nx, c, cr) (rn, rw_) (on_, ob)) (Q : CM h (x + 107) (r, tl, tp, rf, ft, fp, sd) (M, mem, sh, ns, kd, cd) N (sl, nx, c, cr) (rn, rw_) (on_, ob)) (O : Ok (r, tl, tp, rf, ft, fp, sd) (M, mem, sh, ns, kd, cd) N (sl, nx, c, cr) (rn, rw_) (on_, ob)) (p w : Int32) : SM Int32 x h (f_X11_fits x p w) (f_X12_fits (x + 107) p w) := by
  have S := C.1
  have W := S.now
  have T := Q.1
  have R := C.2.2.2.1
  by_cases hp : r = 1 ∧ ∃ k, k < 16 ∧ p = nI k
  · obtain ⟨hr, k, hk, rfl⟩ := hp
    obtain ⟨a, ha, h9, A, B⟩ := C.run hr
    have fl := (O.okn hr).fl hk
    obtain ⟨p0, p1, p2, p3, p4, p5, p6, p7⟩ := R.cl (show k < 32 by omega) fl
    obtain ⟨q0, q1, q2, q3, q4, q5, q6⟩ := Q.q (show k < 32 by omega) fl
    have c1 := C.ip hr hk
    have c2 := Q.ip hr hk
    have m1 : hI h (x + 107 + 28) 4 = nI M := Q.2.2.1.2.1
    have b2 : hI h a 2 = nI M := B.2.1
    by_cases hs : -4095 ≤ w ∧ w ≤ 4095
    · have t1 := p_keeps (W.kp (k := k) (by omega)) w (nI M)
      have t2 := m_doesFit T (k := 8 * k) (by omega) w
      rw [p2, p3, p4] at t1
      rw [m1, q1, q2, q3] at t2
      by_cases hf : basI (nI M) (nI (N (8 * k + 2))) (nI (N (8 * k + 3))) ((nI (N (8 * k + 1)) + w) &&& 4095) = basI (nI M) (nI (N (8 * k + 2))) (nI (N (8 * k + 3))) (nI (N (8 * k + 1)))
      · rw [b2i_d hf] at t1 t2
        refine glue0 C Q O (v := nI 1) ?_ ?_
        · simp (disch := omega) only [nm, bd_s, ko_K, ka_K, koK_t, kaK_t, kr_s, kn_s, kn_n, hK_sI, hR_sI, hK_sL, hR_sL, hI_sL, hL_sI, hL_sL, hI_sI, hN_sI, hN_sL, ch_G, ch_T, nb_0, nb_1, zb_G, d_T, d_F, d_eT, d_eF, b2i_t, b2i_f, tn_nI, fa_lit, fa_litL, m1_e, nI_add, pk_mul, pk_sub, nI_leI, nI_ltI, nI_eq, le_T, le_F, lt_T, lt_F, eq_T, eq_F, if_pos, if_neg, m1_le, m1_lt', m1_gt, m1_le', m1_eq, m1_qe, b2i_eq0, in_N, in_n, in_I, ↓reduceIte, Bool.true_eq_false, Bool.false_eq_true, reduceCtorEq, decide_eq_true_eq, decide_eq_false_iff_not, Nat.not_lt, Nat.not_le, not_true_eq_false, not_false_eq_true, true_and, and_true, and_self, f_X11_fits_15, f_X11_fits_45, f_X11_fits, S.k0, S.r0_2, W.k, W.r0, W.k1, W.rp, W.kp, c1, h9, A.k, b2, t1, c_isStep_t hs]
        · simp (disch := omega) only [nm, bd_s, ko_K, ka_K, koK_t, kaK_t, kr_s, kn_s, kn_n, hK_sI, hR_sI, hK_sL, hR_sL, hI_sL, hL_sI, hL_sL, hI_sI, hN_sI, hN_sL, ch_G, ch_T, nb_0, nb_1, zb_G, d_T, d_F, d_eT, d_eF, b2i_t, b2i_f, tn_nI, fa_lit, fa_litL, m1_e, nI_add, pk_mul, pk_sub, nI_leI, nI_ltI, nI_eq, le_T, le_F, lt_T, lt_F, eq_T, eq_F, if_pos, if_neg, m1_le, m1_lt', m1_gt, m1_le', m1_eq, m1_qe, b2i_eq0, in_N, in_n, in_I, ↓reduceIte, Bool.true_eq_false, Bool.false_eq_true, reduceCtorEq, decide_eq_true_eq, decide_eq_false_iff_not, Nat.not_lt, Nat.not_le, not_true_eq_false, not_false_eq_true, true_and, and_true, and_self, f_X12_fits_44, f_X12_fits_23, f_X12_fits, T.k, c2, t2, m_isStep_t hs]
      · rw [b2i_n hf] at t1 t2
        refine glue0 C Q O (v := nI 0) ?_ ?_
        · simp (disch := omega) only [nm, bd_s, ko_K, ka_K, koK_t, kaK_t, kr_s, kn_s, kn_n, hK_sI, hR_sI, hK_sL, hR_sL, hI_sL, hL_sI, hL_sL, hI_sI, hN_sI, hN_sL, ch_G, ch_T, nb_0, nb_1, zb_G, d_T, d_F, d_eT, d_eF, b2i_t, b2i_f, tn_nI, fa_lit, fa_litL, m1_e, nI_add, pk_mul, pk_sub, nI_leI, nI_ltI, nI_eq, le_T, le_F, lt_T, lt_F, eq_T, eq_F, if_pos, if_neg, m1_le, m1_lt', m1_gt, m1_le', m1_eq, m1_qe, b2i_eq0, in_N, in_n, in_I, ↓reduceIte, Bool.true_eq_false, Bool.false_eq_true, reduceCtorEq, decide_eq_true_eq, decide_eq_false_iff_not, Nat.not_lt, Nat.not_le, not_true_eq_false, not_false_eq_true, true_and, and_true, and_self, f_X11_fits_15, f_X11_fits_45, f_X11_fits, S.k0, S.r0_2, W.k, W.r0, W.k1, W.rp, W.kp, c1, h9, A.k, b2, t1, c_isStep_t hs]
        · simp (disch := omega) only [nm, bd_s, ko_K, ka_K, koK_t, kaK_t, kr_s, kn_s, kn_n, hK_sI, hR_sI, hK_sL, hR_sL, hI_sL, hL_sI, hL_sL, hI_sI, hN_sI, hN_sL, ch_G, ch_T, nb_0, nb_1, zb_G, d_T, d_F, d_eT, d_eF, b2i_t, b2i_f, tn_nI, fa_lit, fa_litL, m1_e, nI_add, pk_mul, pk_sub, nI_leI, nI_ltI, nI_eq, le_T, le_F, lt_T, lt_F, eq_T, eq_F, if_pos, if_neg, m1_le, m1_lt', m1_gt, m1_le', m1_eq, m1_qe, b2i_eq0, in_N, in_n, in_I, ↓reduceIte, Bool.true_eq_false, Bool.false_eq_true, reduceCtorEq, decide_eq_true_eq, decide_eq_false_iff_not, Nat.not_lt, Nat.not_le, not_true_eq_false, not_false_eq_true, true_and, and_true, and_self, f_X12_fits_44, f_X12_fits_23, f_X12_fits, T.k, c2, t2, m_isStep_t hs]
    · refine glue0 C Q O (v := -nI 1) ?_ ?_
      · simp (disch := omega) only [nm, bd_s, ko_K, ka_K, koK_t, kaK_t, kr_s, kn_s, kn_n, hK_sI, hR_sI, hK_sL, hR_sL, hI_sL, hL_sI, hL_sL, hI_sI, hN_sI, hN_sL, ch_G, ch_T, nb_0, nb_1, zb_G, d_T, d_F, d_eT, d_eF, b2i_t, b2i_f, tn_nI, fa_lit, fa_litL, m1_e, nI_add, pk_mul, pk_sub, nI_leI, nI_ltI, nI_eq, le_T, le_F, lt_T, lt_F, eq_T, eq_F, if_pos, if_neg, m1_le, m1_lt', m1_gt, m1_le', m1_eq, m1_qe, b2i_eq0, in_N, in_n, in_I, ↓reduceIte, Bool.true_eq_false, Bool.false_eq_true, reduceCtorEq, decide_eq_true_eq, decide_eq_false_iff_not, Nat.not_lt, Nat.not_le, not_true_eq_false, not_false_eq_true, true_and, and_true, and_self, f_X11_fits_15, f_X11_fits_45, f_X11_fits, S.k0, c1, c_isStep_f hs]
      · simp (disch := omega) only [nm, bd_s, ko_K, ka_K, koK_t, kaK_t, kr_s, kn_s, kn_n, hK_sI, hR_sI, hK_sL, hR_sL, hI_sL, hL_sI, hL_sL, hI_sI, hN_sI, hN_sL, ch_G, ch_T, nb_0, nb_1, zb_G, d_T, d_F, d_eT, d_eF, b2i_t, b2i_f, tn_nI, fa_lit, fa_litL, m1_e, nI_add, pk_mul, pk_sub, nI_leI, nI_ltI, nI_eq, le_T, le_F, lt_T, lt_F, eq_T, eq_F, if_pos, if_neg, m1_le, m1_lt', m1_gt, m1_le', m1_eq, m1_qe, b2i_eq0, in_N, in_n, in_I, ↓reduceIte, Bool.true_eq_false, Bool.false_eq_true, reduceCtorEq, decide_eq_true_eq, decide_eq_false_iff_not, Nat.not_lt, Nat.not_le, not_true_eq_false, not_false_eq_true, true_and, and_true, and_self, f_X12_fits_44, f_X12_fits_23, f_X12_fits, T.k, c2, m_isStep_f hs]
  · have c1 := C.np O hp
    have c2 := Q.np O hp
    refine glue0 C Q O (v := -nI 1) ?_ ?_
    · simp (disch := omega) only [nm, bd_s, ko_K, ka_K, koK_t, kaK_t, kr_s, kn_s, kn_n, hK_sI, hR_sI, hK_sL, hR_sL, hI_sL, hL_sI, hL_sL, hI_sI, hN_sI, hN_sL, ch_G, ch_T, nb_0, nb_1, zb_G, d_T, d_F, d_eT, d_eF, b2i_t, b2i_f, tn_nI, fa_lit, fa_litL, m1_e, nI_add, pk_mul, pk_sub, nI_leI, nI_ltI, nI_eq, le_T, le_F, lt_T, lt_F, eq_T, eq_F, if_pos, if_neg, m1_le, m1_lt', m1_gt, m1_le', m1_eq, m1_qe, b2i_eq0, in_N, in_n, in_I, ↓reduceIte, Bool.true_eq_false, Bool.false_eq_true, reduceCtorEq, decide_eq_true_eq, decide_eq_false_iff_not, Nat.not_lt, Nat.not_le, not_true_eq_false, not_false_eq_true, true_and, and_true, and_self, f_X11_fits_15, f_X11_fits_45, f_X11_fits, S.k0, c1]
    · simp (disch := omega) only [nm, bd_s, ko_K, ka_K, koK_t, kaK_t, kr_s, kn_s, kn_n, hK_sI, hR_sI, hK_sL, hR_sL, hI_sL, hL_sI, hL_sL, hI_sI, hN_sI, hN_sL, ch_G, ch_T, nb_0, nb_1, zb_G, d_T, d_F, d_eT, d_eF, b2i_t, b2i_f, tn_nI, fa_lit, fa_litL, m1_e, nI_add, pk_mul, pk_sub, nI_leI, nI_ltI, nI_eq, le_T, le_F, lt_T, lt_F, eq_T, eq_F, if_pos, if_neg, m1_le, m1_lt', m1_gt, m1_le', m1_eq, m1_qe, b2i_eq0, in_N, in_n, in_I, ↓reduceIte, Bool.true_eq_false, Bool.false_eq_true, reduceCtorEq, decide_eq_true_eq, decide_eq_false_iff_not, Nat.not_lt, Nat.not_le, not_true_eq_false, not_false_eq_true, true_and, and_true, and_self, f_X12_fits_44, f_X12_fits_23, f_X12_fits, T.k, c2]
theorem S_quick (C : CX h x (r, tl, tp, rf, ft, fp, sd) (M, mem, sh, ns, kd, cd) N (sl, nx, c, cr) (rn, rw_) (on_, ob)) (Q : CM h (x + 107) (r, tl, tp, rf, ft, fp, sd) (M, mem, sh, ns, kd, cd) N (sl, nx, c, cr) (rn, rw_) (on_, ob)) (O : Ok (r, tl, tp, rf, ft, fp, sd) (M, mem, sh, ns, kd, cd) N (sl, nx, c, cr) (rn, rw_) (on_, ob)) (p w : Int32) : SM Int32 x h (f_X11_quick x p w) (f_X12_quick (x + 107) p w) := by
  have S := C.1
  have W := S.now
  have T := Q.1
  have R := C.2.2.2.1
  by_cases hp : r = 1 ∧ ∃ k, k < 16 ∧ p = nI k
  · obtain ⟨hr, k, hk, rfl⟩ := hp
    obtain ⟨a, ha, h9, A, B⟩ := C.run hr
    have fl := (O.okn hr).fl hk
    obtain ⟨p0, p1, p2, p3, p4, p5, p6, p7⟩ := R.cl (show k < 32 by omega) fl
    obtain ⟨q0, q1, q2, q3, q4, q5, q6⟩ := Q.q (show k < 32 by omega) fl
    have c1 := C.ip hr hk
    have c2 := Q.ip hr hk
    have m1 : hI h (x + 107 + 28) 4 = nI M := Q.2.2.1.2.1
    have b2 : hI h a 2 = nI M := B.2.1
    have h8 : M ≤ 8 := (O.okb hr).2.1
    by_cases hs : -4095 ≤ w ∧ w ≤ 4095
    · have t1 := p_isQuick (W.kp (k := k) (by omega)) w (nI M)
      have t2 := m_isQuick T (k := 8 * k) (by omega) m1 (by omega) w
      rw [p2, p3, p4] at t1
      rw [q1, q2, q3] at t2
      by_cases hf : qkI (nI M) (nI (N (8 * k + 2))) (nI (N (8 * k + 3))) (nI (N (8 * k + 1))) w = true
      · rw [hf, b2i_t] at t1 t2
        refine glue0 C Q O (v := nI 1) ?_ ?_
        · simp (disch := omega) only [nm, bd_s, ko_K, ka_K, koK_t, kaK_t, kr_s, kn_s, kn_n, hK_sI, hR_sI, hK_sL, hR_sL, hI_sL, hL_sI, hL_sL, hI_sI, hN_sI, hN_sL, ch_G, ch_T, nb_0, nb_1, zb_G, d_T, d_F, d_eT, d_eF, b2i_t, b2i_f, tn_nI, fa_lit, fa_litL, m1_e, nI_add, pk_mul, pk_sub, nI_leI, nI_ltI, nI_eq, le_T, le_F, lt_T, lt_F, eq_T, eq_F, if_pos, if_neg, m1_le, m1_lt', m1_gt, m1_le', m1_eq, m1_qe, b2i_eq0, in_N, in_n, in_I, ↓reduceIte, Bool.true_eq_false, Bool.false_eq_true, reduceCtorEq, decide_eq_true_eq, decide_eq_false_iff_not, Nat.not_lt, Nat.not_le, not_true_eq_false, not_false_eq_true, true_and, and_true, and_self, f_X11_quick_15, f_X11_quick_45, f_X11_quick, S.k0, S.r0_2, W.k, W.r0, W.k1, W.rp, W.kp, c1, h9, A.k, b2, t1, c_isStep_t hs]
        · simp (disch := omega) only [nm, bd_s, ko_K, ka_K, koK_t, kaK_t, kr_s, kn_s, kn_n, hK_sI, hR_sI, hK_sL, hR_sL, hI_sL, hL_sI, hL_sL, hI_sI, hN_sI, hN_sL, ch_G, ch_T, nb_0, nb_1, zb_G, d_T, d_F, d_eT, d_eF, b2i_t, b2i_f, tn_nI, fa_lit, fa_litL, m1_e, nI_add, pk_mul, pk_sub, nI_leI, nI_ltI, nI_eq, le_T, le_F, lt_T, lt_F, eq_T, eq_F, if_pos, if_neg, m1_le, m1_lt', m1_gt, m1_le', m1_eq, m1_qe, b2i_eq0, in_N, in_n, in_I, ↓reduceIte, Bool.true_eq_false, Bool.false_eq_true, reduceCtorEq, decide_eq_true_eq, decide_eq_false_iff_not, Nat.not_lt, Nat.not_le, not_true_eq_false, not_false_eq_true, true_and, and_true, and_self, f_X12_quick_44, f_X12_quick_23, f_X12_quick, T.k, c2, t2, m_isStep_t hs]
      · rw [ts_nt hf, b2i_f] at t1 t2
        refine glue0 C Q O (v := nI 0) ?_ ?_
        · simp (disch := omega) only [nm, bd_s, ko_K, ka_K, koK_t, kaK_t, kr_s, kn_s, kn_n, hK_sI, hR_sI, hK_sL, hR_sL, hI_sL, hL_sI, hL_sL, hI_sI, hN_sI, hN_sL, ch_G, ch_T, nb_0, nb_1, zb_G, d_T, d_F, d_eT, d_eF, b2i_t, b2i_f, tn_nI, fa_lit, fa_litL, m1_e, nI_add, pk_mul, pk_sub, nI_leI, nI_ltI, nI_eq, le_T, le_F, lt_T, lt_F, eq_T, eq_F, if_pos, if_neg, m1_le, m1_lt', m1_gt, m1_le', m1_eq, m1_qe, b2i_eq0, in_N, in_n, in_I, ↓reduceIte, Bool.true_eq_false, Bool.false_eq_true, reduceCtorEq, decide_eq_true_eq, decide_eq_false_iff_not, Nat.not_lt, Nat.not_le, not_true_eq_false, not_false_eq_true, true_and, and_true, and_self, f_X11_quick_15, f_X11_quick_45, f_X11_quick, S.k0, S.r0_2, W.k, W.r0, W.k1, W.rp, W.kp, c1, h9, A.k, b2, t1, c_isStep_t hs]
        · simp (disch := omega) only [nm, bd_s, ko_K, ka_K, koK_t, kaK_t, kr_s, kn_s, kn_n, hK_sI, hR_sI, hK_sL, hR_sL, hI_sL, hL_sI, hL_sL, hI_sI, hN_sI, hN_sL, ch_G, ch_T, nb_0, nb_1, zb_G, d_T, d_F, d_eT, d_eF, b2i_t, b2i_f, tn_nI, fa_lit, fa_litL, m1_e, nI_add, pk_mul, pk_sub, nI_leI, nI_ltI, nI_eq, le_T, le_F, lt_T, lt_F, eq_T, eq_F, if_pos, if_neg, m1_le, m1_lt', m1_gt, m1_le', m1_eq, m1_qe, b2i_eq0, in_N, in_n, in_I, ↓reduceIte, Bool.true_eq_false, Bool.false_eq_true, reduceCtorEq, decide_eq_true_eq, decide_eq_false_iff_not, Nat.not_lt, Nat.not_le, not_true_eq_false, not_false_eq_true, true_and, and_true, and_self, f_X12_quick_44, f_X12_quick_23, f_X12_quick, T.k, c2, t2, m_isStep_t hs]
    · refine glue0 C Q O (v := -nI 1) ?_ ?_
      · simp (disch := omega) only [nm, bd_s, ko_K, ka_K, koK_t, kaK_t, kr_s, kn_s, kn_n, hK_sI, hR_sI, hK_sL, hR_sL, hI_sL, hL_sI, hL_sL, hI_sI, hN_sI, hN_sL, ch_G, ch_T, nb_0, nb_1, zb_G, d_T, d_F, d_eT, d_eF, b2i_t, b2i_f, tn_nI, fa_lit, fa_litL, m1_e, nI_add, pk_mul, pk_sub, nI_leI, nI_ltI, nI_eq, le_T, le_F, lt_T, lt_F, eq_T, eq_F, if_pos, if_neg, m1_le, m1_lt', m1_gt, m1_le', m1_eq, m1_qe, b2i_eq0, in_N, in_n, in_I, ↓reduceIte, Bool.true_eq_false, Bool.false_eq_true, reduceCtorEq, decide_eq_true_eq, decide_eq_false_iff_not, Nat.not_lt, Nat.not_le, not_true_eq_false, not_false_eq_true, true_and, and_true, and_self, f_X11_quick_15, f_X11_quick_45, f_X11_quick, S.k0, c1, c_isStep_f hs]
      · simp (disch := omega) only [nm, bd_s, ko_K, ka_K, koK_t, kaK_t, kr_s, kn_s, kn_n, hK_sI, hR_sI, hK_sL, hR_sL, hI_sL, hL_sI, hL_sL, hI_sI, hN_sI, hN_sL, ch_G, ch_T, nb_0, nb_1, zb_G, d_T, d_F, d_eT, d_eF, b2i_t, b2i_f, tn_nI, fa_lit, fa_litL, m1_e, nI_add, pk_mul, pk_sub, nI_leI, nI_ltI, nI_eq, le_T, le_F, lt_T, lt_F, eq_T, eq_F, if_pos, if_neg, m1_le, m1_lt', m1_gt, m1_le', m1_eq, m1_qe, b2i_eq0, in_N, in_n, in_I, ↓reduceIte, Bool.true_eq_false, Bool.false_eq_true, reduceCtorEq, decide_eq_true_eq, decide_eq_false_iff_not, Nat.not_lt, Nat.not_le, not_true_eq_false, not_false_eq_true, true_and, and_true, and_self, f_X12_quick_44, f_X12_quick_23, f_X12_quick, T.k, c2, m_isStep_f hs]
  · have c1 := C.np O hp
    have c2 := Q.np O hp
    refine glue0 C Q O (v := -nI 1) ?_ ?_
    · simp (disch := omega) only [nm, bd_s, ko_K, ka_K, koK_t, kaK_t, kr_s, kn_s, kn_n, hK_sI, hR_sI, hK_sL, hR_sL, hI_sL, hL_sI, hL_sL, hI_sI, hN_sI, hN_sL, ch_G, ch_T, nb_0, nb_1, zb_G, d_T, d_F, d_eT, d_eF, b2i_t, b2i_f, tn_nI, fa_lit, fa_litL, m1_e, nI_add, pk_mul, pk_sub, nI_leI, nI_ltI, nI_eq, le_T, le_F, lt_T, lt_F, eq_T, eq_F, if_pos, if_neg, m1_le, m1_lt', m1_gt, m1_le', m1_eq, m1_qe, b2i_eq0, in_N, in_n, in_I, ↓reduceIte, Bool.true_eq_false, Bool.false_eq_true, reduceCtorEq, decide_eq_true_eq, decide_eq_false_iff_not, Nat.not_lt, Nat.not_le, not_true_eq_false, not_false_eq_true, true_and, and_true, and_self, f_X11_quick_15, f_X11_quick_45, f_X11_quick, S.k0, c1]
    · simp (disch := omega) only [nm, bd_s, ko_K, ka_K, koK_t, kaK_t, kr_s, kn_s, kn_n, hK_sI, hR_sI, hK_sL, hR_sL, hI_sL, hL_sI, hL_sL, hI_sI, hN_sI, hN_sL, ch_G, ch_T, nb_0, nb_1, zb_G, d_T, d_F, d_eT, d_eF, b2i_t, b2i_f, tn_nI, fa_lit, fa_litL, m1_e, nI_add, pk_mul, pk_sub, nI_leI, nI_ltI, nI_eq, le_T, le_F, lt_T, lt_F, eq_T, eq_F, if_pos, if_neg, m1_le, m1_lt', m1_gt, m1_le', m1_eq, m1_qe, b2i_eq0, in_N, in_n, in_I, ↓reduceIte, Bool.true_eq_false, Bool.false_eq_true, reduceCtorEq, decide_eq_true_eq, decide_eq_false_iff_not, Nat.not_lt, Nat.not_le, not_true_eq_false, not_false_eq_true, true_and, and_true, and_self, f_X12_quick_44, f_X12_quick_23, f_X12_quick, T.k, c2]
theorem S_octetAt (C : CX h x (r, tl, tp, rf, ft, fp, sd) (M, mem, sh, ns, kd, cd) N (sl, nx, c, cr) (rn, rw_) (on_, ob)) (Q : CM h (x + 107) (r, tl, tp, rf, ft, fp, sd) (M, mem, sh, ns, kd, cd) N (sl, nx, c, cr) (rn, rw_) (on_, ob)) (O : Ok (r, tl, tp, rf, ft, fp, sd) (M, mem, sh, ns, kd, cd) N (sl, nx, c, cr) (rn, rw_) (on_, ob)) (p : Int32) : SM Int32 x h (f_X11_octetAt x p) (f_X12_octetAt (x + 107) p) := by
  have S := C.1
  have W := S.now
  have T := Q.1
  have R := C.2.2.2.1
  have e0 : hI h x 12 = nI r := C.2.1.1
  have m1 : hI h (x + 107 + 28) 3 = nI mem := Q.2.2.1.1
  have hm : mem ≤ 1024 := by
    rcases O.cs with ⟨-, -, rfl, -⟩ | ⟨-, q, -⟩
    · omega
    · exact q.2.2.2.1
  by_cases hp : ∃ k, k < mem ∧ p = nI k
  · obtain ⟨k, hk, rfl⟩ := hp
    have hr : r = 1 := by
      rcases O.cs with ⟨-, -, rfl, -⟩ | ⟨q, -⟩
      · omega
      · exact q
    subst hr
    obtain ⟨a, ha, h9, A, B⟩ := C.run rfl
    have b1 : hI h a 1 = nI mem := B.1
    have t1 : (hI h (x + 3 + 6) (k / 2 ^ 2) >>> (nI (8 * (k % 4)) &&& nI 31)) &&& nI 255 = nI (N (353 + k)) := R.2.2.2.2.2 k (by omega)
    have t2 : hI h (x + 107 + 34) (353 + k) = nI (N (353 + k)) := Q.n (by omega) (by omega)
    refine glue0 C Q O (v := nI (N (353 + k))) ?_ ?_
    · simp (disch := omega) only [nm, bd_s, ko_K, ka_K, koK_t, kaK_t, kr_s, kn_s, kn_n, hK_sI, hR_sI, hK_sL, hR_sL, hI_sL, hL_sI, hL_sL, hI_sI, hN_sI, hN_sL, ch_G, ch_T, nb_0, nb_1, zb_G, d_T, d_F, d_eT, d_eF, b2i_t, b2i_f, tn_nI, fa_lit, fa_litL, m1_e, nI_add, pk_mul, pk_sub, nI_leI, nI_ltI, nI_eq, le_T, le_F, lt_T, lt_F, eq_T, eq_F, if_pos, if_neg, m1_le, m1_lt', m1_gt, m1_le', m1_eq, m1_qe, b2i_eq0, in_N, in_n, in_I, ↓reduceIte, Bool.true_eq_false, Bool.false_eq_true, reduceCtorEq, decide_eq_true_eq, decide_eq_false_iff_not, Nat.not_lt, Nat.not_le, not_true_eq_false, not_false_eq_true, true_and, and_true, and_self, f_X11_octetAt_34, f_X11_octetAt_33, f_X11_octetAt, f_X9_byteAt_11, f_X9_byteAt, S.k0, S.r0_2, W.k, W.r5, W.k6, e0, h9, A.k, b1, sr_nI, an_3, t1]
    · simp (disch := omega) only [nm, bd_s, ko_K, ka_K, koK_t, kaK_t, kr_s, kn_s, kn_n, hK_sI, hR_sI, hK_sL, hR_sL, hI_sL, hL_sI, hL_sL, hI_sI, hN_sI, hN_sL, ch_G, ch_T, nb_0, nb_1, zb_G, d_T, d_F, d_eT, d_eF, b2i_t, b2i_f, tn_nI, fa_lit, fa_litL, m1_e, nI_add, pk_mul, pk_sub, nI_leI, nI_ltI, nI_eq, le_T, le_F, lt_T, lt_F, eq_T, eq_F, if_pos, if_neg, m1_le, m1_lt', m1_gt, m1_le', m1_eq, m1_qe, b2i_eq0, in_N, in_n, in_I, ↓reduceIte, Bool.true_eq_false, Bool.false_eq_true, reduceCtorEq, decide_eq_true_eq, decide_eq_false_iff_not, Nat.not_lt, Nat.not_le, not_true_eq_false, not_false_eq_true, true_and, and_true, and_self, f_X12_octetAt_32, f_X12_octetAt, T.k, T.r37, T.k37, T.r47, T.k47, m1, t2, b2i_d]
  · have hr01 := O.r01
    rcases ix_not (by omega) hp with q | q
    · refine glue0 C Q O (v := -nI 1) ?_ ?_
      · rcases hr01 with rfl | rfl
        · simp (disch := omega) only [nm, bd_s, ko_K, ka_K, koK_t, kaK_t, kr_s, kn_s, kn_n, hK_sI, hR_sI, hK_sL, hR_sL, hI_sL, hL_sI, hL_sL, hI_sI, hN_sI, hN_sL, ch_G, ch_T, nb_0, nb_1, zb_G, d_T, d_F, d_eT, d_eF, b2i_t, b2i_f, tn_nI, fa_lit, fa_litL, m1_e, nI_add, pk_mul, pk_sub, nI_leI, nI_ltI, nI_eq, le_T, le_F, lt_T, lt_F, eq_T, eq_F, if_pos, if_neg, m1_le, m1_lt', m1_gt, m1_le', m1_eq, m1_qe, b2i_eq0, in_N, in_n, in_I, ↓reduceIte, Bool.true_eq_false, Bool.false_eq_true, reduceCtorEq, decide_eq_true_eq, decide_eq_false_iff_not, Nat.not_lt, Nat.not_le, not_true_eq_false, not_false_eq_true, true_and, and_true, and_self, f_X11_octetAt_34, f_X11_octetAt_33, f_X11_octetAt, S.k0, e0]
        · simp (disch := omega) only [nm, bd_s, ko_K, ka_K, koK_t, kaK_t, kr_s, kn_s, kn_n, hK_sI, hR_sI, hK_sL, hR_sL, hI_sL, hL_sI, hL_sL, hI_sI, hN_sI, hN_sL, ch_G, ch_T, nb_0, nb_1, zb_G, d_T, d_F, d_eT, d_eF, b2i_t, b2i_f, tn_nI, fa_lit, fa_litL, m1_e, nI_add, pk_mul, pk_sub, nI_leI, nI_ltI, nI_eq, le_T, le_F, lt_T, lt_F, eq_T, eq_F, if_pos, if_neg, m1_le, m1_lt', m1_gt, m1_le', m1_eq, m1_qe, b2i_eq0, in_N, in_n, in_I, ↓reduceIte, Bool.true_eq_false, Bool.false_eq_true, reduceCtorEq, decide_eq_true_eq, decide_eq_false_iff_not, Nat.not_lt, Nat.not_le, not_true_eq_false, not_false_eq_true, true_and, and_true, and_self, f_X11_octetAt_34, f_X11_octetAt_33, f_X11_octetAt, S.k0, e0, ng_lt' q, ng_le' q, ng_le q, ng_lt q, ng_eq q, ng_qe q, in_g q, in_gN q]
      · simp (disch := omega) only [nm, bd_s, ko_K, ka_K, koK_t, kaK_t, kr_s, kn_s, kn_n, hK_sI, hR_sI, hK_sL, hR_sL, hI_sL, hL_sI, hL_sL, hI_sI, hN_sI, hN_sL, ch_G, ch_T, nb_0, nb_1, zb_G, d_T, d_F, d_eT, d_eF, b2i_t, b2i_f, tn_nI, fa_lit, fa_litL, m1_e, nI_add, pk_mul, pk_sub, nI_leI, nI_ltI, nI_eq, le_T, le_F, lt_T, lt_F, eq_T, eq_F, if_pos, if_neg, m1_le, m1_lt', m1_gt, m1_le', m1_eq, m1_qe, b2i_eq0, in_N, in_n, in_I, ↓reduceIte, Bool.true_eq_false, Bool.false_eq_true, reduceCtorEq, decide_eq_true_eq, decide_eq_false_iff_not, Nat.not_lt, Nat.not_le, not_true_eq_false, not_false_eq_true, true_and, and_true, and_self, f_X12_octetAt_32, f_X12_octetAt, T.k, T.r37, T.k37, m1, ng_lt' q, ng_le' q, ng_le q, ng_lt q, ng_eq q, ng_qe q, in_g q, in_gN q]
    · refine glue0 C Q O (v := -nI 1) ?_ ?_
      · rcases hr01 with rfl | rfl
        · simp (disch := omega) only [nm, bd_s, ko_K, ka_K, koK_t, kaK_t, kr_s, kn_s, kn_n, hK_sI, hR_sI, hK_sL, hR_sL, hI_sL, hL_sI, hL_sL, hI_sI, hN_sI, hN_sL, ch_G, ch_T, nb_0, nb_1, zb_G, d_T, d_F, d_eT, d_eF, b2i_t, b2i_f, tn_nI, fa_lit, fa_litL, m1_e, nI_add, pk_mul, pk_sub, nI_leI, nI_ltI, nI_eq, le_T, le_F, lt_T, lt_F, eq_T, eq_F, if_pos, if_neg, m1_le, m1_lt', m1_gt, m1_le', m1_eq, m1_qe, b2i_eq0, in_N, in_n, in_I, ↓reduceIte, Bool.true_eq_false, Bool.false_eq_true, reduceCtorEq, decide_eq_true_eq, decide_eq_false_iff_not, Nat.not_lt, Nat.not_le, not_true_eq_false, not_false_eq_true, true_and, and_true, and_self, f_X11_octetAt_34, f_X11_octetAt_33, f_X11_octetAt, S.k0, e0]
        · obtain ⟨a, ha, h9, A, B⟩ := C.run rfl
          have b1 : hI h a 1 = nI mem := B.1
          simp (disch := omega) only [nm, bd_s, ko_K, ka_K, koK_t, kaK_t, kr_s, kn_s, kn_n, hK_sI, hR_sI, hK_sL, hR_sL, hI_sL, hL_sI, hL_sL, hI_sI, hN_sI, hN_sL, ch_G, ch_T, nb_0, nb_1, zb_G, d_T, d_F, d_eT, d_eF, b2i_t, b2i_f, tn_nI, fa_lit, fa_litL, m1_e, nI_add, pk_mul, pk_sub, nI_leI, nI_ltI, nI_eq, le_T, le_F, lt_T, lt_F, eq_T, eq_F, if_pos, if_neg, m1_le, m1_lt', m1_gt, m1_le', m1_eq, m1_qe, b2i_eq0, in_N, in_n, in_I, ↓reduceIte, Bool.true_eq_false, Bool.false_eq_true, reduceCtorEq, decide_eq_true_eq, decide_eq_false_iff_not, Nat.not_lt, Nat.not_le, not_true_eq_false, not_false_eq_true, true_and, and_true, and_self, f_X11_octetAt_34, f_X11_octetAt_33, f_X11_octetAt, S.k0, e0, h9, A.k, b1, bg_lt q, bg_ge q]
      · simp (disch := omega) only [nm, bd_s, ko_K, ka_K, koK_t, kaK_t, kr_s, kn_s, kn_n, hK_sI, hR_sI, hK_sL, hR_sL, hI_sL, hL_sI, hL_sL, hI_sI, hN_sI, hN_sL, ch_G, ch_T, nb_0, nb_1, zb_G, d_T, d_F, d_eT, d_eF, b2i_t, b2i_f, tn_nI, fa_lit, fa_litL, m1_e, nI_add, pk_mul, pk_sub, nI_leI, nI_ltI, nI_eq, le_T, le_F, lt_T, lt_F, eq_T, eq_F, if_pos, if_neg, m1_le, m1_lt', m1_gt, m1_le', m1_eq, m1_qe, b2i_eq0, in_N, in_n, in_I, ↓reduceIte, Bool.true_eq_false, Bool.false_eq_true, reduceCtorEq, decide_eq_true_eq, decide_eq_false_iff_not, Nat.not_lt, Nat.not_le, not_true_eq_false, not_false_eq_true, true_and, and_true, and_self, f_X12_octetAt_32, f_X12_octetAt, T.k, T.r37, T.k37, m1, in_b q]
end Sp
