/-! shelves: shelve, take -/
section Sv
variable {h : aH} {x r tl : Nat} {tp : Nat → Nat} {rf : Nat → Int32} {ft fp : Int32} {sd : Nat} {M mem sh : Nat} {ns : Nat → List Nat} {kd : Nat → Nat} {cd : Nat → List Nat} {N : tyN} {sl : Nat → tyN} {nx c cr : Nat} {rn : Nat} {rw_ : Nat → Nat} {on_ : Nat} {ob : Nat → Nat}
def emP (N : tyN) (s p : Nat) : Bool := decide (N (8 * (16 + (4 * s + p))) = 2)
def em4 (o : Option Nat) : Nat := match o with | none => 4 | some p => p
theorem c_empty (C : CX h x (r, tl, tp, rf, ft, fp, sd) (M, mem, sh, ns, kd, cd) N (sl, nx, c, cr) (rn, rw_) (on_, ob)) (okn : okN M mem sh N) {s : Nat} (hs : s < 4) : f_X11_emptyPlace x (nI s) h = some (opI (fnd (emP N s) 4 0), h) := by
  have S := C.1
  have W := S.now
  have L1 := loop_fnd (fun n p => f_X11_emptyPlace_2 n x (nI s) (nI p) h) 4 (emP N s) (fun p => (nI p, h)) (-nI 1, h) (fun n p hp => ?_) (fun n => ?_) 4 0 FU (by omega) (FU_gt (by omega))
  · refine Eq.trans L1 ?_
    cases fnd (emP N s) 4 0 <;> rfl
  · have e1 : 16 + s * 4 + p = 16 + (4 * s + p) := by omega
    have i32 : 16 + (4 * s + p) < 32 := by omega
    unfold emP
    generalize 16 + (4 * s + p) = i at *
    by_cases fl : N (8 * i) = 2
    · have p0 := C.2.2.2.1.e i32 fl
      simp (disch := omega) only [nm, bd_s, ko_K, ka_K, koK_t, kaK_t, kr_s, kn_s, kn_n, hK_sI, hR_sI, hK_sL, hR_sL, hI_sL, hL_sI, hL_sL, hI_sI, hN_sI, hN_sL, ch_G, ch_T, nb_0, nb_1, zb_G, d_T, d_F, d_eT, d_eF, b2i_t, b2i_f, tn_nI, fa_lit, fa_litL, m1_e, nI_add, pk_mul, pk_sub, nI_leI, nI_ltI, nI_eq, le_T, le_F, lt_T, lt_F, eq_T, eq_F, if_pos, if_neg, m1_le, m1_lt', m1_gt, m1_le', m1_eq, m1_qe, b2i_eq0, in_N, in_n, in_I, ↓reduceIte, Bool.true_eq_false, Bool.false_eq_true, reduceCtorEq, decide_eq_true_eq, decide_eq_false_iff_not, Nat.not_lt, Nat.not_le, not_true_eq_false, not_false_eq_true, true_and, and_true, and_self, false_and, and_false, true_or, or_true, false_or, or_false, f_X11_emptyPlace_2, b_X11_emptyPlace_2, f_X11_placeIndex, S.k0, S.r0_2, W.k, W.r0, W.k1, W.rp, W.kp, e1, p0, fl]
    · have fl2 : N (8 * i) ≤ 1 := by have := (okn.2.1 i i32).1; omega
      have p0 := (C.2.2.2.1.cl i32 fl2).1
      simp (disch := omega) only [nm, bd_s, ko_K, ka_K, koK_t, kaK_t, kr_s, kn_s, kn_n, hK_sI, hR_sI, hK_sL, hR_sL, hI_sL, hL_sI, hL_sL, hI_sI, hN_sI, hN_sL, ch_G, ch_T, nb_0, nb_1, zb_G, d_T, d_F, d_eT, d_eF, b2i_t, b2i_f, tn_nI, fa_lit, fa_litL, m1_e, nI_add, pk_mul, pk_sub, nI_leI, nI_ltI, nI_eq, le_T, le_F, lt_T, lt_F, eq_T, eq_F, if_pos, if_neg, m1_le, m1_lt', m1_gt, m1_le', m1_eq, m1_qe, b2i_eq0, in_N, in_n, in_I, ↓reduceIte, Bool.true_eq_false, Bool.false_eq_true, reduceCtorEq, decide_eq_true_eq, decide_eq_false_iff_not, Nat.not_lt, Nat.not_le, not_true_eq_false, not_false_eq_true, true_and, and_true, and_self, false_and, and_false, true_or, or_true, false_or, or_false, f_X11_emptyPlace_2, b_X11_emptyPlace_2, f_X11_placeIndex, S.k0, S.r0_2, W.k, W.r0, W.k1, W.rp, W.kp, e1, p0, fl]
  · simp (disch := omega) only [nm, bd_s, ko_K, ka_K, koK_t, kaK_t, kr_s, kn_s, kn_n, hK_sI, hR_sI, hK_sL, hR_sL, hI_sL, hL_sI, hL_sL, hI_sI, hN_sI, hN_sL, ch_G, ch_T, nb_0, nb_1, zb_G, d_T, d_F, d_eT, d_eF, b2i_t, b2i_f, tn_nI, fa_lit, fa_litL, m1_e, nI_add, pk_mul, pk_sub, nI_leI, nI_ltI, nI_eq, le_T, le_F, lt_T, lt_F, eq_T, eq_F, if_pos, if_neg, m1_le, m1_lt', m1_gt, m1_le', m1_eq, m1_qe, b2i_eq0, in_N, in_n, in_I, ↓reduceIte, Bool.true_eq_false, Bool.false_eq_true, reduceCtorEq, decide_eq_true_eq, decide_eq_false_iff_not, Nat.not_lt, Nat.not_le, not_true_eq_false, not_false_eq_true, true_and, and_true, and_self, false_and, and_false, true_or, or_true, false_or, or_false, f_X11_emptyPlace_2, b_X11_emptyPlace_2]
theorem m_empty (Q : CM h (x + 107) (r, tl, tp, rf, ft, fp, sd) (M, mem, sh, ns, kd, cd) N (sl, nx, c, cr) (rn, rw_) (on_, ob)) (okn : okN M mem sh N) {s : Nat} (hs : s < 4) (k : Int32) : ∀ (d p n : Nat), p + d = 4 → d < n → f_X12_shelve_61 n (x + 107) k (nI s) (nI p) h = f_X12_shelve_87 (x + 107) k (nI s) (nI (em4 (fnd (emP N s) d p))) h := by
  have T := Q.1
  intro d
  induction d with
  | zero =>
    intro p n hp hn
    obtain ⟨n, rfl⟩ : ∃ m, n = m + 1 := ⟨n - 1, by omega⟩
    have hp : p = 4 := by omega
    subst hp
    simp (disch := omega) only [nm, bd_s, ko_K, ka_K, koK_t, kaK_t, kr_s, kn_s, kn_n, hK_sI, hR_sI, hK_sL, hR_sL, hI_sL, hL_sI, hL_sL, hI_sI, hN_sI, hN_sL, ch_G, ch_T, nb_0, nb_1, zb_G, d_T, d_F, d_eT, d_eF, b2i_t, b2i_f, tn_nI, fa_lit, fa_litL, m1_e, nI_add, pk_mul, pk_sub, nI_leI, nI_ltI, nI_eq, le_T, le_F, lt_T, lt_F, eq_T, eq_F, if_pos, if_neg, m1_le, m1_lt', m1_gt, m1_le', m1_eq, m1_qe, b2i_eq0, in_N, in_n, in_I, ↓reduceIte, Bool.true_eq_false, Bool.false_eq_true, reduceCtorEq, decide_eq_true_eq, decide_eq_false_iff_not, Nat.not_lt, Nat.not_le, not_true_eq_false, not_false_eq_true, true_and, and_true, and_self, false_and, and_false, true_or, or_true, false_or, or_false, f_X12_shelve_61, b_X12_shelve_61, fnd, em4]
  | succ d ih =>
    intro p n hp hn
    obtain ⟨n, rfl⟩ : ∃ m, n = m + 1 := ⟨n - 1, by omega⟩
    have st := ih (p + 1) n (by omega) (by omega)
    have e2 : 128 + 8 * (4 * s + p) = 8 * (16 + (4 * s + p)) := by omega
    have i32 : 16 + (4 * s + p) < 32 := by omega
    by_cases fl : N (8 * (16 + (4 * s + p))) = 2
    · have m0 := Q.e i32 fl
      have z : emP N s p = true := by simp [emP, fl]
      have fe : fnd (emP N s) (d + 1) p = some p := by simp [fnd, z]
      rw [fe]
      simp (disch := omega) only [nm, bd_s, ko_K, ka_K, koK_t, kaK_t, kr_s, kn_s, kn_n, hK_sI, hR_sI, hK_sL, hR_sL, hI_sL, hL_sI, hL_sL, hI_sI, hN_sI, hN_sL, ch_G, ch_T, nb_0, nb_1, zb_G, d_T, d_F, d_eT, d_eF, b2i_t, b2i_f, tn_nI, fa_lit, fa_litL, m1_e, nI_add, pk_mul, pk_sub, nI_leI, nI_ltI, nI_eq, le_T, le_F, lt_T, lt_F, eq_T, eq_F, if_pos, if_neg, m1_le, m1_lt', m1_gt, m1_le', m1_eq, m1_qe, b2i_eq0, in_N, in_n, in_I, ↓reduceIte, Bool.true_eq_false, Bool.false_eq_true, reduceCtorEq, decide_eq_true_eq, decide_eq_false_iff_not, Nat.not_lt, Nat.not_le, not_true_eq_false, not_false_eq_true, true_and, and_true, and_self, false_and, and_false, true_or, or_true, false_or, or_false, f_X12_shelve_61, b_X12_shelve_61, f_X12_shelfAt, T.k, T.r47, T.k47, e2, m0, em4]
    · have fl2 : N (8 * (16 + (4 * s + p))) ≤ 1 := by have := (okn.2.1 _ i32).1; omega
      have m0 := Q.n (j := 8 * (16 + (4 * s + p))) (by omega) (by omega)
      have z : emP N s p = false := by simp [emP, fl]
      have fe : fnd (emP N s) (d + 1) p = fnd (emP N s) d (p + 1) := by simp [fnd, z]
      rw [fe]
      simp (disch := omega) only [nm, bd_s, ko_K, ka_K, koK_t, kaK_t, kr_s, kn_s, kn_n, hK_sI, hR_sI, hK_sL, hR_sL, hI_sL, hL_sI, hL_sL, hI_sI, hN_sI, hN_sL, ch_G, ch_T, nb_0, nb_1, zb_G, d_T, d_F, d_eT, d_eF, b2i_t, b2i_f, tn_nI, fa_lit, fa_litL, m1_e, nI_add, pk_mul, pk_sub, nI_leI, nI_ltI, nI_eq, le_T, le_F, lt_T, lt_F, eq_T, eq_F, if_pos, if_neg, m1_le, m1_lt', m1_gt, m1_le', m1_eq, m1_qe, b2i_eq0, in_N, in_n, in_I, ↓reduceIte, Bool.true_eq_false, Bool.false_eq_true, reduceCtorEq, decide_eq_true_eq, decide_eq_false_iff_not, Nat.not_lt, Nat.not_le, not_true_eq_false, not_false_eq_true, true_and, and_true, and_self, false_and, and_false, true_or, or_true, false_or, or_false, f_X12_shelve_61, b_X12_shelve_61, f_X12_shelfAt, T.k, T.r47, T.k47, e2, m0, st]
theorem S_shelve (C : CX h x (r, tl, tp, rf, ft, fp, sd) (M, mem, sh, ns, kd, cd) N (sl, nx, c, cr) (rn, rw_) (on_, ob)) (Q : CM h (x + 107) (r, tl, tp, rf, ft, fp, sd) (M, mem, sh, ns, kd, cd) N (sl, nx, c, cr) (rn, rw_) (on_, ob)) (O : Ok (r, tl, tp, rf, ft, fp, sd) (M, mem, sh, ns, kd, cd) N (sl, nx, c, cr) (rn, rw_) (on_, ob)) (p w : Int32) : SM Int32 x h (f_X11_shelve x p w) (f_X12_shelve (x + 107) p w) := by
  have S := C.1
  have W := S.now
  have rfx := c_refuse (k := 4) S (by omega)
  have s4 := O.sh4
  by_cases hp : r = 1 ∧ ∃ k, k < 16 ∧ p = nI k
  · obtain ⟨hr, k, hk, rfl⟩ := hp
    have c1 := C.ip hr hk
    by_cases hw : ∃ s, s < sh ∧ w = nI s
    · obtain ⟨s, hs, rfl⟩ := hw
      have okn := O.okn hr
      have fl := okn.fl hk
      have c3 := C.is O hs
      have em := c_empty C okn (show s < 4 by omega)
      obtain ⟨a, ha, h9, A, B⟩ := C.run hr
      have kd1 : hI h (a + 2) s = nI (kd s) := B.2.2.2.2.1 s hs (by omega)
      obtain ⟨kb1, kb2⟩ := (O.okb hr).2.2.2.2.2.2.1 s hs
      obtain ⟨p0, p1, p2, p3, p4, p5, p6, p7⟩ := C.2.2.2.1.cl (show k < 32 by omega) fl
      have b6 := (okn.2.1 k (by omega)).2.2.2.2.2.2.2
      have hm0 : ∀ g1, CM g1 (x + 107) (r, tl, tp, rf, ft, fp, sd) (M, mem, sh, ns, kd, cd) N (sl, nx, c, cr) (rn, rw_) (on_, ob) → f_X12_shelve (x + 107) (nI k) (nI s) g1 = if N (8 * k) = 1 ∧ N (8 * k + 6) = kd s then f_X12_shelve_87 (x + 107) (nI k) (nI s) (nI (em4 (fnd (emP N s) 4 0))) g1 else some (-nI 1, rfX g1 (x + 107) 4) := by
        intro g1 Q1
        have T1 := Q1.1
        have c2 := Q1.ip hr hk
        have c4 := Q1.is O hs
        obtain ⟨q0, q1, q2, q3, q4, q5, q6⟩ := Q1.q (show k < 32 by omega) fl
        have kd2 : hI g1 (x + 107 + 30) (4 + s) = nI (kd s) := Q1.2.2.1.2.2.2.2.1 s hs (by omega)
        have rfm := m_refuses (k := 4) T1 (by omega)
        by_cases f1 : N (8 * k) = 1
        · by_cases f2 : N (8 * k + 6) = kd s
          · rw [if_pos ⟨f1, f2⟩]
            have st := m_empty Q1 okn (show s < 4 by omega) (nI k) 4 0 FU (by omega) (FU_gt (by omega))
            simp (disch := omega) only [nm, bd_s, ko_K, ka_K, koK_t, kaK_t, kr_s, kn_s, kn_n, hK_sI, hR_sI, hK_sL, hR_sL, hI_sL, hL_sI, hL_sL, hI_sI, hN_sI, hN_sL, ch_G, ch_T, nb_0, nb_1, zb_G, d_T, d_F, d_eT, d_eF, b2i_t, b2i_f, tn_nI, fa_lit, fa_litL, m1_e, nI_add, pk_mul, pk_sub, nI_leI, nI_ltI, nI_eq, le_T, le_F, lt_T, lt_F, eq_T, eq_F, if_pos, if_neg, m1_le, m1_lt', m1_gt, m1_le', m1_eq, m1_qe, b2i_eq0, in_N, in_n, in_I, ↓reduceIte, Bool.true_eq_false, Bool.false_eq_true, reduceCtorEq, decide_eq_true_eq, decide_eq_false_iff_not, Nat.not_lt, Nat.not_le, not_true_eq_false, not_false_eq_true, true_and, and_true, and_self, false_and, and_false, true_or, or_true, false_or, or_false, f_X12_shelve, T1.k, T1.r47, T1.k47, T1.r39, T1.k39, c2, c4, q0, q6, kd2, f1, f2]
            exact st
          · rw [if_neg (fun q => f2 q.2)]
            simp (disch := omega) only [nm, bd_s, ko_K, ka_K, koK_t, kaK_t, kr_s, kn_s, kn_n, hK_sI, hR_sI, hK_sL, hR_sL, hI_sL, hL_sI, hL_sL, hI_sI, hN_sI, hN_sL, ch_G, ch_T, nb_0, nb_1, zb_G, d_T, d_F, d_eT, d_eF, b2i_t, b2i_f, tn_nI, fa_lit, fa_litL, m1_e, nI_add, pk_mul, pk_sub, nI_leI, nI_ltI, nI_eq, le_T, le_F, lt_T, lt_F, eq_T, eq_F, if_pos, if_neg, m1_le, m1_lt', m1_gt, m1_le', m1_eq, m1_qe, b2i_eq0, in_N, in_n, in_I, ↓reduceIte, Bool.true_eq_false, Bool.false_eq_true, reduceCtorEq, decide_eq_true_eq, decide_eq_false_iff_not, Nat.not_lt, Nat.not_le, not_true_eq_false, not_false_eq_true, true_and, and_true, and_self, false_and, and_false, true_or, or_true, false_or, or_false, f_X12_shelve, f_X12_shelve_53, T1.k, T1.r47, T1.k47, T1.r39, T1.k39, c2, c4, q0, q6, kd2, f1, f2, rfm]
        · rw [if_neg (fun q => f1 q.1)]
          simp (disch := omega) only [nm, bd_s, ko_K, ka_K, koK_t, kaK_t, kr_s, kn_s, kn_n, hK_sI, hR_sI, hK_sL, hR_sL, hI_sL, hL_sI, hL_sL, hI_sI, hN_sI, hN_sL, ch_G, ch_T, nb_0, nb_1, zb_G, d_T, d_F, d_eT, d_eF, b2i_t, b2i_f, tn_nI, fa_lit, fa_litL, m1_e, nI_add, pk_mul, pk_sub, nI_leI, nI_ltI, nI_eq, le_T, le_F, lt_T, lt_F, eq_T, eq_F, if_pos, if_neg, m1_le, m1_lt', m1_gt, m1_le', m1_eq, m1_qe, b2i_eq0, in_N, in_n, in_I, ↓reduceIte, Bool.true_eq_false, Bool.false_eq_true, reduceCtorEq, decide_eq_true_eq, decide_eq_false_iff_not, Nat.not_lt, Nat.not_le, not_true_eq_false, not_false_eq_true, true_and, and_true, and_self, false_and, and_false, true_or, or_true, false_or, or_false, f_X12_shelve, f_X12_shelve_53, T1.k, T1.r47, T1.k47, c2, c4, q0, f1, rfm]
      cases hf : fnd (emP N s) 4 0 with
      | none =>
        rw [hf] at em hm0
        refine glueR (k := 4) (v := -nI 1) C Q O (by omega) ?_ (fun g1 Q1 => ?_)
        · simp (disch := omega) only [nm, bd_s, ko_K, ka_K, koK_t, kaK_t, kr_s, kn_s, kn_n, hK_sI, hR_sI, hK_sL, hR_sL, hI_sL, hL_sI, hL_sL, hI_sI, hN_sI, hN_sL, ch_G, ch_T, nb_0, nb_1, zb_G, d_T, d_F, d_eT, d_eF, b2i_t, b2i_f, tn_nI, fa_lit, fa_litL, m1_e, nI_add, pk_mul, pk_sub, nI_leI, nI_ltI, nI_eq, le_T, le_F, lt_T, lt_F, eq_T, eq_F, if_pos, if_neg, m1_le, m1_lt', m1_gt, m1_le', m1_eq, m1_qe, b2i_eq0, in_N, in_n, in_I, ↓reduceIte, Bool.true_eq_false, Bool.false_eq_true, reduceCtorEq, decide_eq_true_eq, decide_eq_false_iff_not, Nat.not_lt, Nat.not_le, not_true_eq_false, not_false_eq_true, true_and, and_true, and_self, false_and, and_false, true_or, or_true, false_or, or_false, f_X11_shelve_73, f_X11_shelve_25, f_X11_shelve_24, f_X11_shelve, S.k0, c1, c3, em, opI, rfx]
        · rw [hm0 g1 Q1]
          have T1 := Q1.1
          have rfm := m_refuses (k := 4) T1 (by omega)
          by_cases ff : N (8 * k) = 1 ∧ N (8 * k + 6) = kd s
          · rw [if_pos ff]
            simp (disch := omega) only [nm, bd_s, ko_K, ka_K, koK_t, kaK_t, kr_s, kn_s, kn_n, hK_sI, hR_sI, hK_sL, hR_sL, hI_sL, hL_sI, hL_sL, hI_sI, hN_sI, hN_sL, ch_G, ch_T, nb_0, nb_1, zb_G, d_T, d_F, d_eT, d_eF, b2i_t, b2i_f, tn_nI, fa_lit, fa_litL, m1_e, nI_add, pk_mul, pk_sub, nI_leI, nI_ltI, nI_eq, le_T, le_F, lt_T, lt_F, eq_T, eq_F, if_pos, if_neg, m1_le, m1_lt', m1_gt, m1_le', m1_eq, m1_qe, b2i_eq0, in_N, in_n, in_I, ↓reduceIte, Bool.true_eq_false, Bool.false_eq_true, reduceCtorEq, decide_eq_true_eq, decide_eq_false_iff_not, Nat.not_lt, Nat.not_le, not_true_eq_false, not_false_eq_true, true_and, and_true, and_self, false_and, and_false, true_or, or_true, false_or, or_false, f_X12_shelve_87, em4, T1.k, rfm]
          · rw [if_neg ff]
      | some q =>
        rw [hf] at em hm0
        obtain ⟨-, q4, q5⟩ := fnd_lt _ _ _ hf
        by_cases ff : N (8 * k) = 1 ∧ N (8 * k + 6) = kd s
        · obtain ⟨f1, f2⟩ := ff
          refine glueA (N' := cpN N (8 * k) (8 * (16 + (4 * s + q)))) (v := nI q) C Q O hr (okn.cp (O.okb hr).2.1 (by omega) (by omega) (fun z => by omega) (by omega)) (fun h1 e1 C1 => ?_) (fun g g1 Q0 e1 Q1 => ?_)
          · have S1 := C1.1
            have W1 := S1.now
            obtain ⟨b1, b2⟩ := C1.cp (i := k) (k := 16 + (4 * s + q)) (by omega) (by omega) fl
            have e2 : 16 + s * 4 + q = 16 + (4 * s + q) := by omega
            refine ⟨_, ?_, b2⟩
            have i32 : 16 + (4 * s + q) < 32 := by omega
            generalize 16 + (4 * s + q) = i at *
            simp (disch := omega) only [nm, bd_s, ko_K, ka_K, koK_t, kaK_t, kr_s, kn_s, kn_n, hK_sI, hR_sI, hK_sL, hR_sL, hI_sL, hL_sI, hL_sL, hI_sI, hN_sI, hN_sL, ch_G, ch_T, nb_0, nb_1, zb_G, d_T, d_F, d_eT, d_eF, b2i_t, b2i_f, tn_nI, fa_lit, fa_litL, m1_e, nI_add, pk_mul, pk_sub, nI_leI, nI_ltI, nI_eq, le_T, le_F, lt_T, lt_F, eq_T, eq_F, if_pos, if_neg, m1_le, m1_lt', m1_gt, m1_le', m1_eq, m1_qe, b2i_eq0, in_N, in_n, in_I, ↓reduceIte, Bool.true_eq_false, Bool.false_eq_true, reduceCtorEq, decide_eq_true_eq, decide_eq_false_iff_not, Nat.not_lt, Nat.not_le, not_true_eq_false, not_false_eq_true, true_and, and_true, and_self, false_and, and_false, true_or, or_true, false_or, or_false, f_X11_shelve_73, f_X11_shelve_25, f_X11_shelve_24, f_X11_shelve, f_X11_placeIndex, S.k0, S.r0_2, S.r0_4, S.k81, W.k, W.r0, W.k1, W.rp, W.kp, c1, c3, em, opI, p1, p7, h9, A.k, A.r5, A.k2, kd1, f1, f2, e1, S1.k0, S1.r0_2, W1.k, W1.r0, W1.k1, W1.rp, W1.kp, e2, b1]
          · have T0 := Q0.1
            have T1 := Q1.1
            obtain ⟨b1, b2⟩ := Q1.cp (i := k) (k := 16 + (4 * s + q)) (by omega) (by omega)
            have e2 : 128 + 8 * (4 * s + q) = 8 * (16 + (4 * s + q)) := by omega
            refine ⟨_, ?_, b2⟩
            rw [hm0 g Q0, if_pos ⟨f1, f2⟩]
            simp (disch := omega) only [nm, bd_s, ko_K, ka_K, koK_t, kaK_t, kr_s, kn_s, kn_n, hK_sI, hR_sI, hK_sL, hR_sL, hI_sL, hL_sI, hL_sL, hI_sI, hN_sI, hN_sL, ch_G, ch_T, nb_0, nb_1, zb_G, d_T, d_F, d_eT, d_eF, b2i_t, b2i_f, tn_nI, fa_lit, fa_litL, m1_e, nI_add, pk_mul, pk_sub, nI_leI, nI_ltI, nI_eq, le_T, le_F, lt_T, lt_F, eq_T, eq_F, if_pos, if_neg, m1_le, m1_lt', m1_gt, m1_le', m1_eq, m1_qe, b2i_eq0, in_N, in_n, in_I, ↓reduceIte, Bool.true_eq_false, Bool.false_eq_true, reduceCtorEq, decide_eq_true_eq, decide_eq_false_iff_not, Nat.not_lt, Nat.not_le, not_true_eq_false, not_false_eq_true, true_and, and_true, and_self, false_and, and_false, true_or, or_true, false_or, or_false, f_X12_shelve_87, f_X12_shelfAt, em4, T0.k, e1, T1.k, e2, b1]
        · refine glueR (k := 4) (v := -nI 1) C Q O (by omega) ?_ (fun g1 Q1 => ?_)
          · by_cases f1 : N (8 * k) = 1
            · have f2 : ¬ N (8 * k + 6) = kd s := fun z => ff ⟨f1, z⟩
              simp (disch := omega) only [nm, bd_s, ko_K, ka_K, koK_t, kaK_t, kr_s, kn_s, kn_n, hK_sI, hR_sI, hK_sL, hR_sL, hI_sL, hL_sI, hL_sL, hI_sI, hN_sI, hN_sL, ch_G, ch_T, nb_0, nb_1, zb_G, d_T, d_F, d_eT, d_eF, b2i_t, b2i_f, tn_nI, fa_lit, fa_litL, m1_e, nI_add, pk_mul, pk_sub, nI_leI, nI_ltI, nI_eq, le_T, le_F, lt_T, lt_F, eq_T, eq_F, if_pos, if_neg, m1_le, m1_lt', m1_gt, m1_le', m1_eq, m1_qe, b2i_eq0, in_N, in_n, in_I, ↓reduceIte, Bool.true_eq_false, Bool.false_eq_true, reduceCtorEq, decide_eq_true_eq, decide_eq_false_iff_not, Nat.not_lt, Nat.not_le, not_true_eq_false, not_false_eq_true, true_and, and_true, and_self, false_and, and_false, true_or, or_true, false_or, or_false, f_X11_shelve_73, f_X11_shelve_25, f_X11_shelve_24, f_X11_shelve, S.k0, S.r0_2, W.k, W.r0, W.k1, W.rp, W.kp, c1, c3, em, opI, p1, p7, h9, A.k, A.r5, A.k2, kd1, f1, f2, rfx]
            · simp (disch := omega) only [nm, bd_s, ko_K, ka_K, koK_t, kaK_t, kr_s, kn_s, kn_n, hK_sI, hR_sI, hK_sL, hR_sL, hI_sL, hL_sI, hL_sL, hI_sI, hN_sI, hN_sL, ch_G, ch_T, nb_0, nb_1, zb_G, d_T, d_F, d_eT, d_eF, b2i_t, b2i_f, tn_nI, fa_lit, fa_litL, m1_e, nI_add, pk_mul, pk_sub, nI_leI, nI_ltI, nI_eq, le_T, le_F, lt_T, lt_F, eq_T, eq_F, if_pos, if_neg, m1_le, m1_lt', m1_gt, m1_le', m1_eq, m1_qe, b2i_eq0, in_N, in_n, in_I, ↓reduceIte, Bool.true_eq_false, Bool.false_eq_true, reduceCtorEq, decide_eq_true_eq, decide_eq_false_iff_not, Nat.not_lt, Nat.not_le, not_true_eq_false, not_false_eq_true, true_and, and_true, and_self, false_and, and_false, true_or, or_true, false_or, or_false, f_X11_shelve_73, f_X11_shelve_25, f_X11_shelve_24, f_X11_shelve, S.k0, S.r0_2, W.k, W.r0, W.k1, W.rp, W.kp, c1, c3, em, opI, p1, rfx]
          · rw [hm0 g1 Q1, if_neg ff]
    · have c3 := C.nsh O hw
      refine glueR (k := 4) (v := -nI 1) C Q O (by omega) ?_ (fun g1 Q1 => ?_)
      · simp (disch := omega) only [nm, bd_s, ko_K, ka_K, koK_t, kaK_t, kr_s, kn_s, kn_n, hK_sI, hR_sI, hK_sL, hR_sL, hI_sL, hL_sI, hL_sL, hI_sI, hN_sI, hN_sL, ch_G, ch_T, nb_0, nb_1, zb_G, d_T, d_F, d_eT, d_eF, b2i_t, b2i_f, tn_nI, fa_lit, fa_litL, m1_e, nI_add, pk_mul, pk_sub, nI_leI, nI_ltI, nI_eq, le_T, le_F, lt_T, lt_F, eq_T, eq_F, if_pos, if_neg, m1_le, m1_lt', m1_gt, m1_le', m1_eq, m1_qe, b2i_eq0, in_N, in_n, in_I, ↓reduceIte, Bool.true_eq_false, Bool.false_eq_true, reduceCtorEq, decide_eq_true_eq, decide_eq_false_iff_not, Nat.not_lt, Nat.not_le, not_true_eq_false, not_false_eq_true, true_and, and_true, and_self, false_and, and_false, true_or, or_true, false_or, or_false, f_X11_shelve_73, f_X11_shelve_25, f_X11_shelve_24, f_X11_shelve, S.k0, c1, c3, rfx]
      · have T1 := Q1.1
        have c2 := Q1.ip hr hk
        have c4 := Q1.nsh O hw
        have rfm := m_refuses (k := 4) T1 (by omega)
        simp (disch := omega) only [nm, bd_s, ko_K, ka_K, koK_t, kaK_t, kr_s, kn_s, kn_n, hK_sI, hR_sI, hK_sL, hR_sL, hI_sL, hL_sI, hL_sL, hI_sI, hN_sI, hN_sL, ch_G, ch_T, nb_0, nb_1, zb_G, d_T, d_F, d_eT, d_eF, b2i_t, b2i_f, tn_nI, fa_lit, fa_litL, m1_e, nI_add, pk_mul, pk_sub, nI_leI, nI_ltI, nI_eq, le_T, le_F, lt_T, lt_F, eq_T, eq_F, if_pos, if_neg, m1_le, m1_lt', m1_gt, m1_le', m1_eq, m1_qe, b2i_eq0, in_N, in_n, in_I, ↓reduceIte, Bool.true_eq_false, Bool.false_eq_true, reduceCtorEq, decide_eq_true_eq, decide_eq_false_iff_not, Nat.not_lt, Nat.not_le, not_true_eq_false, not_false_eq_true, true_and, and_true, and_self, false_and, and_false, true_or, or_true, false_or, or_false, f_X12_shelve, f_X12_shelve_53, T1.k, c2, c4, rfm]
  · have c1 := C.np O hp
    refine glueR (k := 4) (v := -nI 1) C Q O (by omega) ?_ (fun g1 Q1 => ?_)
    · simp (disch := omega) only [nm, bd_s, ko_K, ka_K, koK_t, kaK_t, kr_s, kn_s, kn_n, hK_sI, hR_sI, hK_sL, hR_sL, hI_sL, hL_sI, hL_sL, hI_sI, hN_sI, hN_sL, ch_G, ch_T, nb_0, nb_1, zb_G, d_T, d_F, d_eT, d_eF, b2i_t, b2i_f, tn_nI, fa_lit, fa_litL, m1_e, nI_add, pk_mul, pk_sub, nI_leI, nI_ltI, nI_eq, le_T, le_F, lt_T, lt_F, eq_T, eq_F, if_pos, if_neg, m1_le, m1_lt', m1_gt, m1_le', m1_eq, m1_qe, b2i_eq0, in_N, in_n, in_I, ↓reduceIte, Bool.true_eq_false, Bool.false_eq_true, reduceCtorEq, decide_eq_true_eq, decide_eq_false_iff_not, Nat.not_lt, Nat.not_le, not_true_eq_false, not_false_eq_true, true_and, and_true, and_self, false_and, and_false, true_or, or_true, false_or, or_false, f_X11_shelve_73, f_X11_shelve_25, f_X11_shelve_24, f_X11_shelve, S.k0, c1, rfx]
    · have T1 := Q1.1
      have c2 := Q1.np O hp
      have rfm := m_refuses (k := 4) T1 (by omega)
      simp (disch := omega) only [nm, bd_s, ko_K, ka_K, koK_t, kaK_t, kr_s, kn_s, kn_n, hK_sI, hR_sI, hK_sL, hR_sL, hI_sL, hL_sI, hL_sL, hI_sI, hN_sI, hN_sL, ch_G, ch_T, nb_0, nb_1, zb_G, d_T, d_F, d_eT, d_eF, b2i_t, b2i_f, tn_nI, fa_lit, fa_litL, m1_e, nI_add, pk_mul, pk_sub, nI_leI, nI_ltI, nI_eq, le_T, le_F, lt_T, lt_F, eq_T, eq_F, if_pos, if_neg, m1_le, m1_lt', m1_gt, m1_le', m1_eq, m1_qe, b2i_eq0, in_N, in_n, in_I, ↓reduceIte, Bool.true_eq_false, Bool.false_eq_true, reduceCtorEq, decide_eq_true_eq, decide_eq_false_iff_not, Nat.not_lt, Nat.not_le, not_true_eq_false, not_false_eq_true, true_and, and_true, and_self, false_and, and_false, true_or, or_true, false_or, or_false, f_X12_shelve, f_X12_shelve_53, T1.k, c2, rfm]
/-- a place is emptied -/
def clP (h : aH) (p : Nat) : aH := sI (sI (sI (sI (sI (sI (sI (sI h p 0 (nI 0)) p 1 (nI 0)) p 2 (nI 0)) p 3 (nI 0)) p 4 (nI 0)) p 5 (nI 0)) p 6 (nI 0)) p 7 (nI 0)
theorem clP_o {p b j : Nat} (q : ¬ (b = p ∧ j < 8)) : hI (clP h p) b j = hI h b j := by
  unfold clP
  rw [hI_sI, if_neg (by omega), hI_sI, if_neg (by omega), hI_sI, if_neg (by omega), hI_sI, if_neg (by omega), hI_sI, if_neg (by omega), hI_sI, if_neg (by omega), hI_sI, if_neg (by omega), hI_sI, if_neg (by omega)]
theorem CX.cl0 (C : CX h x (r, tl, tp, rf, ft, fp, sd) (M, mem, sh, ns, kd, cd) N (sl, nx, c, cr) (rn, rw_) (on_, ob)) {i : Nat} (hi : i < 32) : f_X6_clear (x + 3 + 7 + i) (nI 0) h = some ((), clP h (x + 3 + 7 + i)) ∧ CX (clP h (x + 3 + 7 + i)) x (r, tl, tp, rf, ft, fp, sd) (M, mem, sh, ns, kd, cd) (updN N (8 * i) 2) (sl, nx, c, cr) (rn, rw_) (on_, ob) ∧ FC x h (clP h (x + 3 + 7 + i)) := by
  have kp := C.1.now.kp hi
  refine ⟨?_, C.nc1 ⟨rfl, fun _ _ _ => rfl, rfl, rfl, fun b j q => ?_, fun _ _ _ => rfl⟩ rfl rfl (C.2.2.2.1.cell hi (fun b _ _ q j => clP_o (by omega)) (fun j q => updN_o (by omega)) (Or.inl ⟨updN_s _ _ _, ?_, ?_⟩))⟩
  · have z : (nI 0 = (0 : Int32) ∨ nI 0 = (1 : Int32)) := Or.inl rfl
    simp only [f_X6_clear, ko_t kp, chk_t z]
    rfl
  · exact clP_o (by rintro ⟨rfl, z⟩; exact q (by unfold NC; omega))
  · unfold clP
    rw [hI_sI, if_neg (by omega), hI_sI, if_neg (by omega), hI_sI, if_neg (by omega), hI_sI, if_neg (by omega), hI_sI, if_neg (by omega), hI_sI, if_neg (by omega), hI_sI, if_neg (by omega), hI_sI, if_pos ⟨rfl, rfl⟩]
  · left
    unfold clP
    rw [hI_sI, if_neg (by omega), hI_sI, if_neg (by omega), hI_sI, if_neg (by omega), hI_sI, if_neg (by omega), hI_sI, if_neg (by omega), hI_sI, if_neg (by omega), hI_sI, if_pos ⟨rfl, rfl⟩]
theorem CM.cl0 (Q : CM h (x + 107) (r, tl, tp, rf, ft, fp, sd) (M, mem, sh, ns, kd, cd) N (sl, nx, c, cr) (rn, rw_) (on_, ob)) {i : Nat} (hi : i < 32) : CM (sI h (x + 107 + 34) (8 * i) (-nI 1)) (x + 107) (r, tl, tp, rf, ft, fp, sd) (M, mem, sh, ns, kd, cd) (updN N (8 * i) 2) (sl, nx, c, cr) (rn, rw_) (on_, ob) ∧ FM x h (sI h (x + 107 + 34) (8 * i) (-nI 1)) := by
  refine ⟨Q.nc rfl rfl (fun b j _ q => by rw [hI_sI, if_neg (by omega)]) rfl (fun _ _ => rfl) (fun j hj => ?_), FM.sI (by omega) (by omega)⟩
  rw [hI_sI]
  by_cases c1 : j = 8 * i
  · subst c1
    rw [if_pos ⟨rfl, rfl⟩, mN_2 (updN_s _ _ _) (by omega) (by omega)]
  · rw [if_neg (by omega), Q.2.2.2.1 j hj]
    unfold mN
    rw [updN_o c1]
theorem okN.cl0 (okn : okN M mem sh N) (h8 : M ≤ 8) {i : Nat} (hi : i < 32) (h16 : 16 ≤ i) : okN M mem sh (updN N (8 * i) 2) := by
  have okp := okn.2.1 i hi
  refine okn.cell h8 hi (fun j q => updN_o (by omega)) ?_ ?_ (fun z => by omega) (fun _ => updN_s _ _ _)
  · unfold okP
    rw [updN_s, updN_o (by omega), updN_o (by omega), updN_o (by omega), updN_o (by omega), updN_o (by omega), updN_o (by omega)]
    exact ⟨by omega, okp.2⟩
  · rw [updN_o (by omega)]; exact okn.1 _
theorem S_take (C : CX h x (r, tl, tp, rf, ft, fp, sd) (M, mem, sh, ns, kd, cd) N (sl, nx, c, cr) (rn, rw_) (on_, ob)) (Q : CM h (x + 107) (r, tl, tp, rf, ft, fp, sd) (M, mem, sh, ns, kd, cd) N (sl, nx, c, cr) (rn, rw_) (on_, ob)) (O : Ok (r, tl, tp, rf, ft, fp, sd) (M, mem, sh, ns, kd, cd) N (sl, nx, c, cr) (rn, rw_) (on_, ob)) (p w u : Int32) : SM Int32 x h (f_X11_take x p w u) (f_X12_take (x + 107) p w u) := by
  have S := C.1
  have W := S.now
  have dn := c_deny (k := 4) S (by omega)
  have s4 := O.sh4
  by_cases hu : r = 1 ∧ ∃ k, k < 16 ∧ u = nI k
  · obtain ⟨hr, k, hk, rfl⟩ := hu
    have c1 := C.ip hr hk
    by_cases hp : ∃ s, s < sh ∧ p = nI s
    · obtain ⟨s, hs, rfl⟩ := hp
      have c3 := C.is O hs
      have okn := O.okn hr
      rcases pk_ix w (n := 4) (by omega) with hw | hw | ⟨q, hq, rfl⟩
      · refine glueR (k := 4) (v := nI 0) C Q O (by omega) ?_ (fun g1 Q1 => ?_)
        · simp (disch := omega) only [nm, bd_s, ko_K, ka_K, koK_t, kaK_t, kr_s, kn_s, kn_n, hK_sI, hR_sI, hK_sL, hR_sL, hI_sL, hL_sI, hL_sL, hI_sI, hN_sI, hN_sL, ch_G, ch_T, nb_0, nb_1, zb_G, d_T, d_F, d_eT, d_eF, b2i_t, b2i_f, tn_nI, fa_lit, fa_litL, m1_e, nI_add, pk_mul, pk_sub, nI_leI, nI_ltI, nI_eq, le_T, le_F, lt_T, lt_F, eq_T, eq_F, if_pos, if_neg, m1_le, m1_lt', m1_gt, m1_le', m1_eq, m1_qe, b2i_eq0, in_N, in_n, in_I, ↓reduceIte, Bool.true_eq_false, Bool.false_eq_true, reduceCtorEq, decide_eq_true_eq, decide_eq_false_iff_not, Nat.not_lt, Nat.not_le, not_true_eq_false, not_false_eq_true, true_and, and_true, and_self, false_and, and_false, true_or, or_true, false_or, or_false, f_X11_take_36, f_X11_take, f_X11_isPlace_22, f_X11_isPlace_21, f_X11_isPlace, S.k0, c3, ng_lt' hw, ng_le' hw, ng_le hw, ng_lt hw, ng_eq hw, ng_qe hw, in_g hw, in_gN hw, dn]
        · have T1 := Q1.1
          have c2 := Q1.ip hr hk
          have c4 := Q1.is O hs
          have rfm := m_isRefused (k := 4) T1 (by omega)
          simp (disch := omega) only [nm, bd_s, ko_K, ka_K, koK_t, kaK_t, kr_s, kn_s, kn_n, hK_sI, hR_sI, hK_sL, hR_sL, hI_sL, hL_sI, hL_sL, hI_sI, hN_sI, hN_sL, ch_G, ch_T, nb_0, nb_1, zb_G, d_T, d_F, d_eT, d_eF, b2i_t, b2i_f, tn_nI, fa_lit, fa_litL, m1_e, nI_add, pk_mul, pk_sub, nI_leI, nI_ltI, nI_eq, le_T, le_F, lt_T, lt_F, eq_T, eq_F, if_pos, if_neg, m1_le, m1_lt', m1_gt, m1_le', m1_eq, m1_qe, b2i_eq0, in_N, in_n, in_I, ↓reduceIte, Bool.true_eq_false, Bool.false_eq_true, reduceCtorEq, decide_eq_true_eq, decide_eq_false_iff_not, Nat.not_lt, Nat.not_le, not_true_eq_false, not_false_eq_true, true_and, and_true, and_self, false_and, and_false, true_or, or_true, false_or, or_false, f_X12_take_44, f_X12_take, T1.k, c2, c4, ng_lt' hw, ng_le' hw, ng_le hw, ng_lt hw, ng_eq hw, ng_qe hw, in_g hw, in_gN hw, rfm]
      · refine glueR (k := 4) (v := nI 0) C Q O (by omega) ?_ (fun g1 Q1 => ?_)
        · simp (disch := omega) only [nm, bd_s, ko_K, ka_K, koK_t, kaK_t, kr_s, kn_s, kn_n, hK_sI, hR_sI, hK_sL, hR_sL, hI_sL, hL_sI, hL_sL, hI_sI, hN_sI, hN_sL, ch_G, ch_T, nb_0, nb_1, zb_G, d_T, d_F, d_eT, d_eF, b2i_t, b2i_f, tn_nI, fa_lit, fa_litL, m1_e, nI_add, pk_mul, pk_sub, nI_leI, nI_ltI, nI_eq, le_T, le_F, lt_T, lt_F, eq_T, eq_F, if_pos, if_neg, m1_le, m1_lt', m1_gt, m1_le', m1_eq, m1_qe, b2i_eq0, in_N, in_n, in_I, ↓reduceIte, Bool.true_eq_false, Bool.false_eq_true, reduceCtorEq, decide_eq_true_eq, decide_eq_false_iff_not, Nat.not_lt, Nat.not_le, not_true_eq_false, not_false_eq_true, true_and, and_true, and_self, false_and, and_false, true_or, or_true, false_or, or_false, f_X11_take_36, f_X11_take, f_X11_isPlace_22, f_X11_isPlace_21, f_X11_isPlace, S.k0, c3, bg_lt hw, bg_ge hw, dn]
        · have T1 := Q1.1
          have c2 := Q1.ip hr hk
          have c4 := Q1.is O hs
          have rfm := m_isRefused (k := 4) T1 (by omega)
          simp (disch := omega) only [nm, bd_s, ko_K, ka_K, koK_t, kaK_t, kr_s, kn_s, kn_n, hK_sI, hR_sI, hK_sL, hR_sL, hI_sL, hL_sI, hL_sL, hI_sI, hN_sI, hN_sL, ch_G, ch_T, nb_0, nb_1, zb_G, d_T, d_F, d_eT, d_eF, b2i_t, b2i_f, tn_nI, fa_lit, fa_litL, m1_e, nI_add, pk_mul, pk_sub, nI_leI, nI_ltI, nI_eq, le_T, le_F, lt_T, lt_F, eq_T, eq_F, if_pos, if_neg, m1_le, m1_lt', m1_gt, m1_le', m1_eq, m1_qe, b2i_eq0, in_N, in_n, in_I, ↓reduceIte, Bool.true_eq_false, Bool.false_eq_true, reduceCtorEq, decide_eq_true_eq, decide_eq_false_iff_not, Nat.not_lt, Nat.not_le, not_true_eq_false, not_false_eq_true, true_and, and_true, and_self, false_and, and_false, true_or, or_true, false_or, or_false, f_X12_take_44, f_X12_take, T1.k, c2, c4, in_bN hw, rfm]
      · have e1 : 16 + s * 4 + q = 16 + (4 * s + q) := by omega
        have e2 : 128 + 8 * (4 * s + q) = 8 * (16 + (4 * s + q)) := by omega
        have i32 : 16 + (4 * s + q) < 32 := by omega
        have i16 : 16 ≤ 16 + (4 * s + q) := by omega
        generalize 16 + (4 * s + q) = i at e1 e2 i32 i16
        by_cases fl : N (8 * i) = 2
        · have p0 := C.2.2.2.1.e i32 fl
          refine glueR (k := 4) (v := nI 0) C Q O (by omega) ?_ (fun g1 Q1 => ?_)
          · simp (disch := omega) only [nm, bd_s, ko_K, ka_K, koK_t, kaK_t, kr_s, kn_s, kn_n, hK_sI, hR_sI, hK_sL, hR_sL, hI_sL, hL_sI, hL_sL, hI_sI, hN_sI, hN_sL, ch_G, ch_T, nb_0, nb_1, zb_G, d_T, d_F, d_eT, d_eF, b2i_t, b2i_f, tn_nI, fa_lit, fa_litL, m1_e, nI_add, pk_mul, pk_sub, nI_leI, nI_ltI, nI_eq, le_T, le_F, lt_T, lt_F, eq_T, eq_F, if_pos, if_neg, m1_le, m1_lt', m1_gt, m1_le', m1_eq, m1_qe, b2i_eq0, in_N, in_n, in_I, ↓reduceIte, Bool.true_eq_false, Bool.false_eq_true, reduceCtorEq, decide_eq_true_eq, decide_eq_false_iff_not, Nat.not_lt, Nat.not_le, not_true_eq_false, not_false_eq_true, true_and, and_true, and_self, false_and, and_false, true_or, or_true, false_or, or_false, f_X11_take_36, f_X11_take, f_X11_isPlace_22, f_X11_isPlace_21, f_X11_isPlace, f_X11_placeIndex, S.k0, S.r0_2, W.k, W.r0, W.k1, W.rp, W.kp, c3, c1, e1, p0, dn]
          · have T1 := Q1.1
            have c2 := Q1.ip hr hk
            have c4 := Q1.is O hs
            have m0 := Q1.e i32 fl
            have rfm := m_isRefused (k := 4) T1 (by omega)
            simp (disch := omega) only [nm, bd_s, ko_K, ka_K, koK_t, kaK_t, kr_s, kn_s, kn_n, hK_sI, hR_sI, hK_sL, hR_sL, hI_sL, hL_sI, hL_sL, hI_sI, hN_sI, hN_sL, ch_G, ch_T, nb_0, nb_1, zb_G, d_T, d_F, d_eT, d_eF, b2i_t, b2i_f, tn_nI, fa_lit, fa_litL, m1_e, nI_add, pk_mul, pk_sub, nI_leI, nI_ltI, nI_eq, le_T, le_F, lt_T, lt_F, eq_T, eq_F, if_pos, if_neg, m1_le, m1_lt', m1_gt, m1_le', m1_eq, m1_qe, b2i_eq0, in_N, in_n, in_I, ↓reduceIte, Bool.true_eq_false, Bool.false_eq_true, reduceCtorEq, decide_eq_true_eq, decide_eq_false_iff_not, Nat.not_lt, Nat.not_le, not_true_eq_false, not_false_eq_true, true_and, and_true, and_self, false_and, and_false, true_or, or_true, false_or, or_false, f_X12_take_44, f_X12_take, f_X12_shelfAt, T1.k, T1.r47, T1.k47, c2, c4, e2, m0, rfm]
        · have fl2 : N (8 * i) ≤ 1 := by have := (okn.2.1 i i32).1; omega
          have p0 := (C.2.2.2.1.cl i32 fl2).1
          have ok1 : okN M mem sh (cpN N (8 * i) (8 * k)) := okn.cp (O.okb hr).2.1 i32 (by omega) (fun _ => fl2) (by omega)
          refine glueA (N' := updN (cpN N (8 * i) (8 * k)) (8 * i) 2) (v := nI 1) C Q O hr (ok1.cl0 (O.okb hr).2.1 i32 i16) (fun h1 e3 C1 => ?_) (fun g g1 Q0 e3 Q1 => ?_)
          · have S1 := C1.1
            have W1 := S1.now
            obtain ⟨b1, C2, F2⟩ := C1.cp (i := i) (k := k) i32 (by omega) fl2
            obtain ⟨b3, C3, F3⟩ := C2.cl0 (i := i) i32
            have W2 := C2.1.now
            refine ⟨_, ?_, C3, F2.trans F3⟩
            simp (disch := omega) only [nm, bd_s, ko_K, ka_K, koK_t, kaK_t, kr_s, kn_s, kn_n, hK_sI, hR_sI, hK_sL, hR_sL, hI_sL, hL_sI, hL_sL, hI_sI, hN_sI, hN_sL, ch_G, ch_T, nb_0, nb_1, zb_G, d_T, d_F, d_eT, d_eF, b2i_t, b2i_f, tn_nI, fa_lit, fa_litL, m1_e, nI_add, pk_mul, pk_sub, nI_leI, nI_ltI, nI_eq, le_T, le_F, lt_T, lt_F, eq_T, eq_F, if_pos, if_neg, m1_le, m1_lt', m1_gt, m1_le', m1_eq, m1_qe, b2i_eq0, in_N, in_n, in_I, ↓reduceIte, Bool.true_eq_false, Bool.false_eq_true, reduceCtorEq, decide_eq_true_eq, decide_eq_false_iff_not, Nat.not_lt, Nat.not_le, not_true_eq_false, not_false_eq_true, true_and, and_true, and_self, false_and, and_false, true_or, or_true, false_or, or_false, f_X11_take_36, f_X11_take, f_X11_isPlace_22, f_X11_isPlace_21, f_X11_isPlace, f_X11_placeIndex, S.k0, S.r0_2, S.r0_4, S.k81, W.k, W.r0, W.k1, W.rp, W.kp, c3, c1, e1, p0, e3, S1.k0, S1.r0_2, W1.k, W1.r0, W1.k1, W1.rp, W1.kp, b1, W2.kp, b3]
          · have T0 := Q0.1
            have T1 := Q1.1
            have c2 := Q0.ip hr hk
            have c4 := Q0.is O hs
            have m0 := Q0.n (j := 8 * i) (by omega) (by omega)
            obtain ⟨b1, Q2, F2⟩ := Q1.cp (i := i) (k := k) i32 (by omega)
            obtain ⟨Q3, F3⟩ := Q2.cl0 (i := i) i32
            have T2 := Q2.1
            refine ⟨_, ?_, Q3, F2.trans F3⟩
            simp (disch := omega) only [nm, bd_s, ko_K, ka_K, koK_t, kaK_t, kr_s, kn_s, kn_n, hK_sI, hR_sI, hK_sL, hR_sL, hI_sL, hL_sI, hL_sL, hI_sI, hN_sI, hN_sL, ch_G, ch_T, nb_0, nb_1, zb_G, d_T, d_F, d_eT, d_eF, b2i_t, b2i_f, tn_nI, fa_lit, fa_litL, m1_e, nI_add, pk_mul, pk_sub, nI_leI, nI_ltI, nI_eq, le_T, le_F, lt_T, lt_F, eq_T, eq_F, if_pos, if_neg, m1_le, m1_lt', m1_gt, m1_le', m1_eq, m1_qe, b2i_eq0, in_N, in_n, in_I, ↓reduceIte, Bool.true_eq_false, Bool.false_eq_true, reduceCtorEq, decide_eq_true_eq, decide_eq_false_iff_not, Nat.not_lt, Nat.not_le, not_true_eq_false, not_false_eq_true, true_and, and_true, and_self, false_and, and_false, true_or, or_true, false_or, or_false, f_X12_take_44, f_X12_take, f_X12_shelfAt, T0.k, T0.r47, T0.k47, c2, c4, e2, m0, e3, T1.k, b1, T2.k, T2.r47, T2.k47]
    · have c3 := C.nsh O hp
      refine glueR (k := 4) (v := nI 0) C Q O (by omega) ?_ (fun g1 Q1 => ?_)
      · simp (disch := omega) only [nm, bd_s, ko_K, ka_K, koK_t, kaK_t, kr_s, kn_s, kn_n, hK_sI, hR_sI, hK_sL, hR_sL, hI_sL, hL_sI, hL_sL, hI_sI, hN_sI, hN_sL, ch_G, ch_T, nb_0, nb_1, zb_G, d_T, d_F, d_eT, d_eF, b2i_t, b2i_f, tn_nI, fa_lit, fa_litL, m1_e, nI_add, pk_mul, pk_sub, nI_leI, nI_ltI, nI_eq, le_T, le_F, lt_T, lt_F, eq_T, eq_F, if_pos, if_neg, m1_le, m1_lt', m1_gt, m1_le', m1_eq, m1_qe, b2i_eq0, in_N, in_n, in_I, ↓reduceIte, Bool.true_eq_false, Bool.false_eq_true, reduceCtorEq, decide_eq_true_eq, decide_eq_false_iff_not, Nat.not_lt, Nat.not_le, not_true_eq_false, not_false_eq_true, true_and, and_true, and_self, false_and, and_false, true_or, or_true, false_or, or_false, f_X11_take_36, f_X11_take, f_X11_isPlace_22, f_X11_isPlace_21, f_X11_isPlace, S.k0, c3, dn]
      · have T1 := Q1.1
        have c2 := Q1.ip hr hk
        have c4 := Q1.nsh O hp
        have rfm := m_isRefused (k := 4) T1 (by omega)
        simp (disch := omega) only [nm, bd_s, ko_K, ka_K, koK_t, kaK_t, kr_s, kn_s, kn_n, hK_sI, hR_sI, hK_sL, hR_sL, hI_sL, hL_sI, hL_sL, hI_sI, hN_sI, hN_sL, ch_G, ch_T, nb_0, nb_1, zb_G, d_T, d_F, d_eT, d_eF, b2i_t, b2i_f, tn_nI, fa_lit, fa_litL, m1_e, nI_add, pk_mul, pk_sub, nI_leI, nI_ltI, nI_eq, le_T, le_F, lt_T, lt_F, eq_T, eq_F, if_pos, if_neg, m1_le, m1_lt', m1_gt, m1_le', m1_eq, m1_qe, b2i_eq0, in_N, in_n, in_I, ↓reduceIte, Bool.true_eq_false, Bool.false_eq_true, reduceCtorEq, decide_eq_true_eq, decide_eq_false_iff_not, Nat.not_lt, Nat.not_le, not_true_eq_false, not_false_eq_true, true_and, and_true, and_self, false_and, and_false, true_or, or_true, false_or, or_false, f_X12_take_44, f_X12_take, T1.k, c2, c4, rfm]
  · have c1 := C.np O hu
    refine glueR (k := 4) (v := nI 0) C Q O (by omega) ?_ (fun g1 Q1 => ?_)
    · have ip : ∃ z : Bool, f_X11_isPlace x p w h = some (b2i z, h) := by
        by_cases hp : ∃ s, s < sh ∧ p = nI s
        · obtain ⟨s, hs, rfl⟩ := hp
          have c3 := C.is O hs
          rcases pk_ix w (n := 4) (by omega) with hw | hw | ⟨q, hq, rfl⟩
          · refine ⟨false, ?_⟩
            simp (disch := omega) only [nm, bd_s, ko_K, ka_K, koK_t, kaK_t, kr_s, kn_s, kn_n, hK_sI, hR_sI, hK_sL, hR_sL, hI_sL, hL_sI, hL_sL, hI_sI, hN_sI, hN_sL, ch_G, ch_T, nb_0, nb_1, zb_G, d_T, d_F, d_eT, d_eF, b2i_t, b2i_f, tn_nI, fa_lit, fa_litL, m1_e, nI_add, pk_mul, pk_sub, nI_leI, nI_ltI, nI_eq, le_T, le_F, lt_T, lt_F, eq_T, eq_F, if_pos, if_neg, m1_le, m1_lt', m1_gt, m1_le', m1_eq, m1_qe, b2i_eq0, in_N, in_n, in_I, ↓reduceIte, Bool.true_eq_false, Bool.false_eq_true, reduceCtorEq, decide_eq_true_eq, decide_eq_false_iff_not, Nat.not_lt, Nat.not_le, not_true_eq_false, not_false_eq_true, true_and, and_true, and_self, false_and, and_false, true_or, or_true, false_or, or_false, f_X11_isPlace_22, f_X11_isPlace_21, f_X11_isPlace, S.k0, c3, ng_lt' hw, ng_le' hw, ng_le hw, ng_lt hw, ng_eq hw, ng_qe hw, in_g hw, in_gN hw]
          · refine ⟨false, ?_⟩
            simp (disch := omega) only [nm, bd_s, ko_K, ka_K, koK_t, kaK_t, kr_s, kn_s, kn_n, hK_sI, hR_sI, hK_sL, hR_sL, hI_sL, hL_sI, hL_sL, hI_sI, hN_sI, hN_sL, ch_G, ch_T, nb_0, nb_1, zb_G, d_T, d_F, d_eT, d_eF, b2i_t, b2i_f, tn_nI, fa_lit, fa_litL, m1_e, nI_add, pk_mul, pk_sub, nI_leI, nI_ltI, nI_eq, le_T, le_F, lt_T, lt_F, eq_T, eq_F, if_pos, if_neg, m1_le, m1_lt', m1_gt, m1_le', m1_eq, m1_qe, b2i_eq0, in_N, in_n, in_I, ↓reduceIte, Bool.true_eq_false, Bool.false_eq_true, reduceCtorEq, decide_eq_true_eq, decide_eq_false_iff_not, Nat.not_lt, Nat.not_le, not_true_eq_false, not_false_eq_true, true_and, and_true, and_self, false_and, and_false, true_or, or_true, false_or, or_false, f_X11_isPlace_22, f_X11_isPlace_21, f_X11_isPlace, S.k0, c3, bg_lt hw, bg_ge hw]
          · refine ⟨true, ?_⟩
            simp (disch := omega) only [nm, bd_s, ko_K, ka_K, koK_t, kaK_t, kr_s, kn_s, kn_n, hK_sI, hR_sI, hK_sL, hR_sL, hI_sL, hL_sI, hL_sL, hI_sI, hN_sI, hN_sL, ch_G, ch_T, nb_0, nb_1, zb_G, d_T, d_F, d_eT, d_eF, b2i_t, b2i_f, tn_nI, fa_lit, fa_litL, m1_e, nI_add, pk_mul, pk_sub, nI_leI, nI_ltI, nI_eq, le_T, le_F, lt_T, lt_F, eq_T, eq_F, if_pos, if_neg, m1_le, m1_lt', m1_gt, m1_le', m1_eq, m1_qe, b2i_eq0, in_N, in_n, in_I, ↓reduceIte, Bool.true_eq_false, Bool.false_eq_true, reduceCtorEq, decide_eq_true_eq, decide_eq_false_iff_not, Nat.not_lt, Nat.not_le, not_true_eq_false, not_false_eq_true, true_and, and_true, and_self, false_and, and_false, true_or, or_true, false_or, or_false, f_X11_isPlace_22, f_X11_isPlace_21, f_X11_isPlace, S.k0, c3]
        · have c3 := C.nsh O hp
          refine ⟨false, ?_⟩
          simp (disch := omega) only [nm, bd_s, ko_K, ka_K, koK_t, kaK_t, kr_s, kn_s, kn_n, hK_sI, hR_sI, hK_sL, hR_sL, hI_sL, hL_sI, hL_sL, hI_sI, hN_sI, hN_sL, ch_G, ch_T, nb_0, nb_1, zb_G, d_T, d_F, d_eT, d_eF, b2i_t, b2i_f, tn_nI, fa_lit, fa_litL, m1_e, nI_add, pk_mul, pk_sub, nI_leI, nI_ltI, nI_eq, le_T, le_F, lt_T, lt_F, eq_T, eq_F, if_pos, if_neg, m1_le, m1_lt', m1_gt, m1_le', m1_eq, m1_qe, b2i_eq0, in_N, in_n, in_I, ↓reduceIte, Bool.true_eq_false, Bool.false_eq_true, reduceCtorEq, decide_eq_true_eq, decide_eq_false_iff_not, Nat.not_lt, Nat.not_le, not_true_eq_false, not_false_eq_true, true_and, and_true, and_self, false_and, and_false, true_or, or_true, false_or, or_false, f_X11_isPlace_22, f_X11_isPlace_21, f_X11_isPlace, S.k0, c3]
      obtain ⟨z, ip⟩ := ip
      cases z
      · simp (disch := omega) only [nm, bd_s, ko_K, ka_K, koK_t, kaK_t, kr_s, kn_s, kn_n, hK_sI, hR_sI, hK_sL, hR_sL, hI_sL, hL_sI, hL_sL, hI_sI, hN_sI, hN_sL, ch_G, ch_T, nb_0, nb_1, zb_G, d_T, d_F, d_eT, d_eF, b2i_t, b2i_f, tn_nI, fa_lit, fa_litL, m1_e, nI_add, pk_mul, pk_sub, nI_leI, nI_ltI, nI_eq, le_T, le_F, lt_T, lt_F, eq_T, eq_F, if_pos, if_neg, m1_le, m1_lt', m1_gt, m1_le', m1_eq, m1_qe, b2i_eq0, in_N, in_n, in_I, ↓reduceIte, Bool.true_eq_false, Bool.false_eq_true, reduceCtorEq, decide_eq_true_eq, decide_eq_false_iff_not, Nat.not_lt, Nat.not_le, not_true_eq_false, not_false_eq_true, true_and, and_true, and_self, false_and, and_false, true_or, or_true, false_or, or_false, f_X11_take_36, f_X11_take, S.k0, ip, dn]
      · simp (disch := omega) only [nm, bd_s, ko_K, ka_K, koK_t, kaK_t, kr_s, kn_s, kn_n, hK_sI, hR_sI, hK_sL, hR_sL, hI_sL, hL_sI, hL_sL, hI_sI, hN_sI, hN_sL, ch_G, ch_T, nb_0, nb_1, zb_G, d_T, d_F, d_eT, d_eF, b2i_t, b2i_f, tn_nI, fa_lit, fa_litL, m1_e, nI_add, pk_mul, pk_sub, nI_leI, nI_ltI, nI_eq, le_T, le_F, lt_T, lt_F, eq_T, eq_F, if_pos, if_neg, m1_le, m1_lt', m1_gt, m1_le', m1_eq, m1_qe, b2i_eq0, in_N, in_n, in_I, ↓reduceIte, Bool.true_eq_false, Bool.false_eq_true, reduceCtorEq, decide_eq_true_eq, decide_eq_false_iff_not, Nat.not_lt, Nat.not_le, not_true_eq_false, not_false_eq_true, true_and, and_true, and_self, false_and, and_false, true_or, or_true, false_or, or_false, f_X11_take_36, f_X11_take, S.k0, ip, c1, dn]
    · have T1 := Q1.1
      have c2 := Q1.np O hu
      have rfm := m_isRefused (k := 4) T1 (by omega)
      simp (disch := omega) only [nm, bd_s, ko_K, ka_K, koK_t, kaK_t, kr_s, kn_s, kn_n, hK_sI, hR_sI, hK_sL, hR_sL, hI_sL, hL_sI, hL_sL, hI_sI, hN_sI, hN_sL, ch_G, ch_T, nb_0, nb_1, zb_G, d_T, d_F, d_eT, d_eF, b2i_t, b2i_f, tn_nI, fa_lit, fa_litL, m1_e, nI_add, pk_mul, pk_sub, nI_leI, nI_ltI, nI_eq, le_T, le_F, lt_T, lt_F, eq_T, eq_F, if_pos, if_neg, m1_le, m1_lt', m1_gt, m1_le', m1_eq, m1_qe, b2i_eq0, in_N, in_n, in_I, ↓reduceIte, Bool.true_eq_false, Bool.false_eq_true, reduceCtorEq, decide_eq_true_eq, decide_eq_false_iff_not, Nat.not_lt, Nat.not_le, not_true_eq_false, not_false_eq_true, true_and, and_true, and_self, false_and, and_false, true_or, or_true, false_or, or_false, f_X12_take_44, f_X12_take, T1.k, c2, rfm]
end Sv
