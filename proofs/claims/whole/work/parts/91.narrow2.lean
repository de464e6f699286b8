section Nw2
variable {h : aH} {x r tl : Nat} {tp : Nat → Nat} {rf : Nat → Int32} {ft fp : Int32} {sd : Nat} {M mem sh : Nat} {ns : Nat → List Nat} {kd : Nat → Nat} {cd : Nat → List Nat} {N : tyN} {sl : Nat → tyN} {nx c cr : Nat} {rn : Nat} {rw_ : Nat → Nat} {on_ : Nat} {ob : Nat → Nat}
theorem kp_f {g : aH} {m nx c j : Nat} (h : ¬ j = 63) (h1 : ¬ j = 64) : hI (kpM g m nx c) m j = hI g m j := by
  unfold kpM; rw [hI_sI, if_neg (by omega), hI_fb, if_neg (by omega), hI_sI, if_neg (by omega)]
theorem CM.keep2 (Q : CM h (x + 107) (r, tl, tp, rf, ft, fp, sd) (M, mem, sh, ns, kd, cd) N (sl, nx, c, cr) (rn, rw_) (on_, ob)) (C : cD_ok nx c cr) : f_X12_keeps (x + 107) h = some ((), kpM h (x + 107) nx c) ∧ CM (kpM h (x + 107) nx c) (x + 107) (r, tl, tp, rf, ft, fp, sd) (M, mem, sh, ns, kd, cd) N (kpS sl nx N, nx1 nx, min 20 (c + 1), kpC nx cr) (rn, rw_) (on_, ob) ∧ FM x h (kpM h (x + 107) nx c) := by
  obtain ⟨h1, e1, q1, q2⟩ := Q.keep C
  have st : f_X12_keeps (x + 107) h = some ((), kpM h (x + 107) nx c) := m_keeps Q.1 Q.2.2.2.2.1.2.1 C.1 Q.2.2.2.2.1.1 C.2.2.2
  rw [st] at e1
  cases e1
  exact ⟨st, q1, q2⟩
theorem mCp_f {g : aH} {m a b i j : Nat} : hI (mCp g m a b i) m j = hI g m j := by unfold mCp; rw [hI_fb, if_neg (by omega)]
theorem lay_f {g : aH} {m k e b t M j : Nat} : hI (layM g m k e b t M) m j = hI g m j := by unfold layM; rw [hI_sI, if_neg (by omega), hI_sI, if_neg (by omega), hI_sI, if_neg (by omega)]
theorem S_narrow (C : CX h x (r, tl, tp, rf, ft, fp, sd) (M, mem, sh, ns, kd, cd) N (sl, nx, c, cr) (rn, rw_) (on_, ob)) (Q : CM h (x + 107) (r, tl, tp, rf, ft, fp, sd) (M, mem, sh, ns, kd, cd) N (sl, nx, c, cr) (rn, rw_) (on_, ob)) (O : Ok (r, tl, tp, rf, ft, fp, sd) (M, mem, sh, ns, kd, cd) N (sl, nx, c, cr) (rn, rw_) (on_, ob)) (p q w : Int32) : SM Int32 x h (f_X11_narrow x p q w) (f_X12_narrow (x + 107) p q w) := by
  have S := C.1
  have W := S.now
  have rfx := c_refuse (k := 3) S (by omega)
  by_cases hp : r = 1 ∧ ∃ k, k < 16 ∧ p = nI k
  · obtain ⟨hr, i, hi, rfl⟩ := hp
    obtain ⟨h4, h8, -⟩ := O.okb hr
    have c1 := C.ip hr hi
    have okn := O.okn hr
    have fl := okn.fl hi
    have okp := okn.2.1 i (by omega)
    have a4 := okp.2.1
    obtain ⟨a, ha, h9, A, B⟩ := C.run hr
    have b2 : hI h a 2 = nI M := B.2.1
    by_cases hq : r = 1 ∧ ∃ k, k < 16 ∧ q = nI k
    · obtain ⟨-, k, hk, rfl⟩ := hq
      have c3 := C.ip hr hk
      have flk := okn.fl hk
      by_cases us : (decide (N (8 * i) = 1) && decide (N (8 * i + 6) = 0)) = true
      · by_cases hw : ∃ l, N (8 * i + 1) + l ≤ 4096 ∧ w = nI l
        · obtain ⟨l, hl, rfl⟩ := hw
          have cn := c_canN C okn h4 h8 hi us hl
          have ex := lexN_le (N (8 * i + 1)) (N (8 * i + 1) + l) M
          have lx := lexN_ok (b := N (8 * i + 1)) (t := N (8 * i + 1) + l) (M := M) (by omega) hl h4 h8
          have nl := nw_len (b := N (8 * i + 1)) (t := N (8 * i + 1) + l) h4 (by omega) lx
          have ll := lnN_le h4 h8 okp.2.2.1 okp.2.2.2.2.2.1
          have bl := basN_lt M (N (8 * i + 2)) (N (8 * i + 3)) (N (8 * i + 1))
          have q1 := dnN_le (N (8 * i + 1)) (lexN (N (8 * i + 1)) (N (8 * i + 1) + l) M)
          have q2 := upN_le (N (8 * i + 1) + l) (lexN (N (8 * i + 1)) (N (8 * i + 1) + l) M)
          have q5 := le_upN (N (8 * i + 1) + l) (lexN (N (8 * i + 1)) (N (8 * i + 1) + l) M)
          have q3 := p2_le (show lexN (N (8 * i + 1)) (N (8 * i + 1) + l) M ≤ 13 by omega)
          have mm : ∀ g, CM g (x + 107) (r, tl, tp, rf, ft, fp, sd) (M, mem, sh, ns, kd, cd) N (sl, nx, c, cr) (rn, rw_) (on_, ob) → f_X12_baseOf (x + 107) (nI (8 * i)) g = some (nI (basN M (N (8 * i + 2)) (N (8 * i + 3)) (N (8 * i + 1))), g) ∧ f_X12_lengthOf (x + 107) (nI (8 * i)) g = some (nI (lnN M (N (8 * i + 2)) (N (8 * i + 3)) (N (8 * i + 4))), g) := by
            intro g G
            obtain ⟨z0, z1, z2, z3, z4, z5, z6⟩ := G.q (show i < 32 by omega) fl
            have m1 : hI g (x + 107 + 28) 4 = nI M := G.2.2.1.2.1
            have g1 := m_baseOf G.1 (k := 8 * i) (by omega)
            have g2 := m_lengthOf G.1 (k := 8 * i) (by omega)
            rw [m1, z1, z2, z3, bas_nI h4 h8 okp.2.2.1 okp.2.2.2.1 (by omega)] at g1
            rw [m1, z2, z3, z4, len_nI h4 h8 okp.2.2.1 okp.2.2.2.1] at g2
            exact ⟨g1, g2⟩
          by_cases cc : (decide (basN M (N (8 * i + 2)) (N (8 * i + 3)) (N (8 * i + 1)) ≤ dnN (N (8 * i + 1)) (lexN (N (8 * i + 1)) (N (8 * i + 1) + l) M)) && decide (upN (N (8 * i + 1) + l) (lexN (N (8 * i + 1)) (N (8 * i + 1) + l) M) ≤ basN M (N (8 * i + 2)) (N (8 * i + 3)) (N (8 * i + 1)) + lnN M (N (8 * i + 2)) (N (8 * i + 3)) (N (8 * i + 4)))) = true
          · rw [cc, b2i_t] at cn
            rw [Bool.and_eq_true, decide_eq_true_iff, decide_eq_true_iff] at cc
            obtain ⟨cc1, cc2⟩ := cc
            have okc := okn.cp h8 (i := i) (k := k) (by omega) (by omega) (fun _ => fl) (by omega)
            have e0 : cpN N (8 * i) (8 * k) (8 * k) = N (8 * i) := cpN_0 N
            have e1' : cpN N (8 * i) (8 * k) (8 * k + 1) = N (8 * i + 1) := cpN_i N (by omega)
            have okb := okc.bd h8 (k := k) (e := lexN (N (8 * i + 1)) (N (8 * i + 1) + l) M) (b := botN (N (8 * i + 1)) (lexN (N (8 * i + 1)) (N (8 * i + 1) + l) M) M) (t := topN (N (8 * i + 1) + l) (lexN (N (8 * i + 1)) (N (8 * i + 1) + l) M) M) hk ex (Nat.mod_lt _ (Nat.two_pow_pos M)) (Nat.mod_lt _ (Nat.two_pow_pos M)) nl.1
            obtain ⟨n1, n2, n3⟩ := O.n0
            obtain ⟨h1, e1, C1, F1⟩ := C.keep n2 n1
            refine glue Q (A' := (r, tl, tp, rf, ft, fp, sd)) (B' := (M, mem, sh, ns, kd, cd)) (N' := bdN (cpN N (8 * i) (8 * k)) k (lexN (N (8 * i + 1)) (N (8 * i + 1) + l) M) (botN (N (8 * i + 1)) (lexN (N (8 * i + 1)) (N (8 * i + 1) + l) M) M) (topN (N (8 * i + 1) + l) (lexN (N (8 * i + 1)) (N (8 * i + 1) + l) M) M)) (D' := (kpS sl nx N, nx1 nx, min 20 (c + 1), kpC nx cr)) (E' := (rn, rw_)) (F' := (on_, ob)) (v := nI (upN (N (8 * i + 1) + l) (lexN (N (8 * i + 1)) (N (8 * i + 1) + l) M) - dnN (N (8 * i + 1)) (lexN (N (8 * i + 1)) (N (8 * i + 1) + l) M))) ?_ (fun g Q0 => ?_) ?_
            · obtain ⟨s1, C2, F2⟩ := C1.cp (i := i) (k := k) (by omega) (by omega) fl
              obtain ⟨C3, F3⟩ := C2.bd (k := k) (a := N (8 * i + 1)) (t := N (8 * i + 1) + l) (by omega) (by rw [e0]; exact fl)
              have S1 := C1.1
              have W1 := S1.now
              have S2 := C2.1
              have W2 := S2.now
              have S3 := C3.1
              have W3 := S3.now
              obtain ⟨a', ha', h9', A', B'⟩ := C2.run hr
              have b2' : hI (cpP h1 (x + 3 + 7 + k) (x + 3 + 7 + i)) a' 2 = nI M := B'.2.1
              obtain ⟨a3, ha3, h93, A3, B3⟩ := C3.run hr
              have b23 : hI (carX (cpP h1 (x + 3 + 7 + k) (x + 3 + 7 + i)) (x + 3 + 7 + k) M (N (8 * i + 1)) (N (8 * i + 1) + l)) a3 2 = nI M := B3.2.1
              have p22 := (C2.2.2.2.1.cl (show k < 32 by omega) (by rw [e0]; exact fl)).2.2.1
              rw [e1'] at p22
              have cr := c_carry (h := cpP h1 (x + 3 + 7 + k) (x + 3 + 7 + i)) (W2.kp (k := k) (by omega)) hl h4 h8
              have px := p_extent (W3.kp (k := k) (by omega)) (nI M)
              obtain ⟨-, -, -, y3, y4, y5, -, -⟩ := C3.2.2.2.1.cl (show k < 32 by omega) (by rw [bdN_o (by omega) (by omega) (by omega), e0]; exact fl)
              rw [bdN_2] at y3
              rw [bdN_3] at y4
              rw [bdN_4] at y5
              rw [y3, y4, y5, len_nI h4 h8 ex (show botN (N (8 * i + 1)) (lexN (N (8 * i + 1)) (N (8 * i + 1) + l) M) M < 2 ^ M from Nat.mod_lt _ (Nat.two_pow_pos M)), nl.2] at px
              refine ⟨_, ?_, C3, (F1.trans F2).trans F3⟩
              simp (disch := omega) only [nm, bd_s, ko_K, ka_K, koK_t, kaK_t, kr_s, kn_s, kn_n, hK_sI, hR_sI, hK_sL, hR_sL, hI_sL, hL_sI, hL_sL, hI_sI, hN_sI, hN_sL, ch_G, ch_T, nb_0, nb_1, zb_G, d_T, d_F, d_eT, d_eF, b2i_t, b2i_f, tn_nI, fa_lit, fa_litL, m1_e, nI_add, pk_mul, pk_sub, nI_leI, nI_ltI, nI_eq, le_T, le_F, lt_T, lt_F, eq_T, eq_F, if_pos, if_neg, m1_le, m1_lt', m1_gt, m1_le', m1_eq, m1_qe, b2i_eq0, in_N, in_n, in_I, ↓reduceIte, Bool.true_eq_false, Bool.false_eq_true, reduceCtorEq, decide_eq_true_eq, decide_eq_false_iff_not, Nat.not_lt, Nat.not_le, not_true_eq_false, not_false_eq_true, true_and, and_true, and_self, false_and, and_false, true_or, or_true, false_or, or_false, f_X11_narrow_39, f_X11_narrow, S.k0, S.r0_2, S.r0_4, S.k81, W.k, W.r0, W.k1, W.rp, W.kp, c1, c3, h9, A.k, b2, cn, e1, S1.k0, S1.r0_2, W1.k, W1.r0, W1.k1, W1.rp, W1.kp, s1, W2.kp, S2.k0, h9', A'.k, b2', p22, cr, S3.k0, h93, A3.k, b23, W3.kp, px]
            · have T0 := Q0.1
              have um := m_isOpen Q0 okn hr hi
              rw [us, b2i_t] at um
              have c4 := Q0.ip hr hk
              have z1 := (Q0.q (show i < 32 by omega) fl).2.1
              have bo := (mm g Q0).1
              have m1 : hI g (x + 107 + 28) 4 = nI M := Q0.2.2.1.2.1
              have en := m_encodes T0 m1 hl h4 h8
              obtain ⟨Q2, F2⟩ := Q0.enc (N (8 * i + 1)) (N (8 * i + 1) + l) (lexN (N (8 * i + 1)) (N (8 * i + 1) + l) M)
              have g52 := enc_52 g (x + 107) (N (8 * i + 1)) (N (8 * i + 1) + l) (lexN (N (8 * i + 1)) (N (8 * i + 1) + l) M)
              have g53 := enc_53 g (x + 107) (N (8 * i + 1)) (N (8 * i + 1) + l) (lexN (N (8 * i + 1)) (N (8 * i + 1) + l) M)
              have g54 := enc_54 g (x + 107) (N (8 * i + 1)) (N (8 * i + 1) + l) (lexN (N (8 * i + 1)) (N (8 * i + 1) + l) M)
              generalize encM g (x + 107) (N (8 * i + 1)) (N (8 * i + 1) + l) (lexN (N (8 * i + 1)) (N (8 * i + 1) + l) M) = g2 at *
              have T2 := Q2.1
              have lo := (mm g2 Q2).2
              obtain ⟨s3, Q3, F3⟩ := Q2.keep2 C.dok
              have T3 := Q3.1
              obtain ⟨s4, Q4, F4⟩ := Q3.cp (i := i) (k := k) (by omega) (by omega)
              have T4 := Q4.1
              have f52 : hI (mCp (kpM g2 (x + 107) nx c) (x + 107) (8 * i) (8 * k) 8) (x + 107) 52 = nI (lexN (N (8 * i + 1)) (N (8 * i + 1) + l) M) := by rw [mCp_f, kp_f (by omega) (by omega)]; exact g52
              have f53 : hI (mCp (kpM g2 (x + 107) nx c) (x + 107) (8 * i) (8 * k) 8) (x + 107) 53 = nI (dnN (N (8 * i + 1)) (lexN (N (8 * i + 1)) (N (8 * i + 1) + l) M)) := by rw [mCp_f, kp_f (by omega) (by omega)]; exact g53
              have f54 : hI (mCp (kpM g2 (x + 107) nx c) (x + 107) (8 * i) (8 * k) 8) (x + 107) 54 = nI (upN (N (8 * i + 1) + l) (lexN (N (8 * i + 1)) (N (8 * i + 1) + l) M)) := by rw [mCp_f, kp_f (by omega) (by omega)]; exact g54
              have m4 : hI (mCp (kpM g2 (x + 107) nx c) (x + 107) (8 * i) (8 * k) 8) (x + 107 + 28) 4 = nI M := Q4.2.2.1.2.1
              have lb := m_laysBounds T4 (k := 8 * k) (by omega) m4 h8 f52 f53 f54 (by omega) hl (by omega)
              obtain ⟨Q5, F5⟩ := Q4.bd (k := k) (e := lexN (N (8 * i + 1)) (N (8 * i + 1) + l) M) (b := N (8 * i + 1)) (t := N (8 * i + 1) + l) (by omega)
              have T5 := Q5.1
              have y53 : hI (layM (mCp (kpM g2 (x + 107) nx c) (x + 107) (8 * i) (8 * k) 8) (x + 107) (8 * k) (lexN (N (8 * i + 1)) (N (8 * i + 1) + l) M) (N (8 * i + 1)) (N (8 * i + 1) + l) M) (x + 107) 53 = _ := lay_f.trans f53
              have y54 : hI (layM (mCp (kpM g2 (x + 107) nx c) (x + 107) (8 * i) (8 * k) 8) (x + 107) (8 * k) (lexN (N (8 * i + 1)) (N (8 * i + 1) + l) M) (N (8 * i + 1)) (N (8 * i + 1) + l) M) (x + 107) 54 = _ := lay_f.trans f54
              refine ⟨_, ?_, Q5, ((F2.trans F3).trans F4).trans F5⟩
              generalize layM (mCp (kpM g2 (x + 107) nx c) (x + 107) (8 * i) (8 * k) 8) (x + 107) (8 * k) (lexN (N (8 * i + 1)) (N (8 * i + 1) + l) M) (N (8 * i + 1)) (N (8 * i + 1) + l) M = g5 at *
              generalize mCp (kpM g2 (x + 107) nx c) (x + 107) (8 * i) (8 * k) 8 = g4 at *
              generalize kpM g2 (x + 107) nx c = g3 at *
              simp (disch := omega) only [nm, bd_s, ko_K, ka_K, koK_t, kaK_t, kr_s, kn_s, kn_n, hK_sI, hR_sI, hK_sL, hR_sL, hI_sL, hL_sI, hL_sL, hI_sI, hN_sI, hN_sL, ch_G, ch_T, nb_0, nb_1, zb_G, d_T, d_F, d_eT, d_eF, b2i_t, b2i_f, tn_nI, fa_lit, fa_litL, m1_e, nI_add, pk_mul, pk_sub, nI_leI, nI_ltI, nI_eq, le_T, le_F, lt_T, lt_F, eq_T, eq_F, if_pos, if_neg, m1_le, m1_lt', m1_gt, m1_le', m1_eq, m1_qe, b2i_eq0, in_N, in_n, in_I, ↓reduceIte, Bool.true_eq_false, Bool.false_eq_true, reduceCtorEq, decide_eq_true_eq, decide_eq_false_iff_not, Nat.not_lt, Nat.not_le, not_true_eq_false, not_false_eq_true, true_and, and_true, and_self, false_and, and_false, true_or, or_true, false_or, or_false, f_X12_narrow_36, f_X12_narrow_95, f_X12_narrow, T0.k, T0.r47, T0.k47, um, c4, z1, m_areBounds_t hl, bo, en, T2.k, g53, g54, lo, s3, T3.k, s4, T4.k, lb, T5.k, y53, y54]
            · have okd := O.keep hr C.dok
              have okb' := O.okb hr
              obtain ⟨o1, o2, o3, -⟩ := O
              exact ⟨o1, o2, o3, Or.inr ⟨hr, okb', okb, okd⟩⟩
          · have cc := ts_nt cc
            rw [cc, b2i_f] at cn
            refine glue Q ⟨rfX h x 3, ?_, C.rfd (by omega)⟩ (fun g Q0 => ?_) O.rfd (v := -nI 1)
            · simp (disch := omega) only [nm, bd_s, ko_K, ka_K, koK_t, kaK_t, kr_s, kn_s, kn_n, hK_sI, hR_sI, hK_sL, hR_sL, hI_sL, hL_sI, hL_sL, hI_sI, hN_sI, hN_sL, ch_G, ch_T, nb_0, nb_1, zb_G, d_T, d_F, d_eT, d_eF, b2i_t, b2i_f, tn_nI, fa_lit, fa_litL, m1_e, nI_add, pk_mul, pk_sub, nI_leI, nI_ltI, nI_eq, le_T, le_F, lt_T, lt_F, eq_T, eq_F, if_pos, if_neg, m1_le, m1_lt', m1_gt, m1_le', m1_eq, m1_qe, b2i_eq0, in_N, in_n, in_I, ↓reduceIte, Bool.true_eq_false, Bool.false_eq_true, reduceCtorEq, decide_eq_true_eq, decide_eq_false_iff_not, Nat.not_lt, Nat.not_le, not_true_eq_false, not_false_eq_true, true_and, and_true, and_self, false_and, and_false, true_or, or_true, false_or, or_false, f_X11_narrow_39, f_X11_narrow, S.k0, S.r0_2, W.k, W.r0, W.k1, W.rp, W.kp, c1, c3, h9, A.k, b2, cn, rfx]
            · have T0 := Q0.1
              have um := m_isOpen Q0 okn hr hi
              rw [us, b2i_t] at um
              have c4 := Q0.ip hr hk
              have z1 := (Q0.q (show i < 32 by omega) fl).2.1
              have bo := (mm g Q0).1
              have m1 : hI g (x + 107 + 28) 4 = nI M := Q0.2.2.1.2.1
              have en := m_encodes T0 m1 hl h4 h8
              obtain ⟨Q2, F2⟩ := Q0.enc (N (8 * i + 1)) (N (8 * i + 1) + l) (lexN (N (8 * i + 1)) (N (8 * i + 1) + l) M)
              have g53 := enc_53 g (x + 107) (N (8 * i + 1)) (N (8 * i + 1) + l) (lexN (N (8 * i + 1)) (N (8 * i + 1) + l) M)
              have g54 := enc_54 g (x + 107) (N (8 * i + 1)) (N (8 * i + 1) + l) (lexN (N (8 * i + 1)) (N (8 * i + 1) + l) M)
              generalize encM g (x + 107) (N (8 * i + 1)) (N (8 * i + 1) + l) (lexN (N (8 * i + 1)) (N (8 * i + 1) + l) M) = g2 at *
              have T2 := Q2.1
              have lo := (mm g2 Q2).2
              have rfm := m_refuses (k := 3) T2 (by omega)
              obtain ⟨Q3, F3⟩ := Q2.rfd (k := 3) (by omega)
              refine ⟨_, ?_, Q3, F2.trans F3⟩
              by_cases cd1 : basN M (N (8 * i + 2)) (N (8 * i + 3)) (N (8 * i + 1)) ≤ dnN (N (8 * i + 1)) (lexN (N (8 * i + 1)) (N (8 * i + 1) + l) M)
              · have cd2 : ¬ upN (N (8 * i + 1) + l) (lexN (N (8 * i + 1)) (N (8 * i + 1) + l) M) ≤ basN M (N (8 * i + 2)) (N (8 * i + 3)) (N (8 * i + 1)) + lnN M (N (8 * i + 2)) (N (8 * i + 3)) (N (8 * i + 4)) := fun y => by
                  rw [decide_eq_true cd1, decide_eq_true y] at cc; cases cc
                simp (disch := omega) only [nm, bd_s, ko_K, ka_K, koK_t, kaK_t, kr_s, kn_s, kn_n, hK_sI, hR_sI, hK_sL, hR_sL, hI_sL, hL_sI, hL_sL, hI_sI, hN_sI, hN_sL, ch_G, ch_T, nb_0, nb_1, zb_G, d_T, d_F, d_eT, d_eF, b2i_t, b2i_f, tn_nI, fa_lit, fa_litL, m1_e, nI_add, pk_mul, pk_sub, nI_leI, nI_ltI, nI_eq, le_T, le_F, lt_T, lt_F, eq_T, eq_F, if_pos, if_neg, m1_le, m1_lt', m1_gt, m1_le', m1_eq, m1_qe, b2i_eq0, in_N, in_n, in_I, ↓reduceIte, Bool.true_eq_false, Bool.false_eq_true, reduceCtorEq, decide_eq_true_eq, decide_eq_false_iff_not, Nat.not_lt, Nat.not_le, not_true_eq_false, not_false_eq_true, true_and, and_true, and_self, false_and, and_false, true_or, or_true, false_or, or_false, f_X12_narrow_36, f_X12_narrow_95, f_X12_narrow, T0.k, T0.r47, T0.k47, um, c4, z1, m_areBounds_t hl, bo, en, T2.k, g53, g54, lo, rfm]
              · simp (disch := omega) only [nm, bd_s, ko_K, ka_K, koK_t, kaK_t, kr_s, kn_s, kn_n, hK_sI, hR_sI, hK_sL, hR_sL, hI_sL, hL_sI, hL_sL, hI_sI, hN_sI, hN_sL, ch_G, ch_T, nb_0, nb_1, zb_G, d_T, d_F, d_eT, d_eF, b2i_t, b2i_f, tn_nI, fa_lit, fa_litL, m1_e, nI_add, pk_mul, pk_sub, nI_leI, nI_ltI, nI_eq, le_T, le_F, lt_T, lt_F, eq_T, eq_F, if_pos, if_neg, m1_le, m1_lt', m1_gt, m1_le', m1_eq, m1_qe, b2i_eq0, in_N, in_n, in_I, ↓reduceIte, Bool.true_eq_false, Bool.false_eq_true, reduceCtorEq, decide_eq_true_eq, decide_eq_false_iff_not, Nat.not_lt, Nat.not_le, not_true_eq_false, not_false_eq_true, true_and, and_true, and_self, false_and, and_false, true_or, or_true, false_or, or_false, f_X12_narrow_36, f_X12_narrow_95, f_X12_narrow, T0.k, T0.r47, T0.k47, um, c4, z1, m_areBounds_t hl, bo, en, T2.k, g53, rfm]
        · have cn := c_canN_f C okn hi (Or.inr hw)
          refine glueR (k := 3) (v := -nI 1) C Q O (by omega) ?_ (fun g1 Q1 => ?_)
          · simp (disch := omega) only [nm, bd_s, ko_K, ka_K, koK_t, kaK_t, kr_s, kn_s, kn_n, hK_sI, hR_sI, hK_sL, hR_sL, hI_sL, hL_sI, hL_sL, hI_sI, hN_sI, hN_sL, ch_G, ch_T, nb_0, nb_1, zb_G, d_T, d_F, d_eT, d_eF, b2i_t, b2i_f, tn_nI, fa_lit, fa_litL, m1_e, nI_add, pk_mul, pk_sub, nI_leI, nI_ltI, nI_eq, le_T, le_F, lt_T, lt_F, eq_T, eq_F, if_pos, if_neg, m1_le, m1_lt', m1_gt, m1_le', m1_eq, m1_qe, b2i_eq0, in_N, in_n, in_I, ↓reduceIte, Bool.true_eq_false, Bool.false_eq_true, reduceCtorEq, decide_eq_true_eq, decide_eq_false_iff_not, Nat.not_lt, Nat.not_le, not_true_eq_false, not_false_eq_true, true_and, and_true, and_self, false_and, and_false, true_or, or_true, false_or, or_false, f_X11_narrow_39, f_X11_narrow, S.k0, S.r0_2, W.k, W.r0, W.k1, W.rp, W.kp, c1, c3, h9, A.k, b2, cn, rfx]
          · have T1 := Q1.1
            have um := m_isOpen Q1 okn hr hi
            rw [us, b2i_t] at um
            have c4 := Q1.ip hr hk
            have z1 := (Q1.q (show i < 32 by omega) fl).2.1
            have rfm := m_refuses (k := 3) T1 (by omega)
            have ab := m_areBounds_f (h := g1) (m := x + 107) (p := nI (N (8 * i + 1))) (q := w) (by
              rintro ⟨b, l, y1, y2, y3⟩
              rw [nI_eq (by omega) (by omega)] at y2
              exact hw ⟨l, by omega, y3⟩)
            simp (disch := omega) only [nm, bd_s, ko_K, ka_K, koK_t, kaK_t, kr_s, kn_s, kn_n, hK_sI, hR_sI, hK_sL, hR_sL, hI_sL, hL_sI, hL_sL, hI_sI, hN_sI, hN_sL, ch_G, ch_T, nb_0, nb_1, zb_G, d_T, d_F, d_eT, d_eF, b2i_t, b2i_f, tn_nI, fa_lit, fa_litL, m1_e, nI_add, pk_mul, pk_sub, nI_leI, nI_ltI, nI_eq, le_T, le_F, lt_T, lt_F, eq_T, eq_F, if_pos, if_neg, m1_le, m1_lt', m1_gt, m1_le', m1_eq, m1_qe, b2i_eq0, in_N, in_n, in_I, ↓reduceIte, Bool.true_eq_false, Bool.false_eq_true, reduceCtorEq, decide_eq_true_eq, decide_eq_false_iff_not, Nat.not_lt, Nat.not_le, not_true_eq_false, not_false_eq_true, true_and, and_true, and_self, false_and, and_false, true_or, or_true, false_or, or_false, f_X12_narrow_36, f_X12_narrow_95, f_X12_narrow, T1.k, T1.r47, T1.k47, um, c4, z1, ab, rfm]
      · have cn := c_canN_f (w := w) C okn hi (Or.inl (ts_nt us))
        refine glueR (k := 3) (v := -nI 1) C Q O (by omega) ?_ (fun g1 Q1 => ?_)
        · simp (disch := omega) only [nm, bd_s, ko_K, ka_K, koK_t, kaK_t, kr_s, kn_s, kn_n, hK_sI, hR_sI, hK_sL, hR_sL, hI_sL, hL_sI, hL_sL, hI_sI, hN_sI, hN_sL, ch_G, ch_T, nb_0, nb_1, zb_G, d_T, d_F, d_eT, d_eF, b2i_t, b2i_f, tn_nI, fa_lit, fa_litL, m1_e, nI_add, pk_mul, pk_sub, nI_leI, nI_ltI, nI_eq, le_T, le_F, lt_T, lt_F, eq_T, eq_F, if_pos, if_neg, m1_le, m1_lt', m1_gt, m1_le', m1_eq, m1_qe, b2i_eq0, in_N, in_n, in_I, ↓reduceIte, Bool.true_eq_false, Bool.false_eq_true, reduceCtorEq, decide_eq_true_eq, decide_eq_false_iff_not, Nat.not_lt, Nat.not_le, not_true_eq_false, not_false_eq_true, true_and, and_true, and_self, false_and, and_false, true_or, or_true, false_or, or_false, f_X11_narrow_39, f_X11_narrow, S.k0, S.r0_2, W.k, W.r0, W.k1, W.rp, W.kp, c1, c3, h9, A.k, b2, cn, rfx]
        · have T1 := Q1.1
          have um := m_isOpen Q1 okn hr hi
          rw [ts_nt us, b2i_f] at um
          have rfm := m_refuses (k := 3) T1 (by omega)
          simp (disch := omega) only [nm, bd_s, ko_K, ka_K, koK_t, kaK_t, kr_s, kn_s, kn_n, hK_sI, hR_sI, hK_sL, hR_sL, hI_sL, hL_sI, hL_sL, hI_sI, hN_sI, hN_sL, ch_G, ch_T, nb_0, nb_1, zb_G, d_T, d_F, d_eT, d_eF, b2i_t, b2i_f, tn_nI, fa_lit, fa_litL, m1_e, nI_add, pk_mul, pk_sub, nI_leI, nI_ltI, nI_eq, le_T, le_F, lt_T, lt_F, eq_T, eq_F, if_pos, if_neg, m1_le, m1_lt', m1_gt, m1_le', m1_eq, m1_qe, b2i_eq0, in_N, in_n, in_I, ↓reduceIte, Bool.true_eq_false, Bool.false_eq_true, reduceCtorEq, decide_eq_true_eq, decide_eq_false_iff_not, Nat.not_lt, Nat.not_le, not_true_eq_false, not_false_eq_true, true_and, and_true, and_self, false_and, and_false, true_or, or_true, false_or, or_false, f_X12_narrow_36, f_X12_narrow_95, f_X12_narrow, T1.k, um, rfm]
    · have c3 := C.np O hq
      refine glueR (k := 3) (v := -nI 1) C Q O (by omega) ?_ (fun g1 Q1 => ?_)
      · simp (disch := omega) only [nm, bd_s, ko_K, ka_K, koK_t, kaK_t, kr_s, kn_s, kn_n, hK_sI, hR_sI, hK_sL, hR_sL, hI_sL, hL_sI, hL_sL, hI_sI, hN_sI, hN_sL, ch_G, ch_T, nb_0, nb_1, zb_G, d_T, d_F, d_eT, d_eF, b2i_t, b2i_f, tn_nI, fa_lit, fa_litL, m1_e, nI_add, pk_mul, pk_sub, nI_leI, nI_ltI, nI_eq, le_T, le_F, lt_T, lt_F, eq_T, eq_F, if_pos, if_neg, m1_le, m1_lt', m1_gt, m1_le', m1_eq, m1_qe, b2i_eq0, in_N, in_n, in_I, ↓reduceIte, Bool.true_eq_false, Bool.false_eq_true, reduceCtorEq, decide_eq_true_eq, decide_eq_false_iff_not, Nat.not_lt, Nat.not_le, not_true_eq_false, not_false_eq_true, true_and, and_true, and_self, false_and, and_false, true_or, or_true, false_or, or_false, f_X11_narrow_39, f_X11_narrow, S.k0, c1, c3, rfx]
      · have T1 := Q1.1
        have um := m_isOpen Q1 okn hr hi
        have c4 := Q1.np O hq
        have rfm := m_refuses (k := 3) T1 (by omega)
        generalize (decide (N (8 * i) = 1) && decide (N (8 * i + 6) = 0)) = z1 at *
        cases z1
        · simp (disch := omega) only [nm, bd_s, ko_K, ka_K, koK_t, kaK_t, kr_s, kn_s, kn_n, hK_sI, hR_sI, hK_sL, hR_sL, hI_sL, hL_sI, hL_sL, hI_sI, hN_sI, hN_sL, ch_G, ch_T, nb_0, nb_1, zb_G, d_T, d_F, d_eT, d_eF, b2i_t, b2i_f, tn_nI, fa_lit, fa_litL, m1_e, nI_add, pk_mul, pk_sub, nI_leI, nI_ltI, nI_eq, le_T, le_F, lt_T, lt_F, eq_T, eq_F, if_pos, if_neg, m1_le, m1_lt', m1_gt, m1_le', m1_eq, m1_qe, b2i_eq0, in_N, in_n, in_I, ↓reduceIte, Bool.true_eq_false, Bool.false_eq_true, reduceCtorEq, decide_eq_true_eq, decide_eq_false_iff_not, Nat.not_lt, Nat.not_le, not_true_eq_false, not_false_eq_true, true_and, and_true, and_self, false_and, and_false, true_or, or_true, false_or, or_false, f_X12_narrow_36, f_X12_narrow_95, f_X12_narrow, T1.k, um, rfm]
        · simp (disch := omega) only [nm, bd_s, ko_K, ka_K, koK_t, kaK_t, kr_s, kn_s, kn_n, hK_sI, hR_sI, hK_sL, hR_sL, hI_sL, hL_sI, hL_sL, hI_sI, hN_sI, hN_sL, ch_G, ch_T, nb_0, nb_1, zb_G, d_T, d_F, d_eT, d_eF, b2i_t, b2i_f, tn_nI, fa_lit, fa_litL, m1_e, nI_add, pk_mul, pk_sub, nI_leI, nI_ltI, nI_eq, le_T, le_F, lt_T, lt_F, eq_T, eq_F, if_pos, if_neg, m1_le, m1_lt', m1_gt, m1_le', m1_eq, m1_qe, b2i_eq0, in_N, in_n, in_I, ↓reduceIte, Bool.true_eq_false, Bool.false_eq_true, reduceCtorEq, decide_eq_true_eq, decide_eq_false_iff_not, Nat.not_lt, Nat.not_le, not_true_eq_false, not_false_eq_true, true_and, and_true, and_self, false_and, and_false, true_or, or_true, false_or, or_false, f_X12_narrow_36, f_X12_narrow_95, f_X12_narrow, T1.k, um, c4, rfm]
  · have c1 := C.np O hp
    refine glueR (k := 3) (v := -nI 1) C Q O (by omega) ?_ (fun g1 Q1 => ?_)
    · simp (disch := omega) only [nm, bd_s, ko_K, ka_K, koK_t, kaK_t, kr_s, kn_s, kn_n, hK_sI, hR_sI, hK_sL, hR_sL, hI_sL, hL_sI, hL_sL, hI_sI, hN_sI, hN_sL, ch_G, ch_T, nb_0, nb_1, zb_G, d_T, d_F, d_eT, d_eF, b2i_t, b2i_f, tn_nI, fa_lit, fa_litL, m1_e, nI_add, pk_mul, pk_sub, nI_leI, nI_ltI, nI_eq, le_T, le_F, lt_T, lt_F, eq_T, eq_F, if_pos, if_neg, m1_le, m1_lt', m1_gt, m1_le', m1_eq, m1_qe, b2i_eq0, in_N, in_n, in_I, ↓reduceIte, Bool.true_eq_false, Bool.false_eq_true, reduceCtorEq, decide_eq_true_eq, decide_eq_false_iff_not, Nat.not_lt, Nat.not_le, not_true_eq_false, not_false_eq_true, true_and, and_true, and_self, false_and, and_false, true_or, or_true, false_or, or_false, f_X11_narrow_39, f_X11_narrow, S.k0, c1, rfx]
    · have T1 := Q1.1
      have um := Q1.no O hp
      have rfm := m_refuses (k := 3) T1 (by omega)
      simp (disch := omega) only [nm, bd_s, ko_K, ka_K, koK_t, kaK_t, kr_s, kn_s, kn_n, hK_sI, hR_sI, hK_sL, hR_sL, hI_sL, hL_sI, hL_sL, hI_sI, hN_sI, hN_sL, ch_G, ch_T, nb_0, nb_1, zb_G, d_T, d_F, d_eT, d_eF, b2i_t, b2i_f, tn_nI, fa_lit, fa_litL, m1_e, nI_add, pk_mul, pk_sub, nI_leI, nI_ltI, nI_eq, le_T, le_F, lt_T, lt_F, eq_T, eq_F, if_pos, if_neg, m1_le, m1_lt', m1_gt, m1_le', m1_eq, m1_qe, b2i_eq0, in_N, in_n, in_I, ↓reduceIte, Bool.true_eq_false, Bool.false_eq_true, reduceCtorEq, decide_eq_true_eq, decide_eq_false_iff_not, Nat.not_lt, Nat.not_le, not_true_eq_false, not_false_eq_true, true_and, and_true, and_self, false_and, and_false, true_or, or_true, false_or, or_false, f_X12_narrow_36, f_X12_narrow_95, f_X12_narrow, T1.k, um, rfm]
end Nw2
