/-! on, the end -/
theorem c_ckT_lt {tp : Nat → Nat} (tb : ∀ j, tp j ≤ 255) {n : Nat} : ckN tp n < 251 := by
  unfold ckN
  have key : ∀ (k i s : Nat), s < 251 → itr (fun i s => (3 * s + tp i) % 251) k i s < 251 := by
    intro k
    induction k with
    | zero => intro i s hs; exact hs
    | succ k ih => intro i s _; exact ih (i + 1) _ (Nat.mod_lt _ (by omega))
  exact key n 0 149 (by omega)
section On5
variable {h : aH} {x r tl : Nat} {tp : Nat → Nat} {rf : Nat → Int32} {ft fp : Int32} {sd : Nat} {M mem sh : Nat} {ns : Nat → List Nat} {kd : Nat → Nat} {cd : Nat → List Nat} {N : tyN} {sl : Nat → tyN} {nx c cr : Nat} {rn : Nat} {rw_ : Nat → Nat} {on_ : Nat} {ob : Nat → Nat}
theorem m_layall {g : aH} (Q : CM g (x + 107) (r, 0, tp, rf, ft, fp, sd) (M, mem, sh, ns, kd, cd) N (sl, nx, c, cr) (rn, rw_) (on_, ob)) (O : Ok (r, tl, tp, rf, ft, fp, sd) (M, mem, sh, ns, kd, cd) N (sl, nx, c, cr) (rn, rw_) (on_, ob)) (hr : r = 1) (im : imP M mem sh kd tp tl) : ∃ h1, f_X12_on_37 FU (x + 107) (nI (16 + 4 * sh)) (nI 0) g = some (nI 1, h1) ∧ CM h1 (x + 107) (r, 0, tp, rf, ft, fp, sd) (M, mem, sh, ns, kd, cd) (onN sh tp N) (sl, nx, 0, cr) (rn, rw_) (on_, ob) ∧ FM x g h1 := by
  obtain ⟨i1, i2, i3, i4, i5, i6⟩ := im
  obtain ⟨hq4, hq8, -, mm, s4, -⟩ := O.okb hr
  have tb : ∀ j, tp j ≤ 255 := O.1.2.1
  have t16 : tl ≤ 1600 := O.1.1
  have T := Q.1
  have hb : ∀ j, j < 1600 → hI g (x + 107 + 1) j = nI (tp j) := Q.2.1.2.2.1
  have gN : ∀ j, j < 1498 → hI g (x + 107 + 34) j = mN N j := Q.2.2.2.1
  -- cells
  have cells : ∀ (j i n : Nat) (hh : aH), i + j = 16 + 4 * sh → LY g hh (x + 107) (onN sh tp N) (8 * i) → ∃ h1, f_X12_on_37 (n + 1 + j) (x + 107) (nI (16 + 4 * sh)) (nI i) hh = f_X12_on_37 (n + 1) (x + 107) (nI (16 + 4 * sh)) (nI (16 + 4 * sh)) h1 ∧ LY g h1 (x + 107) (onN sh tp N) (8 * (16 + 4 * sh)) := by
    intro j
    induction j with
    | zero =>
      intro i n hh hi L
      have hi : i = 16 + 4 * sh := by omega
      subst hi
      exact ⟨hh, rfl, L⟩
    | succ j ih =>
      intro i n hh hi L
      obtain ⟨h1, e1, L1⟩ := m_lay T hb tb (show i < 16 + 4 * sh by omega) (by omega) (i5 i (by omega)) gN L
      obtain ⟨h2, e2, L2⟩ := ih (i + 1) n h1 (by omega) L1
      refine ⟨h2, ?_, L2⟩
      rw [← e2]
      show f_X12_on_37 ((n + 1 + j) + 1) (x + 107) (nI (16 + 4 * sh)) (nI i) hh = _
      generalize n + 1 + j = m
      have T0 : MS hh (x + 107) := T.of L.1 L.2.1
      have e1 : f_X12_laysPointer (x + 107) (8 * nI i) (8 * nI i) hh = some ((), h1) := by rw [show (8 : Int32) * nI i = nI (8 * i) from pk_mul 8 i]; exact e1
      simp (disch := omega) only [nm, bd_s, ko_K, ka_K, koK_t, kaK_t, kr_s, kn_s, kn_n, hK_sI, hR_sI, hK_sL, hR_sL, hI_sL, hL_sI, hL_sL, hI_sI, hN_sI, hN_sL, ch_G, ch_T, nb_0, nb_1, zb_G, d_T, d_F, d_eT, d_eF, b2i_t, b2i_f, tn_nI, fa_lit, fa_litL, m1_e, nI_add, pk_mul, pk_sub, nI_leI, nI_ltI, nI_eq, le_T, le_F, lt_T, lt_F, eq_T, eq_F, if_pos, if_neg, m1_le, m1_lt', m1_gt, m1_le', m1_eq, m1_qe, b2i_eq0, in_N, in_n, in_I, ↓reduceIte, Bool.true_eq_false, Bool.false_eq_true, reduceCtorEq, decide_eq_true_eq, decide_eq_false_iff_not, Nat.not_lt, Nat.not_le, not_true_eq_false, not_false_eq_true, true_and, and_true, and_self, false_and, and_false, true_or, or_true, false_or, or_false, f_X12_on_37, b_X12_on_37, ↓ko_t T0.k, ↓bd_t e1]
  obtain ⟨g1, e1, L1⟩ := cells (16 + 4 * sh) 0 (FU - 1 - (16 + 4 * sh)) g (by omega) ⟨rfl, rfl, rfl, rfl, rfl, fun _ _ _ => rfl, fun j hj => by omega, fun _ _ => rfl⟩
  rw [← fu_n (by omega)] at e1
  obtain ⟨l1, l2, l3, l4, l5, l6, l7, l8⟩ := L1
  have T1 : MS g1 (x + 107) := T.of l1 l2
  have ho := (l6 (x + 107 + 1) (8 * (16 + 4 * sh)) (by omega)).trans (hb (8 * (16 + 4 * sh)) (by omega))
  obtain ⟨o, hoo⟩ : ∃ o, o = tp (8 * (16 + 4 * sh)) := ⟨_, rfl⟩
  rw [← hoo] at ho i2 i3
  obtain ⟨g2, hg2⟩ : ∃ g2, g2 = sI g1 (x + 107 + 34) 256 (nI o) := ⟨_, rfl⟩
  have T2 : MS g2 (x + 107) := by rw [hg2]; exact T1.of rfl rfl
  have c6 : hI g2 (x + 107 + 34) 256 = nI o := by rw [hg2, hI_sI, if_pos ⟨rfl, rfl⟩]
  have hb2 : ∀ j, j < 1600 → hI g2 (x + 107 + 1) j = nI (tp j) := fun j hj => by rw [hg2, hI_sI, if_neg (by omega)]; exact (l6 _ _ (by omega)).trans (hb j hj)
  have st2 : f_X12_on_37 (FU - 1 - (16 + 4 * sh) + 1) (x + 107) (nI (16 + 4 * sh)) (nI (16 + 4 * sh)) g1 = f_X12_on_79 FU (x + 107) (nI (16 + 4 * sh)) (nI 0) g2 := by
    generalize FU - 1 - (16 + 4 * sh) = m
    have f2 : sI g1 (x + 107 + 34) 256 (nI o) = g2 := hg2.symm
    simp (disch := omega) only [nm, bd_s, ko_K, ka_K, koK_t, kaK_t, kr_s, kn_s, kn_n, hK_sI, hR_sI, hK_sL, hR_sL, hI_sL, hL_sI, hL_sL, hI_sI, hN_sI, hN_sL, ch_G, ch_T, nb_0, nb_1, zb_G, d_T, d_F, d_eT, d_eF, b2i_t, b2i_f, tn_nI, fa_lit, fa_litL, m1_e, nI_add, pk_mul, pk_sub, nI_leI, nI_ltI, nI_eq, le_T, le_F, lt_T, lt_F, eq_T, eq_F, if_pos, if_neg, m1_le, m1_lt', m1_gt, m1_le', m1_eq, m1_qe, b2i_eq0, in_N, in_n, in_I, ↓reduceIte, Bool.true_eq_false, Bool.false_eq_true, reduceCtorEq, decide_eq_true_eq, decide_eq_false_iff_not, Nat.not_lt, Nat.not_le, not_true_eq_false, not_false_eq_true, true_and, and_true, and_self, false_and, and_false, true_or, or_true, false_or, or_false, f_X12_on_37, b_X12_on_37, ↓ko_t T1.k, ↓kr_t T1.r47, ↓kr_t T1.r0, ↓ka_t T1.k0, ↓ka_t T1.k47, ho, f2]
  -- objects
  have obj : ∀ (d t n : Nat), t + d = 3 * o → d < n → f_X12_on_79 n (x + 107) (nI (16 + 4 * sh)) (nI t) (fb g2 (x + 107 + 34) 257 t (fun j => nI (twT tp (8 * (16 + 4 * sh) + 1 + 2 * j)))) = f_X12_on_123 FU (x + 107) (nI 353) (fb g2 (x + 107 + 34) 257 (3 * o) (fun j => nI (twT tp (8 * (16 + 4 * sh) + 1 + 2 * j)))) := by
    intro d
    induction d with
    | zero =>
      intro t n ht hn
      obtain ⟨n, rfl⟩ : ∃ k, n = k + 1 := ⟨n - 1, by omega⟩
      have ht : t = 3 * o := by omega
      subst ht
      have G : MS (fb g2 (x + 107 + 34) 257 (3 * o) (fun j => nI (twT tp (8 * (16 + 4 * sh) + 1 + 2 * j)))) (x + 107) := T2.of rfl rfl
      have v6 : hI (fb g2 (x + 107 + 34) 257 (3 * o) (fun j => nI (twT tp (8 * (16 + 4 * sh) + 1 + 2 * j)))) (x + 107 + 34) 256 = nI o := by rw [hI_fb, if_neg (by omega)]; exact c6
      simp (disch := omega) only [nm, bd_s, ko_K, ka_K, koK_t, kaK_t, kr_s, kn_s, kn_n, hK_sI, hR_sI, hK_sL, hR_sL, hI_sL, hL_sI, hL_sL, hI_sI, hN_sI, hN_sL, ch_G, ch_T, nb_0, nb_1, zb_G, d_T, d_F, d_eT, d_eF, b2i_t, b2i_f, tn_nI, fa_lit, fa_litL, m1_e, nI_add, pk_mul, pk_sub, nI_leI, nI_ltI, nI_eq, le_T, le_F, lt_T, lt_F, eq_T, eq_F, if_pos, if_neg, m1_le, m1_lt', m1_gt, m1_le', m1_eq, m1_qe, b2i_eq0, in_N, in_n, in_I, ↓reduceIte, Bool.true_eq_false, Bool.false_eq_true, reduceCtorEq, decide_eq_true_eq, decide_eq_false_iff_not, Nat.not_lt, Nat.not_le, not_true_eq_false, not_false_eq_true, true_and, and_true, and_self, false_and, and_false, true_or, or_true, false_or, or_false, f_X12_on_79, b_X12_on_79, f_X12_objectMany, ↓ko_t G.k, ↓kr_t G.r47, ↓ka_t G.k47, v6]
    | succ d ih =>
      intro t n ht hn
      obtain ⟨n, rfl⟩ : ∃ k, n = k + 1 := ⟨n - 1, by omega⟩
      rw [← ih (t + 1) n (by omega) (by omega), ← fb_next]
      have G : MS (fb g2 (x + 107 + 34) 257 t (fun j => nI (twT tp (8 * (16 + 4 * sh) + 1 + 2 * j)))) (x + 107) := T2.of rfl rfl
      have v6 : hI (fb g2 (x + 107 + 34) 257 t (fun j => nI (twT tp (8 * (16 + 4 * sh) + 1 + 2 * j)))) (x + 107 + 34) 256 = nI o := by rw [hI_fb, if_neg (by omega)]; exact c6
      have hb3 : ∀ j, j < 1600 → hI (fb g2 (x + 107 + 34) 257 t (fun j => nI (twT tp (8 * (16 + 4 * sh) + 1 + 2 * j)))) (x + 107 + 1) j = nI (tp j) := fun j hj => by rw [hI_fb, if_neg (by omega)]; exact hb2 j hj
      have tw := m_two G hb3 (j := 8 * (16 + 4 * sh) + 1 + 2 * t) (by omega)
      generalize fb g2 (x + 107 + 34) 257 t (fun j => nI (twT tp (8 * (16 + 4 * sh) + 1 + 2 * j))) = gg at *
      have om : f_X12_objectMany (x + 107) gg = some (nI o, gg) := by simp (disch := omega) only [nm, bd_s, ko_K, ka_K, koK_t, kaK_t, kr_s, kn_s, kn_n, hK_sI, hR_sI, hK_sL, hR_sL, hI_sL, hL_sI, hL_sL, hI_sI, hN_sI, hN_sL, ch_G, ch_T, nb_0, nb_1, zb_G, d_T, d_F, d_eT, d_eF, b2i_t, b2i_f, tn_nI, fa_lit, fa_litL, m1_e, nI_add, pk_mul, pk_sub, nI_leI, nI_ltI, nI_eq, le_T, le_F, lt_T, lt_F, eq_T, eq_F, if_pos, if_neg, m1_le, m1_lt', m1_gt, m1_le', m1_eq, m1_qe, b2i_eq0, in_N, in_n, in_I, ↓reduceIte, Bool.true_eq_false, Bool.false_eq_true, reduceCtorEq, decide_eq_true_eq, decide_eq_false_iff_not, Nat.not_lt, Nat.not_le, not_true_eq_false, not_false_eq_true, true_and, and_true, and_self, false_and, and_false, true_or, or_true, false_or, or_false, f_X12_objectMany, G.k, G.r47, G.k47, v6]
      simp (disch := omega) only [nm, bd_s, ko_K, ka_K, koK_t, kaK_t, kr_s, kn_s, kn_n, hK_sI, hR_sI, hK_sL, hR_sL, hI_sL, hL_sI, hL_sL, hI_sI, hN_sI, hN_sL, ch_G, ch_T, nb_0, nb_1, zb_G, d_T, d_F, d_eT, d_eF, b2i_t, b2i_f, tn_nI, fa_lit, fa_litL, m1_e, nI_add, pk_mul, pk_sub, nI_leI, nI_ltI, nI_eq, le_T, le_F, lt_T, lt_F, eq_T, eq_F, if_pos, if_neg, m1_le, m1_lt', m1_gt, m1_le', m1_eq, m1_qe, b2i_eq0, in_N, in_n, in_I, ↓reduceIte, Bool.true_eq_false, Bool.false_eq_true, reduceCtorEq, decide_eq_true_eq, decide_eq_false_iff_not, Nat.not_lt, Nat.not_le, not_true_eq_false, not_false_eq_true, true_and, and_true, and_self, false_and, and_false, true_or, or_true, false_or, or_false, f_X12_on_79, b_X12_on_79, ↓ko_t G.k, ↓bd_t om, ↓kr_t G.r47, tw, G.k47]
  have ob1 := obj (3 * o) 0 FU (by omega) (FU_gt (by omega))
  rw [show fb g2 (x + 107 + 34) 257 0 (fun j => nI (twT tp (8 * (16 + 4 * sh) + 1 + 2 * j))) = g2 from fb_0] at ob1
  obtain ⟨g3, hg3⟩ : ∃ g3, g3 = fb g2 (x + 107 + 34) 257 (3 * o) (fun j => nI (twT tp (8 * (16 + 4 * sh) + 1 + 2 * j))) := ⟨_, rfl⟩
  rw [← hg3] at ob1
  have T3 : MS g3 (x + 107) := by rw [hg3]; exact T2.of rfl rfl
  -- memory
  obtain ⟨g5, hg5⟩ : ∃ g5, g5 = sI (sI (fb g3 (x + 107 + 34) 353 1024 (fun _ => nI 0)) (x + 107 + 34) 1377 (nI 0)) (x + 107) 63 (nI 0) := ⟨_, rfl⟩
  have mz : ∀ (d t n : Nat), t + d = 1024 → d < n → f_X12_on_123 n (x + 107) (nI (353 + t)) (fb g3 (x + 107 + 34) 353 t (fun _ => nI 0)) = some (nI 1, g5) := by
    intro d
    induction d with
    | zero =>
      intro t n ht hn
      obtain ⟨n, rfl⟩ : ∃ k, n = k + 1 := ⟨n - 1, by omega⟩
      have ht : t = 1024 := by omega
      subst ht
      rw [hg5]
      have G : MS (fb g3 (x + 107 + 34) 353 1024 (fun _ => nI 0)) (x + 107) := T3.of rfl rfl
      generalize fb g3 (x + 107 + 34) 353 1024 (fun _ => nI 0) = gg at *
      simp (disch := omega) only [nm, bd_s, ko_K, ka_K, koK_t, kaK_t, kr_s, kn_s, kn_n, hK_sI, hR_sI, hK_sL, hR_sL, hI_sL, hL_sI, hL_sL, hI_sI, hN_sI, hN_sL, ch_G, ch_T, nb_0, nb_1, zb_G, d_T, d_F, d_eT, d_eF, b2i_t, b2i_f, tn_nI, fa_lit, fa_litL, m1_e, nI_add, pk_mul, pk_sub, nI_leI, nI_ltI, nI_eq, le_T, le_F, lt_T, lt_F, eq_T, eq_F, if_pos, if_neg, m1_le, m1_lt', m1_gt, m1_le', m1_eq, m1_qe, b2i_eq0, in_N, in_n, in_I, ↓reduceIte, Bool.true_eq_false, Bool.false_eq_true, reduceCtorEq, decide_eq_true_eq, decide_eq_false_iff_not, Nat.not_lt, Nat.not_le, not_true_eq_false, not_false_eq_true, true_and, and_true, and_self, false_and, and_false, true_or, or_true, false_or, or_false, f_X12_on_123, b_X12_on_123, ↓ko_t G.k, ↓kr_t G.r47, ↓ka_t G.k47]
    | succ d ih =>
      intro t n ht hn
      obtain ⟨n, rfl⟩ : ∃ k, n = k + 1 := ⟨n - 1, by omega⟩
      rw [← ih (t + 1) n (by omega) (by omega), ← fb_next]
      have G : MS (fb g3 (x + 107 + 34) 353 t (fun _ => nI 0)) (x + 107) := T3.of rfl rfl
      generalize fb g3 (x + 107 + 34) 353 t (fun _ => nI 0) = gg at *
      show _ = f_X12_on_123 n (x + 107) (nI (353 + t + 1)) _
      simp (disch := omega) only [nm, bd_s, ko_K, ka_K, koK_t, kaK_t, kr_s, kn_s, kn_n, hK_sI, hR_sI, hK_sL, hR_sL, hI_sL, hL_sI, hL_sL, hI_sI, hN_sI, hN_sL, ch_G, ch_T, nb_0, nb_1, zb_G, d_T, d_F, d_eT, d_eF, b2i_t, b2i_f, tn_nI, fa_lit, fa_litL, m1_e, nI_add, pk_mul, pk_sub, nI_leI, nI_ltI, nI_eq, le_T, le_F, lt_T, lt_F, eq_T, eq_F, if_pos, if_neg, m1_le, m1_lt', m1_gt, m1_le', m1_eq, m1_qe, b2i_eq0, in_N, in_n, in_I, ↓reduceIte, Bool.true_eq_false, Bool.false_eq_true, reduceCtorEq, decide_eq_true_eq, decide_eq_false_iff_not, Nat.not_lt, Nat.not_le, not_true_eq_false, not_false_eq_true, true_and, and_true, and_self, false_and, and_false, true_or, or_true, false_or, or_false, f_X12_on_123, b_X12_on_123, ↓ko_t G.k, ↓kr_t G.r47, ↓ka_t G.k47]
  have mz1 := mz 1024 0 FU (by omega) (FU_gt (by omega))
  rw [show fb g3 (x + 107 + 34) 353 0 (fun _ => nI 0) = g3 from fb_0, Nat.add_zero 353] at mz1
  have oth : ∀ b j, ¬ b = x + 107 + 34 → ¬ (b = x + 107 ∧ j = 63) → hI g5 b j = hI g b j := fun b j q1 q2 => by
    rw [hg5, hI_sI, if_neg (by omega), hI_sI, if_neg (by omega), hI_fb, if_neg (by omega), hg3, hI_fb, if_neg (by omega), hg2, hI_sI, if_neg (by omega)]
    exact l6 b j q1
  have eK : hK g5 = hK g := by rw [hg5, hK_sI, hK_sI, hK_fb, hg3, hK_fb, hg2, hK_sI]; exact l1
  have eR : hR g5 = hR g := by rw [hg5, hR_sI, hR_sI, hR_fb, hg3, hR_fb, hg2, hR_sI]; exact l2
  have eL : hL g5 = hL g := by rw [hg5, hL_sI, hL_sI, hL_fb, hg3, hL_fb, hg2, hL_sI]; exact l3
  have eN : hN g5 = hN g := by rw [hg5, hN_sI, hN_sI, hN_fb, hg3, hN_fb, hg2, hN_sI]; exact l4
  have eS : hS g5 = hS g := by rw [hg5, hS_sI, hS_sI, hS_fb, hg3, hS_fb, hg2, hS_sI]; exact l5
  refine ⟨g5, e1.trans (st2.trans (ob1.trans mz1)), ?_, eK, eR, eN, eS, fun b q j => ⟨oth b j (by omega) (by omega), by rw [eL]⟩⟩
  obtain ⟨c1, c2, c3, c4, ⟨d1, d2, d3⟩, c6', c7, c8⟩ := Q
  refine ⟨c1.of eK eR, c2.fr (fun b j q => oth b j (by omega) (by omega)) (by rw [eL]), c3.fr (fun b j q => oth b j (by omega) (by omega)) (fun _ _ => by rw [eL]), fun j hj => ?_, ⟨?_, ?_, fun k hk j hj => ?_⟩, c6'.fr (fun b j q => oth b j (by omega) (by omega)), c7.fr (fun b j q => oth b j (by omega) (by omega)), c8.fr (fun b j q => oth b j (by omega) (by omega))⟩
  · rw [hg5, hI_sI, if_neg (by omega), hI_sI]
    by_cases z7 : j = 1377
    · rw [if_pos ⟨rfl, z7⟩, mN_n (by omega), z7, onN_m (by omega) (by omega)]
    · rw [if_neg (by omega), hI_fb]
      by_cases zm : 353 ≤ j ∧ j < 353 + 1024
      · rw [if_pos ⟨rfl, zm⟩, mN_n (by omega), onN_m (by omega) (by omega)]
      · rw [if_neg (by omega), hg3, hI_fb]
        by_cases zo : 257 ≤ j ∧ j < 257 + 3 * o
        · rw [if_pos ⟨rfl, zo⟩, mN_n (by omega)]
          unfold onN
          rw [← hoo, if_neg (by omega), if_neg (by omega), if_pos (by omega), if_pos (by omega)]
        · rw [if_neg (by omega), hg2, hI_sI]
          by_cases z6 : j = 256
          · rw [if_pos ⟨rfl, z6⟩, mN_n (by omega), z6, onN_n, hoo]
          · rw [if_neg (by omega)]
            by_cases zc : j < 8 * (16 + 4 * sh)
            · exact l7 j zc
            · rw [l8 j (by omega), gN j hj]
              have : onN sh tp N j = N j := by
                unfold onN
                by_cases y : j < 256
                · rw [if_pos y, if_neg (by omega)]
                · rw [if_neg y, if_neg z6]
                  by_cases y3 : j < 353
                  · rw [if_pos y3, ← hoo, if_neg (by omega)]
                  · rw [if_neg y3, if_neg (by omega)]
              unfold mN
              rw [this]
  · rw [hg5, hI_sI, if_pos ⟨rfl, rfl⟩]
  · rw [oth _ _ (by omega) (by omega)]; exact d2
  · rw [oth _ _ (by omega) (by omega)]; exact d3 k hk j hj
theorem m_image (Q : CM h (x + 107) (r, 0, tp, rf, ft, fp, sd) (M, mem, sh, ns, kd, cd) N (sl, nx, c, cr) (rn, rw_) (on_, ob)) (O : Ok (r, tl, tp, rf, ft, fp, sd) (M, mem, sh, ns, kd, cd) N (sl, nx, c, cr) (rn, rw_) (on_, ob)) (hr : r = 1) : ∃ g1, CM g1 (x + 107) (r, 0, tp, rf, ft, fp, sd) (M, mem, sh, ns, kd, cd) N (sl, nx, c, cr) (rn, rw_) (on_, ob) ∧ FM x h g1 ∧ (imP M mem sh kd tp tl → f_X12_isImage (x + 107) (nI tl) h = some (nI 1, g1)) ∧ (¬ imP M mem sh kd tp tl → f_X12_isImage (x + 107) (nI tl) h = some (nI 0, g1)) := by
  obtain ⟨h4, h8, -, mm, s4, -⟩ := O.okb hr
  have tb : ∀ j, tp j ≤ 255 := O.1.2.1
  have t16 : tl ≤ 1600 := O.1.1
  have T := Q.1
  have hb : ∀ j, j < 1600 → hI h (x + 107 + 1) j = nI (tp j) := Q.2.1.2.2.1
  have e45 : hI h (x + 107) 45 = nI 1 := by rw [← hr]; exact Q.2.1.1
  have m5 : hI h (x + 107 + 28) 5 = nI sh := Q.2.2.1.2.2.1
  have sm : f_X12_shelfMany (x + 107) h = some (nI sh, h) := by simp (disch := omega) only [nm, bd_s, ko_K, ka_K, koK_t, kaK_t, kr_s, kn_s, kn_n, hK_sI, hR_sI, hK_sL, hR_sL, hI_sL, hL_sI, hL_sL, hI_sI, hN_sI, hN_sL, ch_G, ch_T, nb_0, nb_1, zb_G, d_T, d_F, d_eT, d_eF, b2i_t, b2i_f, tn_nI, fa_lit, fa_litL, m1_e, nI_add, pk_mul, pk_sub, nI_leI, nI_ltI, nI_eq, le_T, le_F, lt_T, lt_F, eq_T, eq_F, if_pos, if_neg, m1_le, m1_lt', m1_gt, m1_le', m1_eq, m1_qe, b2i_eq0, in_N, in_n, in_I, ↓reduceIte, Bool.true_eq_false, Bool.false_eq_true, reduceCtorEq, decide_eq_true_eq, decide_eq_false_iff_not, Nat.not_lt, Nat.not_le, not_true_eq_false, not_false_eq_true, true_and, and_true, and_self, false_and, and_false, true_or, or_true, false_or, or_false, f_X12_shelfMany, T.k, T.r37, T.k37, m5]
  have no : ¬ imP M mem sh kd tp tl → f_X12_isImage (x + 107) (nI tl) h = some (nI 0, h) → ∃ g1, CM g1 (x + 107) (r, 0, tp, rf, ft, fp, sd) (M, mem, sh, ns, kd, cd) N (sl, nx, c, cr) (rn, rw_) (on_, ob) ∧ FM x h g1 ∧ (imP M mem sh kd tp tl → f_X12_isImage (x + 107) (nI tl) h = some (nI 1, g1)) ∧ (¬ imP M mem sh kd tp tl → f_X12_isImage (x + 107) (nI tl) h = some (nI 0, g1)) := fun np e => ⟨h, Q, FM.refl x h, fun z => absurd z np, fun _ => e⟩
  by_cases c1 : 8 * (16 + 4 * sh) + 2 ≤ tl
  · have ck := m_ckT T hb tb (n := tl - 1) (by omega)
    have ck' := (c_ckT_lt tb (n := tl - 1))
    have vl := hb (tl - 1) (by omega)
    have vo := hb (8 * (16 + 4 * sh)) (by omega)
    have b1 := tb (tl - 1)
    have b2 := tb (8 * (16 + 4 * sh))
    have e1 : nI tl - 1 = nI (tl - 1) := pk_sub (b := 1) (by omega)
    have ck : f_X12_checked (x + 107 + 1) (nI tl - 1) h = some (nI (ckN tp (tl - 1)), h) := by rw [e1]; exact ck
    by_cases c4 : ckN tp (tl - 1) = tp (tl - 1)
    · rw [c4] at ck
      by_cases c2 : tp (8 * (16 + 4 * sh)) ≤ 32
      · by_cases c3 : tl = 8 * (16 + 4 * sh) + 6 * tp (8 * (16 + 4 * sh)) + 2
        · obtain ⟨g1, Q1, F1, a1, a2⟩ := m_objsT (x := x) O hr (o := tp (8 * (16 + 4 * sh))) c2 (tp (8 * (16 + 4 * sh))) 0 FU h (by omega) (FU_gt (by omega)) Q (by unfold gst; rw [if_pos rfl]; omega)
          have pre : f_X12_isImage (x + 107) (nI tl) h = f_X12_isImage_86 FU (x + 107) (nI (16 + 4 * sh)) (nI (tp (8 * (16 + 4 * sh)))) (nI 0) h := by
            obtain ⟨o, ho⟩ : ∃ o, o = tp (8 * (16 + 4 * sh)) := ⟨_, rfl⟩
            rw [← ho] at vo c2 c3 ⊢
            simp (disch := omega) only [nm, bd_s, ko_K, ka_K, koK_t, kaK_t, kr_s, kn_s, kn_n, hK_sI, hR_sI, hK_sL, hR_sL, hI_sL, hL_sI, hL_sL, hI_sI, hN_sI, hN_sL, ch_G, ch_T, nb_0, nb_1, zb_G, d_T, d_F, d_eT, d_eF, b2i_t, b2i_f, tn_nI, fa_lit, fa_litL, m1_e, nI_add, pk_mul, pk_sub, nI_leI, nI_ltI, nI_eq, le_T, le_F, lt_T, lt_F, eq_T, eq_F, if_pos, if_neg, m1_le, m1_lt', m1_gt, m1_le', m1_eq, m1_qe, b2i_eq0, in_N, in_n, in_I, ↓reduceIte, Bool.true_eq_false, Bool.false_eq_true, reduceCtorEq, decide_eq_true_eq, decide_eq_false_iff_not, Nat.not_lt, Nat.not_le, not_true_eq_false, not_false_eq_true, true_and, and_true, and_self, false_and, and_false, true_or, or_true, false_or, or_false, f_X12_isImage, ↓nm, ↓ko_t T.k, ↓bd_t sm, e45, ↓kr_t T.r0, ↓ka_t T.k0, ↓bd_t ck, vl, vo]
          rw [pre]
          by_cases ao : ∀ k, 0 ≤ k → k < tp (8 * (16 + 4 * sh)) → obP M mem sh tp k
          · have e2 : f_X12_areObjectsTold (x + 107) (nI (8 * (16 + 4 * sh) + 1)) (nI (tp (8 * (16 + 4 * sh)))) h = some (nI 1, g1) := a1 ao
            obtain ⟨q1, q2⟩ := m_cellsT Q O hr (w := 1) (by omega) e2 (16 + 4 * sh) 0 FU (by omega) (FU_gt (by omega))
            by_cases ac : ∀ k, 0 ≤ k → k < 16 + 4 * sh → clP' M kd tp k
            · exact ⟨g1, Q1, F1, fun _ => q1 ac, fun z => absurd ⟨c1, c2, c3, c4, fun k hk => ac k (by omega) hk, fun k hk => ao k (by omega) hk⟩ z⟩
            · exact ⟨h, Q, FM.refl x h, fun z => absurd (fun k _ hk => z.2.2.2.2.1 k hk) ac, fun _ => q2 ac⟩
          · have e2 : f_X12_areObjectsTold (x + 107) (nI (8 * (16 + 4 * sh) + 1)) (nI (tp (8 * (16 + 4 * sh)))) h = some (nI 0, g1) := a2 ao
            obtain ⟨q1, q2⟩ := m_cellsT Q O hr (w := 0) (by omega) e2 (16 + 4 * sh) 0 FU (by omega) (FU_gt (by omega))
            by_cases ac : ∀ k, 0 ≤ k → k < 16 + 4 * sh → clP' M kd tp k
            · exact ⟨g1, Q1, F1, fun z => absurd (fun k _ hk => z.2.2.2.2.2 k hk) ao, fun _ => q1 ac⟩
            · exact ⟨h, Q, FM.refl x h, fun z => absurd (fun k _ hk => z.2.2.2.2.1 k hk) ac, fun _ => q2 ac⟩
        · refine no (fun z => c3 z.2.2.1) ?_
          obtain ⟨o, ho⟩ : ∃ o, o = tp (8 * (16 + 4 * sh)) := ⟨_, rfl⟩
          rw [← ho] at vo c2 c3
          simp (disch := omega) only [nm, bd_s, ko_K, ka_K, koK_t, kaK_t, kr_s, kn_s, kn_n, hK_sI, hR_sI, hK_sL, hR_sL, hI_sL, hL_sI, hL_sL, hI_sI, hN_sI, hN_sL, ch_G, ch_T, nb_0, nb_1, zb_G, d_T, d_F, d_eT, d_eF, b2i_t, b2i_f, tn_nI, fa_lit, fa_litL, m1_e, nI_add, pk_mul, pk_sub, nI_leI, nI_ltI, nI_eq, le_T, le_F, lt_T, lt_F, eq_T, eq_F, if_pos, if_neg, m1_le, m1_lt', m1_gt, m1_le', m1_eq, m1_qe, b2i_eq0, in_N, in_n, in_I, ↓reduceIte, Bool.true_eq_false, Bool.false_eq_true, reduceCtorEq, decide_eq_true_eq, decide_eq_false_iff_not, Nat.not_lt, Nat.not_le, not_true_eq_false, not_false_eq_true, true_and, and_true, and_self, false_and, and_false, true_or, or_true, false_or, or_false, f_X12_isImage, f_X12_isImage_81, ↓nm, ↓ko_t T.k, ↓bd_t sm, e45, ↓kr_t T.r0, ↓ka_t T.k0, ↓bd_t ck, vl, vo]
      · refine no (fun z => c2 z.2.1) ?_
        simp (disch := omega) only [nm, bd_s, ko_K, ka_K, koK_t, kaK_t, kr_s, kn_s, kn_n, hK_sI, hR_sI, hK_sL, hR_sL, hI_sL, hL_sI, hL_sL, hI_sI, hN_sI, hN_sL, ch_G, ch_T, nb_0, nb_1, zb_G, d_T, d_F, d_eT, d_eF, b2i_t, b2i_f, tn_nI, fa_lit, fa_litL, m1_e, nI_add, pk_mul, pk_sub, nI_leI, nI_ltI, nI_eq, le_T, le_F, lt_T, lt_F, eq_T, eq_F, if_pos, if_neg, m1_le, m1_lt', m1_gt, m1_le', m1_eq, m1_qe, b2i_eq0, in_N, in_n, in_I, ↓reduceIte, Bool.true_eq_false, Bool.false_eq_true, reduceCtorEq, decide_eq_true_eq, decide_eq_false_iff_not, Nat.not_lt, Nat.not_le, not_true_eq_false, not_false_eq_true, true_and, and_true, and_self, false_and, and_false, true_or, or_true, false_or, or_false, f_X12_isImage, f_X12_isImage_81, ↓nm, ↓ko_t T.k, ↓bd_t sm, e45, ↓kr_t T.r0, ↓ka_t T.k0, ↓bd_t ck, vl, vo]
    · refine no (fun z => c4 z.2.2.2.1) ?_
      have ne : (tp (tl - 1) = ckN tp (tl - 1)) = False := eq_false (fun z => c4 z.symm)
      simp (disch := omega) only [nm, bd_s, ko_K, ka_K, koK_t, kaK_t, kr_s, kn_s, kn_n, hK_sI, hR_sI, hK_sL, hR_sL, hI_sL, hL_sI, hL_sL, hI_sI, hN_sI, hN_sL, ch_G, ch_T, nb_0, nb_1, zb_G, d_T, d_F, d_eT, d_eF, b2i_t, b2i_f, tn_nI, fa_lit, fa_litL, m1_e, nI_add, pk_mul, pk_sub, nI_leI, nI_ltI, nI_eq, le_T, le_F, lt_T, lt_F, eq_T, eq_F, if_pos, if_neg, m1_le, m1_lt', m1_gt, m1_le', m1_eq, m1_qe, b2i_eq0, in_N, in_n, in_I, ↓reduceIte, Bool.true_eq_false, Bool.false_eq_true, reduceCtorEq, decide_eq_true_eq, decide_eq_false_iff_not, Nat.not_lt, Nat.not_le, not_true_eq_false, not_false_eq_true, true_and, and_true, and_self, false_and, and_false, true_or, or_true, false_or, or_false, f_X12_isImage, f_X12_isImage_48, ↓nm, ↓ko_t T.k, ↓bd_t sm, e45, ↓kr_t T.r0, ↓ka_t T.k0, ↓bd_t ck, vl, ne]
  · refine no (fun z => c1 z.1) ?_
    simp (disch := omega) only [nm, bd_s, ko_K, ka_K, koK_t, kaK_t, kr_s, kn_s, kn_n, hK_sI, hR_sI, hK_sL, hR_sL, hI_sL, hL_sI, hL_sL, hI_sI, hN_sI, hN_sL, ch_G, ch_T, nb_0, nb_1, zb_G, d_T, d_F, d_eT, d_eF, b2i_t, b2i_f, tn_nI, fa_lit, fa_litL, m1_e, nI_add, pk_mul, pk_sub, nI_leI, nI_ltI, nI_eq, le_T, le_F, lt_T, lt_F, eq_T, eq_F, if_pos, if_neg, m1_le, m1_lt', m1_gt, m1_le', m1_eq, m1_qe, b2i_eq0, in_N, in_n, in_I, ↓reduceIte, Bool.true_eq_false, Bool.false_eq_true, reduceCtorEq, decide_eq_true_eq, decide_eq_false_iff_not, Nat.not_lt, Nat.not_le, not_true_eq_false, not_false_eq_true, true_and, and_true, and_self, false_and, and_false, true_or, or_true, false_or, or_false, f_X12_isImage, f_X12_isImage_48, ↓nm, ↓ko_t T.k, ↓bd_t sm, e45]
end On5
