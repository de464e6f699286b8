section Se2
variable {h : aH} {x r tl : Nat} {tp : Nat → Nat} {rf : Nat → Int32} {ft fp : Int32} {sd : Nat} {M mem sh : Nat} {ns : Nat → List Nat} {kd : Nat → Nat} {cd : Nat → List Nat} {N : tyN} {sl : Nat → tyN} {nx c cr : Nat} {rn : Nat} {rw_ : Nat → Nat} {on_ : Nat} {ob : Nat → Nat}
theorem ne1 {n : Nat} (h : n ≤ 5000) : (nI n = -nI 1) = False := eq_false (fun z => by
  have : ∀ n, n ≤ 5000 → ¬ nI n = -nI 1 := by
    intro n hn z
    have e : (nI n).toInt = (n : Int) := by rw [vI_n]; exact vI_t (by omega) (by omega)
    rw [z] at e
    have e2 : (-nI 1 : Int32).toInt = -1 := by decide
    omega
  exact this n h z)
theorem okN.gt (q : okN M mem sh N) {g : Nat} (hg : g ≤ N 256) : gst (obB N) (obL N) g ≤ gen_ (N 256) mem (obB N) g ∧ gen_ (N 256) mem (obB N) g ≤ mem := by
  refine ⟨q.ga g hg, ?_⟩
  unfold gen_
  by_cases c : g < N 256
  · rw [if_pos c]; have := q.obl c; omega
  · rw [if_neg c]; exact Nat.le_refl _
theorem c_gaps (O : Ok (r, tl, tp, rf, ft, fp, sd) (M, mem, sh, ns, kd, cd) N (sl, nx, c, cr) (rn, rw_) (on_, ob)) (hr : r = 1) {a e l : Nat} (he : e ≤ 13) (l1 : 1 ≤ l) (l2 : l ≤ 4096) : ∀ (j g n : Nat) (σ : tyS) (hh : aH), g + j = N 256 + 1 → j < n → CX hh x (r, tl, tp, rf, ft, fp, sd) (M, mem, sh, ns, kd, cd) N (sl, nx, c, cr) (rn, rw_) (on_, ob) → hR hh x 9 = some a → hI hh (x + 86) 2 = nI l → HS hh x σ → ∃ h1, f_X1_search_70 n (x + 86) a (nI e) (vI (rkS σ)) (nI g) hh = some (b2i (fS (stS (N 256) mem (obB N) (obL N) cd e l) j g σ).isSome, h1) ∧ CX h1 x (r, tl, tp, rf, ft, fp, sd) (M, mem, sh, ns, kd, cd) N (sl, nx, c, cr) (rn, rw_) (on_, ob) ∧ FC x hh h1 ∧ hR h1 x 9 = some a ∧ hI h1 (x + 86) 2 = nI l ∧ HS h1 x (fS (stS (N 256) mem (obB N) (obL N) cd e l) j g σ) := by
  have okn := O.okn hr
  have okb := O.okb hr
  have n32 := okn.2.2.2.2.1
  have mm := okb.2.2.2.1
  intro j
  induction j with
  | zero =>
    intro g n σ hh hg hn C h9 e2 H
    obtain ⟨n, rfl⟩ : ∃ m, n = m + 1 := ⟨n - 1, by omega⟩
    have S := C.1
    have W := S.now
    have e6 : hI hh (x + 3) 6 = nI (N 256) := C.2.2.2.1.2.1
    refine ⟨hh, ?_, C, FC.refl x hh, h9, e2, H⟩
    show _ = some (b2i σ.isSome, hh)
    have hg : g = N 256 + 1 := by omega
    subst hg
    cases σ with
    | none =>
      have H : hI hh (x + 86) 0 = -nI 1 := H
      show _ = some (nI 0, hh)
      simp (disch := omega) only [nm, bd_s, ko_K, ka_K, koK_t, kaK_t, kr_s, kn_s, kn_n, hK_sI, hR_sI, hK_sL, hR_sL, hI_sL, hL_sI, hL_sL, hI_sI, hN_sI, hN_sL, ch_G, ch_T, nb_0, nb_1, zb_G, d_T, d_F, d_eT, d_eF, b2i_t, b2i_f, tn_nI, fa_lit, fa_litL, m1_e, nI_add, pk_mul, pk_sub, nI_leI, nI_ltI, nI_eq, le_T, le_F, lt_T, lt_F, eq_T, eq_F, if_pos, if_neg, m1_le, m1_lt', m1_gt, m1_le', m1_eq, m1_qe, b2i_eq0, in_N, in_n, in_I, ↓reduceIte, Bool.true_eq_false, Bool.false_eq_true, reduceCtorEq, decide_eq_true_eq, decide_eq_false_iff_not, Nat.not_lt, Nat.not_le, not_true_eq_false, not_false_eq_true, true_and, and_true, and_self, false_and, and_false, true_or, or_true, false_or, or_false, f_X1_search_70, b_X1_search_70, f_X1_search_200, S.k86, S.r86_3, W.k, e6, H]
    | some s =>
      obtain ⟨g0, a0, k0⟩ := s
      have H : hI hh (x + 86) 0 = nI g0 ∧ hI hh (x + 86) 1 = nI a0 ∧ g0 ≤ 32 ∧ a0 ≤ 4096 ∧ OV false k0 := H
      have h0 := H.1
      have n1 := ne1 (n := g0) (by omega)
      show _ = some (nI 1, hh)
      simp (disch := omega) only [nm, bd_s, ko_K, ka_K, koK_t, kaK_t, kr_s, kn_s, kn_n, hK_sI, hR_sI, hK_sL, hR_sL, hI_sL, hL_sI, hL_sL, hI_sI, hN_sI, hN_sL, ch_G, ch_T, nb_0, nb_1, zb_G, d_T, d_F, d_eT, d_eF, b2i_t, b2i_f, tn_nI, fa_lit, fa_litL, m1_e, nI_add, pk_mul, pk_sub, nI_leI, nI_ltI, nI_eq, le_T, le_F, lt_T, lt_F, eq_T, eq_F, if_pos, if_neg, m1_le, m1_lt', m1_gt, m1_le', m1_eq, m1_qe, b2i_eq0, in_N, in_n, in_I, ↓reduceIte, Bool.true_eq_false, Bool.false_eq_true, reduceCtorEq, decide_eq_true_eq, decide_eq_false_iff_not, Nat.not_lt, Nat.not_le, not_true_eq_false, not_false_eq_true, true_and, and_true, and_self, false_and, and_false, true_or, or_true, false_or, or_false, f_X1_search_70, b_X1_search_70, f_X1_search_200, S.k86, S.r86_3, W.k, e6, h0, n1]
  | succ j ih =>
    intro g n σ hh hg hn C h9 e2 H
    obtain ⟨n, rfl⟩ : ∃ m, n = m + 1 := ⟨n - 1, by omega⟩
    have S := C.1
    have W := S.now
    have e6 : hI hh (x + 3) 6 = nI (N 256) := C.2.2.2.1.2.1
    obtain ⟨a', ha, h9', A, B⟩ := C.run hr
    rw [h9] at h9'
    cases h9'
    have b1 : hI hh a 1 = nI mem := B.1
    obtain ⟨gt1, gt2⟩ := okn.gt (g := g) (by omega)
    have OBJ := C.2.2.2.1.obj okn mm
    have gs := s_gapStart W OBJ (g := g) (by omega)
    have gl : f_X9_gapLength (x + 3) (nI g) (nI mem) hh = some (nI (szN (N 256) mem (obB N) (obL N) g), hh) := s_gapLength W OBJ (g := g) (by omega) gt1 mm
    have zz : gst (obB N) (obL N) g + szN (N 256) mem (obB N) (obL N) g ≤ mem := by unfold szN; omega
    have uz : fS (stS (N 256) mem (obB N) (obL N) cd e l) (j + 1) g σ = fS (stS (N 256) mem (obB N) (obL N) cd e l) j (g + 1) (stS (N 256) mem (obB N) (obL N) cd e l g σ) := rfl
    have stv : stS (N 256) mem (obB N) (obL N) cd e l g σ = (if upN (gst (obB N) (obL N) g) e + l ≤ gst (obB N) (obL N) g + szN (N 256) mem (obB N) (obL N) g then upS g (upN (gst (obB N) (obL N) g) e) (rkZ cd l (gst (obB N) (obL N) g) (szN (N 256) mem (obB N) (obL N) g)) σ else σ) := rfl
    rw [uz, stv]
    clear uz stv
    generalize stS (N 256) mem (obB N) (obL N) cd e l = F at *
    have q2 := upN_le (gst (obB N) (obL N) g) e
    have q3 := p2_le (show e ≤ 13 by omega)
    have up := up_nI (t := gst (obB N) (obL N) g) (e := e) (by omega) (by omega)
    generalize szN (N 256) mem (obB N) (obL N) g = z at *
    generalize gst (obB N) (obL N) g = s at *
    generalize upN s e = u at *
    by_cases fit : u + l ≤ s + z
    · rw [if_pos fit]
      obtain ⟨h1, r1, r2, r3, r4, r5⟩ := c_rank (l := l) (s := s) (z := z) S okb ha A B l2 (by omega) (by omega)
      obtain ⟨C1, F1⟩ := C.sc1 (r2.mono (fun b j q => by unfold KC at q; unfold SC; omega)) r3 r4
      have kI := r2.2.2.2.2.1
      have e2' : hI h1 (x + 86) 2 = nI l := (kI _ _ (by unfold KC; omega)).trans e2
      have h9' : hR h1 x 9 = some a := by rw [r3]; exact h9
      have S1 := C1.1
      generalize rkZ cd l s z = rk at *
      have C2 := fun (v0 v1 : Int32) => C1.sc1 (h1 := sI (sI h1 (x + 86) 0 v0) (x + 86) 1 v1) ((FX.sI (by unfold SC; omega)).trans (FX.sI (by unfold SC; omega))) rfl rfl
      have new : ∃ h2, f_X1_search_70 n (x + 86) a (nI e) (vI rk) (nI (g + 1)) (sI (sI h1 (x + 86) 0 (nI g)) (x + 86) 1 (nI u)) = some (b2i (fS F j (g + 1) (some (g, u, rk))).isSome, h2) ∧ CX h2 x (r, tl, tp, rf, ft, fp, sd) (M, mem, sh, ns, kd, cd) N (sl, nx, c, cr) (rn, rw_) (on_, ob) ∧ FC x hh h2 ∧ hR h2 x 9 = some a ∧ hI h2 (x + 86) 2 = nI l ∧ HS h2 x (fS F j (g + 1) (some (g, u, rk))) := by
        obtain ⟨C3, F3⟩ := C2 (nI g) (nI u)
        obtain ⟨h2, i1, i2, i3, i4⟩ := ih (g + 1) n (some (g, u, rk)) _ (by omega) (by omega) C3 h9' (by rw [hI_sI, if_neg (by omega), hI_sI, if_neg (by omega)]; exact e2') ⟨by rw [hI_sI, if_neg (by omega), hI_sI, if_pos ⟨rfl, rfl⟩], by rw [hI_sI, if_pos ⟨rfl, rfl⟩], by omega, by omega, r5⟩
        exact ⟨h2, i1, i2, (F1.trans F3).trans i3, i4⟩
      cases σ with
      | none =>
        have H : hI h1 (x + 86) 0 = -nI 1 := (kI _ _ (by unfold KC; omega)).trans H
        obtain ⟨h2, i1, i2⟩ := new
        rw [show upS g u rk none = some (g, u, rk) from rfl]
        refine ⟨h2, ?_, i2⟩
        simp (disch := omega) only [nm, bd_s, ko_K, ka_K, koK_t, kaK_t, kr_s, kn_s, kn_n, hK_sI, hR_sI, hK_sL, hR_sL, hI_sL, hL_sI, hL_sL, hI_sI, hN_sI, hN_sL, ch_G, ch_T, nb_0, nb_1, zb_G, d_T, d_F, d_eT, d_eF, b2i_t, b2i_f, tn_nI, fa_lit, fa_litL, m1_e, nI_add, pk_mul, pk_sub, nI_leI, nI_ltI, nI_eq, le_T, le_F, lt_T, lt_F, eq_T, eq_F, if_pos, if_neg, m1_le, m1_lt', m1_gt, m1_le', m1_eq, m1_qe, b2i_eq0, in_N, in_n, in_I, ↓reduceIte, Bool.true_eq_false, Bool.false_eq_true, reduceCtorEq, decide_eq_true_eq, decide_eq_false_iff_not, Nat.not_lt, Nat.not_le, not_true_eq_false, not_false_eq_true, true_and, and_true, and_self, false_and, and_false, true_or, or_true, false_or, or_false, f_X1_search_70, b_X1_search_70, f_X1_search_165, f_X1_search_181, S.k86, S.r86_3, S.r86_4, S.k83, W.k, e6, gs, A.k, b1, gl, p_up, up, e2, r1, S1.k86, H, i1]
      | some σ0 =>
        obtain ⟨g0, a0, k0⟩ := σ0
        have H : hI hh (x + 86) 0 = nI g0 ∧ hI hh (x + 86) 1 = nI a0 ∧ g0 ≤ 32 ∧ a0 ≤ 4096 ∧ OV false k0 := H
        have h0 : hI h1 (x + 86) 0 = nI g0 := (kI _ _ (by unfold KC; omega)).trans H.1
        have n1 := ne1 (n := g0) (by omega)
        have o5 := H.2.2.2.2
        have cm : (vI k0 ≤ vI rk) = (k0 ≤ rk) := vI_le (by have := o5.1; omega) (by have := o5.2.1; omega) (by have := r5.1; omega) (by have := r5.2.1; omega)
        show ∃ h1, f_X1_search_70 (n + 1) (x + 86) a (nI e) (vI k0) (nI g) hh = _ ∧ _
        by_cases ck : k0 ≤ rk
        · rw [upS_k ck]
          have cm := cm.trans (eq_true ck)
          obtain ⟨h2, i1, i2, i3, i4⟩ := ih (g + 1) n (some (g0, a0, k0)) h1 (by omega) (by omega) C1 h9' e2' ⟨h0, (kI _ _ (by unfold KC; omega)).trans H.2.1, H.2.2⟩
          have i1 : f_X1_search_70 n (x + 86) a (nI e) (vI k0) (nI (g + 1)) h1 = _ := i1
          refine ⟨h2, ?_, i2, F1.trans i3, i4⟩
          simp (disch := omega) only [nm, bd_s, ko_K, ka_K, koK_t, kaK_t, kr_s, kn_s, kn_n, hK_sI, hR_sI, hK_sL, hR_sL, hI_sL, hL_sI, hL_sL, hI_sI, hN_sI, hN_sL, ch_G, ch_T, nb_0, nb_1, zb_G, d_T, d_F, d_eT, d_eF, b2i_t, b2i_f, tn_nI, fa_lit, fa_litL, m1_e, nI_add, pk_mul, pk_sub, nI_leI, nI_ltI, nI_eq, le_T, le_F, lt_T, lt_F, eq_T, eq_F, if_pos, if_neg, m1_le, m1_lt', m1_gt, m1_le', m1_eq, m1_qe, b2i_eq0, in_N, in_n, in_I, ↓reduceIte, Bool.true_eq_false, Bool.false_eq_true, reduceCtorEq, decide_eq_true_eq, decide_eq_false_iff_not, Nat.not_lt, Nat.not_le, not_true_eq_false, not_false_eq_true, true_and, and_true, and_self, false_and, and_false, true_or, or_true, false_or, or_false, f_X1_search_70, b_X1_search_70, f_X1_search_165, f_X1_search_181, S.k86, S.r86_3, S.r86_4, S.k83, W.k, e6, gs, A.k, b1, gl, p_up, up, e2, r1, S1.k86, h0, n1, cm, i1]
        · rw [upS_r ck]
          have cm := cm.trans (eq_false ck)
          obtain ⟨h2, i1, i2⟩ := new
          refine ⟨h2, ?_, i2⟩
          simp (disch := omega) only [nm, bd_s, ko_K, ka_K, koK_t, kaK_t, kr_s, kn_s, kn_n, hK_sI, hR_sI, hK_sL, hR_sL, hI_sL, hL_sI, hL_sL, hI_sI, hN_sI, hN_sL, ch_G, ch_T, nb_0, nb_1, zb_G, d_T, d_F, d_eT, d_eF, b2i_t, b2i_f, tn_nI, fa_lit, fa_litL, m1_e, nI_add, pk_mul, pk_sub, nI_leI, nI_ltI, nI_eq, le_T, le_F, lt_T, lt_F, eq_T, eq_F, if_pos, if_neg, m1_le, m1_lt', m1_gt, m1_le', m1_eq, m1_qe, b2i_eq0, in_N, in_n, in_I, ↓reduceIte, Bool.true_eq_false, Bool.false_eq_true, reduceCtorEq, decide_eq_true_eq, decide_eq_false_iff_not, Nat.not_lt, Nat.not_le, not_true_eq_false, not_false_eq_true, true_and, and_true, and_self, false_and, and_false, true_or, or_true, false_or, or_false, f_X1_search_70, b_X1_search_70, f_X1_search_165, f_X1_search_181, S.k86, S.r86_3, S.r86_4, S.k83, W.k, e6, gs, A.k, b1, gl, p_up, up, e2, r1, S1.k86, h0, n1, cm, i1]
    · rw [if_neg fit]
      obtain ⟨h2, i1, i2⟩ := ih (g + 1) n σ hh (by omega) (by omega) C h9 e2 H
      refine ⟨h2, ?_, i2⟩
      simp (disch := omega) only [nm, bd_s, ko_K, ka_K, koK_t, kaK_t, kr_s, kn_s, kn_n, hK_sI, hR_sI, hK_sL, hR_sL, hI_sL, hL_sI, hL_sL, hI_sI, hN_sI, hN_sL, ch_G, ch_T, nb_0, nb_1, zb_G, d_T, d_F, d_eT, d_eF, b2i_t, b2i_f, tn_nI, fa_lit, fa_litL, m1_e, nI_add, pk_mul, pk_sub, nI_leI, nI_ltI, nI_eq, le_T, le_F, lt_T, lt_F, eq_T, eq_F, if_pos, if_neg, m1_le, m1_lt', m1_gt, m1_le', m1_eq, m1_qe, b2i_eq0, in_N, in_n, in_I, ↓reduceIte, Bool.true_eq_false, Bool.false_eq_true, reduceCtorEq, decide_eq_true_eq, decide_eq_false_iff_not, Nat.not_lt, Nat.not_le, not_true_eq_false, not_false_eq_true, true_and, and_true, and_self, false_and, and_false, true_or, or_true, false_or, or_false, f_X1_search_70, b_X1_search_70, f_X1_search_181, S.k86, S.r86_3, W.k, e6, gs, A.k, b1, gl, p_up, up, e2, i1]
def exS (M : Nat) (cd : Nat → List Nat) (w : Nat) : Nat := lexN 0 (w + pdN cd w) M
def lnS (M : Nat) (cd : Nat → List Nat) (w : Nat) : Nat := upN (w + pdN cd w) (exS M cd w)
def seS (M mem : Nat) (cd : Nat → List Nat) (N : tyN) (w : Nat) : tyS := if N 256 < 32 then fS (stS (N 256) mem (obB N) (obL N) cd (exS M cd w) (lnS M cd w)) (N 256 + 1) 0 none else none
theorem ln_b {M w : Nat} {cd : Nat → List Nat} (h4 : 4 ≤ M) (w1 : 1 ≤ w) (w2 : w ≤ 1024) : exS M cd w ≤ 9 ∧ 1 ≤ lnS M cd w ∧ lnS M cd w ≤ 4096 := by
  have p := pdN_le cd w
  have e := lexN_le 0 (w + pdN cd w) M
  have e9 : exS M cd w ≤ 9 := by unfold exS; omega
  have q1 := le_upN (w + pdN cd w) (exS M cd w)
  have q2 := upN_le (w + pdN cd w) (exS M cd w)
  have q3 := p2_le e9
  unfold lnS
  omega
theorem c_search (C : CX h x (r, tl, tp, rf, ft, fp, sd) (M, mem, sh, ns, kd, cd) N (sl, nx, c, cr) (rn, rw_) (on_, ob)) (O : Ok (r, tl, tp, rf, ft, fp, sd) (M, mem, sh, ns, kd, cd) N (sl, nx, c, cr) (rn, rw_) (on_, ob)) (hr : r = 1) {a w : Nat} (h9 : hR h x 9 = some a) (w1 : 1 ≤ w) (w2 : w ≤ 1024) : ∃ h1, f_X1_search (x + 86) a (nI w) h = some (b2i (seS M mem cd N w).isSome, h1) ∧ CX h1 x (r, tl, tp, rf, ft, fp, sd) (M, mem, sh, ns, kd, cd) N (sl, nx, c, cr) (rn, rw_) (on_, ob) ∧ FC x h h1 ∧ hR h1 x 9 = some a ∧ HS h1 x (seS M mem cd N w) ∧ ((seS M mem cd N w).isSome = true → hI h1 (x + 86) 2 = nI (lnS M cd w)) := by
  have S := C.1
  have W := S.now
  have okb := O.okb hr
  have okn := O.okn hr
  have n32 := okn.2.2.2.2.1
  have e6 : hI h (x + 3) 6 = nI (N 256) := C.2.2.2.1.2.1
  obtain ⟨a', ha, h9', A, B⟩ := C.run hr
  rw [h9] at h9'
  cases h9'
  obtain ⟨C1, F1⟩ := C.sc1 (h1 := sI h (x + 86) 0 (-nI 1)) (FX.sI (by unfold SC; omega)) rfl rfl
  unfold seS
  by_cases c32 : N 256 < 32
  · rw [if_pos c32]
    have S1 := C1.1
    have A1 : MA (sI h (x + 86) 0 (-nI 1)) a := A.of rfl rfl
    obtain ⟨a', ha', h9', A', B1⟩ := C1.run hr
    have h9'' : hR (sI h (x + 86) 0 (-nI 1)) x 9 = some a := h9
    rw [h9''] at h9'
    cases h9'
    obtain ⟨h2, r1, r2, r3, r4⟩ := c_pad S1 okb (l := w) ha A1 B1 (by omega)
    obtain ⟨C2, F2⟩ := C1.sc1 (r2.mono (fun b j q => by unfold KC at q; unfold SC; omega)) r3 r4
    have S2 := C2.1
    have A2 : MA h2 a := A1.of r2.1 r3
    have b2 : hI h2 a 2 = nI M := (r2.2.2.2.2.1 a 2 (by unfold KC; omega)).trans B1.2.1
    have p := pdN_le cd w
    have L := c_least (h := h2) (b := 0) (t := w + pdN cd w) (M := M) (by omega) (by omega) okb.1 okb.2.1
    obtain ⟨y1, y2, y3⟩ := ln_b (M := M) (cd := cd) okb.1 w1 w2
    have up := up_nI (t := w + pdN cd w) (e := exS M cd w) (by omega) (by omega)
    obtain ⟨C3, F3⟩ := C2.sc1 (h1 := sI h2 (x + 86) 2 (nI (lnS M cd w))) (FX.sI (by unfold SC; omega)) rfl rfl
    obtain ⟨h4, i1, i2, i3, i4, i5, i6⟩ := c_gaps O hr (a := a) (e := exS M cd w) (l := lnS M cd w) (by omega) y2 y3 (N 256 + 1) 0 FU none _ (by omega) (FU_gt (by omega)) C3 (by show hR h2 x 9 = some a; rw [r3]; exact h9) (by rw [hI_sI, if_pos ⟨rfl, rfl⟩]) (show hI (sI h2 (x + 86) 2 (nI (lnS M cd w))) (x + 86) 0 = -nI 1 by rw [hI_sI, if_neg (by omega), r2.2.2.2.2.1 _ _ (by unfold KC; omega), hI_sI, if_pos ⟨rfl, rfl⟩])
    refine ⟨h4, ?_, i2, (F1.trans F2).trans (F3.trans i3), i4, i6, fun _ => i5⟩
    rw [← i1]
    have L : f_X6_leastExponent (nI 0) (nI (w + pdN cd w)) (nI M) h2 = some (nI (exS M cd w), h2) := L
    have up : upI (nI (w + pdN cd w)) (nI (exS M cd w)) = nI (lnS M cd w) := up
    have r0 : vI (rkS none) = nI 0 := rfl
    rw [r0]
    generalize exS M cd w = e at *
    generalize lnS M cd w = l at *
    simp (disch := omega) only [nm, bd_s, ko_K, ka_K, koK_t, kaK_t, kr_s, kn_s, kn_n, hK_sI, hR_sI, hK_sL, hR_sL, hI_sL, hL_sI, hL_sL, hI_sI, hN_sI, hN_sL, ch_G, ch_T, nb_0, nb_1, zb_G, d_T, d_F, d_eT, d_eF, b2i_t, b2i_f, tn_nI, fa_lit, fa_litL, m1_e, nI_add, pk_mul, pk_sub, nI_leI, nI_ltI, nI_eq, le_T, le_F, lt_T, lt_F, eq_T, eq_F, if_pos, if_neg, m1_le, m1_lt', m1_gt, m1_le', m1_eq, m1_qe, b2i_eq0, in_N, in_n, in_I, ↓reduceIte, Bool.true_eq_false, Bool.false_eq_true, reduceCtorEq, decide_eq_true_eq, decide_eq_false_iff_not, Nat.not_lt, Nat.not_le, not_true_eq_false, not_false_eq_true, true_and, and_true, and_self, false_and, and_false, true_or, or_true, false_or, or_false, f_X1_search, f_X1_search_29, S.k86, S.r86_3, S.r86_4, S.k83, W.k, e6, r1, A2.k, b2, L, p_up, up, S2.k86]
  · rw [if_neg c32]
    refine ⟨_, ?_, C1, F1, h9, show hI (sI h (x + 86) 0 (-nI 1)) (x + 86) 0 = -nI 1 by rw [hI_sI, if_pos ⟨rfl, rfl⟩], fun z => by cases z⟩
    show _ = some (nI 0, _)
    simp (disch := omega) only [nm, bd_s, ko_K, ka_K, koK_t, kaK_t, kr_s, kn_s, kn_n, hK_sI, hR_sI, hK_sL, hR_sL, hI_sL, hL_sI, hL_sL, hI_sI, hN_sI, hN_sL, ch_G, ch_T, nb_0, nb_1, zb_G, d_T, d_F, d_eT, d_eF, b2i_t, b2i_f, tn_nI, fa_lit, fa_litL, m1_e, nI_add, pk_mul, pk_sub, nI_leI, nI_ltI, nI_eq, le_T, le_F, lt_T, lt_F, eq_T, eq_F, if_pos, if_neg, m1_le, m1_lt', m1_gt, m1_le', m1_eq, m1_qe, b2i_eq0, in_N, in_n, in_I, ↓reduceIte, Bool.true_eq_false, Bool.false_eq_true, reduceCtorEq, decide_eq_true_eq, decide_eq_false_iff_not, Nat.not_lt, Nat.not_le, not_true_eq_false, not_false_eq_true, true_and, and_true, and_self, false_and, and_false, true_or, or_true, false_or, or_false, f_X1_search, f_X1_search_29, S.k86, S.r86_3, W.k, e6]
end Se2
