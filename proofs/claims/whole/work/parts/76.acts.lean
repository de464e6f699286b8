/-! acts: one number changes -/
def updN (N : tyN) (a v : Nat) : tyN := fun j => if j = a then v else N j
theorem updN_s (N : tyN) (a v : Nat) : updN N a v a = v := if_pos rfl
theorem updN_o {N : tyN} {a v j : Nat} (h : ¬ j = a) : updN N a v j = N j := if_neg h
section Ac
variable {h : aH} {x r tl : Nat} {tp : Nat → Nat} {rf : Nat → Int32} {ft fp : Int32} {sd : Nat} {M mem sh : Nat} {ns : Nat → List Nat} {kd : Nat → Nat} {cd : Nat → List Nat} {N : tyN} {sl : Nat → tyN} {nx c cr : Nat} {rn : Nat} {rw_ : Nat → Nat} {on_ : Nat} {ob : Nat → Nat}
theorem okN.cell {N' : tyN} (q : okN M mem sh N) (h8 : M ≤ 8) {k : Nat} (hk : k < 32) (ho : ∀ j, ¬ (8 * k ≤ j ∧ j < 8 * k + 8) → N' j = N j) (hp : okP M N' (8 * k)) (h7 : N' (8 * k + 7) ≤ 4096) (hf : k < 16 → N' (8 * k) ≤ 1) (hg : 16 + 4 * sh ≤ k → N' (8 * k) = 2) : okN M mem sh N' := by
  obtain ⟨q1, q2, q3, q4, q5, q6, q7, q8, q9⟩ := q
  have pM := p2_le (show M ≤ 8 from h8)
  have e256 : N' 256 = N 256 := ho _ (by omega)
  have eB : (fun i => N' (257 + 3 * i)) = fun i => N (257 + 3 * i) := funext fun i => ho _ (by omega)
  have eL : (fun i => N' (258 + 3 * i)) = fun i => N (258 + 3 * i) := funext fun i => ho _ (by omega)
  refine ⟨fun j => ?_, fun i hi => ?_, fun i hi => ?_, fun i h1 h2 => ?_, ?_, ?_, fun i hi => ?_, ?_, fun a ha => ?_⟩
  · by_cases c1 : 8 * k ≤ j ∧ j < 8 * k + 8
    · obtain ⟨p0, p1, p2, p3, p4, p5, p6, p7⟩ := hp
      rcases (show j = 8 * k ∨ j = 8 * k + 1 ∨ j = 8 * k + 2 ∨ j = 8 * k + 3 ∨ j = 8 * k + 4 ∨ j = 8 * k + 5 ∨ j = 8 * k + 6 ∨ j = 8 * k + 7 by omega) with rfl | rfl | rfl | rfl | rfl | rfl | rfl | rfl <;> omega
    · rw [ho j c1]; exact q1 j
  · by_cases c1 : i = k
    · rw [c1]; exact hp
    · have := q2 i hi
      unfold okP at this ⊢
      rw [ho (8 * i) (by omega), ho (8 * i + 1) (by omega), ho (8 * i + 2) (by omega), ho (8 * i + 3) (by omega), ho (8 * i + 4) (by omega), ho (8 * i + 5) (by omega), ho (8 * i + 6) (by omega)]
      exact this
  · by_cases c1 : i = k
    · rw [c1]; exact hf (by omega)
    · rw [ho (8 * i) (by omega)]; exact q3 i hi
  · by_cases c1 : i = k
    · rw [c1]; exact hg (by omega)
    · rw [ho (8 * i) (by omega)]; exact q4 i h1 h2
  · rw [e256]; exact q5
  · rw [e256, eB, eL]; exact q6
  · rw [e256] at hi
    rw [ho _ (by omega), ho _ (by omega)]; exact q7 i hi
  · rw [ho _ (by omega)]; exact q8
  · rw [ho _ (by omega)]; exact q9 a ha
theorem CX.nc1 {h1 : aH} {N' : tyN} (C : CX h x (r, tl, tp, rf, ft, fp, sd) (M, mem, sh, ns, kd, cd) N (sl, nx, c, cr) (rn, rw_) (on_, ob)) (f : FX x (NC x) h h1) (e2 : hR h1 = hR h) (el : hL h1 = hL h) (R : RS h1 (x + 3) N') : CX h1 x (r, tl, tp, rf, ft, fp, sd) (M, mem, sh, ns, kd, cd) N' (sl, nx, c, cr) (rn, rw_) (on_, ob) ∧ FC x h h1 := ⟨C.nc f (by rw [e2]) (by rw [e2]) (by rw [el]) R, f.fc (fun b j q => by unfold NC at q; omega)⟩
theorem RS.cell {s k : Nat} {h1 : aH} {N' : tyN} (R : RS h s N) (hk : k < 32) (e : ∀ b, s ≤ b → b < s + 39 → ¬ b = s + 7 + k → ∀ j, hI h1 b j = hI h b j) (ho : ∀ j, ¬ (8 * k ≤ j ∧ j < 8 * k + 8) → N' j = N j) (p : PS h1 (s + 7 + k) N' (8 * k)) : RS h1 s N' := by
  obtain ⟨r1, r2, r3, r4, r5, r6⟩ := R
  refine ⟨fun i hi => ?_, ?_, fun i h1 h2 => ?_, ?_, fun i h1 h2 => ?_, fun a ha => ?_⟩
  · by_cases c1 : i = k
    · rw [c1]; exact p
    · have := (r1 i hi).fr (h1 := h1) (fun j _ => e _ (by omega) (by omega) (by omega) j)
      unfold PS at this ⊢
      rw [ho (8 * i) (by omega), ho (8 * i + 1) (by omega), ho (8 * i + 2) (by omega), ho (8 * i + 3) (by omega), ho (8 * i + 4) (by omega), ho (8 * i + 5) (by omega), ho (8 * i + 6) (by omega)]
      exact this
  · rw [e _ (by omega) (by omega) (by omega), ho _ (by omega)]; exact r2
  · rw [ho _ (by omega)] at h1
    rw [e _ (by omega) (by omega) (by omega), e _ (by omega) (by omega) (by omega), e _ (by omega) (by omega) (by omega), ho _ (by omega), ho _ (by omega), ho _ (by omega)]
    exact r3 i h1 h2
  · rw [e _ (by omega) (by omega) (by omega), ho _ (by omega)]; exact r4
  · rw [ho _ (by omega)] at h1
    rw [e _ (by omega) (by omega) (by omega), ho _ (by omega)]; exact r5 i h1 h2
  · unfold byP
    rw [e _ (by omega) (by omega) (by omega), ho _ (by omega)]; exact r6 a ha
/-- one field of a pointer that is there -/
theorem CX.u1 (C : CX h x (r, tl, tp, rf, ft, fp, sd) (M, mem, sh, ns, kd, cd) N (sl, nx, c, cr) (rn, rw_) (on_, ob)) {k i v : Nat} (hk : k < 32) (fl : N (8 * k) ≤ 1) (hi : i < 7) (hv : i = 0 → v ≤ 1) : CX (sI h (x + 3 + 7 + k) (i + 1) (nI v)) x (r, tl, tp, rf, ft, fp, sd) (M, mem, sh, ns, kd, cd) (updN N (8 * k + i) v) (sl, nx, c, cr) (rn, rw_) (on_, ob) ∧ FC x h (sI h (x + 3 + 7 + k) (i + 1) (nI v)) := by
  refine C.nc1 (FX.sI (by unfold NC; omega)) rfl rfl (C.2.2.2.1.cell hk (fun b _ _ q j => by rw [hI_sI, if_neg (by omega)]) (fun j q => updN_o (by omega)) ?_)
  obtain ⟨p0, p1, p2, p3, p4, p5, p6, p7⟩ := C.2.2.2.1.cl hk fl
  refine Or.inr ⟨?_, ?_, ?_, ?_, ?_, ?_, ?_, ?_, ?_⟩
  · unfold updN; split <;> omega
  · rw [hI_sI, if_neg (by omega)]; exact p0
  all_goals
    rw [hI_sI]
    unfold updN
    split
    · rw [if_pos (by omega)]
    · rw [if_neg (by omega)]; assumption
theorem CM.u1 (Q : CM h (x + 107) (r, tl, tp, rf, ft, fp, sd) (M, mem, sh, ns, kd, cd) N (sl, nx, c, cr) (rn, rw_) (on_, ob)) {a v : Nat} (ha : a < 1498) (hv : a < 256 → a % 8 = 0 → v ≤ 1) : CM (sI h (x + 107 + 34) a (nI v)) (x + 107) (r, tl, tp, rf, ft, fp, sd) (M, mem, sh, ns, kd, cd) (updN N a v) (sl, nx, c, cr) (rn, rw_) (on_, ob) ∧ FM x h (sI h (x + 107 + 34) a (nI v)) := by
  refine ⟨Q.nc rfl rfl (fun b j _ q => by rw [hI_sI, if_neg (by omega)]) rfl (fun _ _ => rfl) (fun j hj => ?_), FM.sI (by omega) (by omega)⟩
  rw [hI_sI]
  by_cases c1 : j = a
  · subst c1
    rw [if_pos ⟨rfl, rfl⟩]
    unfold mN
    rw [updN_s, if_neg]
    rintro ⟨z1, z2, z3⟩
    have := hv z1 z2
    omega
  · rw [if_neg (by omega), Q.2.2.2.1 j hj]
    unfold mN
    rw [updN_o c1]
/-- an act, behind what is kept -/
theorem glueA {ρ : Type} {v : ρ} {f gg : aH → Option (ρ × aH)} {N' : tyN} (C : CX h x (r, tl, tp, rf, ft, fp, sd) (M, mem, sh, ns, kd, cd) N (sl, nx, c, cr) (rn, rw_) (on_, ob)) (Q : CM h (x + 107) (r, tl, tp, rf, ft, fp, sd) (M, mem, sh, ns, kd, cd) N (sl, nx, c, cr) (rn, rw_) (on_, ob)) (O : Ok (r, tl, tp, rf, ft, fp, sd) (M, mem, sh, ns, kd, cd) N (sl, nx, c, cr) (rn, rw_) (on_, ob)) (hr : r = 1) (okn : okN M mem sh N') (hc : ∀ h1, f_X2_keep (x + 81) (x + 3) h = some ((), h1) → CX h1 x (r, tl, tp, rf, ft, fp, sd) (M, mem, sh, ns, kd, cd) N (kpS sl nx N, nx1 nx, min 20 (c + 1), kpC nx cr) (rn, rw_) (on_, ob) → ∃ h2, f h = some (v, h2) ∧ CX h2 x (r, tl, tp, rf, ft, fp, sd) (M, mem, sh, ns, kd, cd) N' (kpS sl nx N, nx1 nx, min 20 (c + 1), kpC nx cr) (rn, rw_) (on_, ob) ∧ FC x h1 h2) (hm : ∀ g g1, CM g (x + 107) (r, tl, tp, rf, ft, fp, sd) (M, mem, sh, ns, kd, cd) N (sl, nx, c, cr) (rn, rw_) (on_, ob) → f_X12_keeps (x + 107) g = some ((), g1) → CM g1 (x + 107) (r, tl, tp, rf, ft, fp, sd) (M, mem, sh, ns, kd, cd) N (kpS sl nx N, nx1 nx, min 20 (c + 1), kpC nx cr) (rn, rw_) (on_, ob) → ∃ g2, gg g = some (v, g2) ∧ CM g2 (x + 107) (r, tl, tp, rf, ft, fp, sd) (M, mem, sh, ns, kd, cd) N' (kpS sl nx N, nx1 nx, min 20 (c + 1), kpC nx cr) (rn, rw_) (on_, ob) ∧ FM x g1 g2) : SM ρ x h f gg := by
  obtain ⟨b1, b2, b3⟩ := O.n0
  obtain ⟨h1, e1, C1, F1⟩ := C.keep b2 b1
  obtain ⟨h2, e2, C2, F2⟩ := hc h1 e1 C1
  refine glue Q ⟨h2, e2, C2, F1.trans F2⟩ (fun g Q0 => ?_) ?_
  · obtain ⟨g1, e3, Q1, F3⟩ := Q0.keep C.dok
    obtain ⟨g2, e4, Q2, F4⟩ := hm g g1 Q0 e3 Q1
    exact ⟨g2, e4, Q2, F3.trans F4⟩
  · have okd := O.keep hr C.dok
    have okb := O.okb hr
    obtain ⟨o1, o2, o3, -⟩ := O
    exact ⟨o1, o2, o3, Or.inr ⟨hr, okb, okn, okd⟩⟩
theorem S_limit (C : CX h x (r, tl, tp, rf, ft, fp, sd) (M, mem, sh, ns, kd, cd) N (sl, nx, c, cr) (rn, rw_) (on_, ob)) (Q : CM h (x + 107) (r, tl, tp, rf, ft, fp, sd) (M, mem, sh, ns, kd, cd) N (sl, nx, c, cr) (rn, rw_) (on_, ob)) (O : Ok (r, tl, tp, rf, ft, fp, sd) (M, mem, sh, ns, kd, cd) N (sl, nx, c, cr) (rn, rw_) (on_, ob)) (p w : Int32) : SM Int32 x h (f_X11_limit x p w) (f_X12_limit (x + 107) p w) := by
  have S := C.1
  have W := S.now
  have rfx := c_refuse (k := 3) S (by omega)
  by_cases hp : r = 1 ∧ ∃ k, k < 16 ∧ p = nI k
  · obtain ⟨hr, k, hk, rfl⟩ := hp
    have okn := O.okn hr
    have fl := okn.fl hk
    obtain ⟨p0, p1, p2, p3, p4, p5, p6, p7⟩ := C.2.2.2.1.cl (show k < 32 by omega) fl
    have okp := okn.2.1 k (by omega)
    have b5 := okp.2.2.2.2.2.2.1
    have b6 := okp.2.2.2.2.2.2.2
    have c1 := C.ip hr hk
    have no : (¬ N (8 * k + 6) = 0 ∨ w < nI 0 ∨ nI 8 ≤ w) → SM Int32 x h (f_X11_limit x (nI k) w) (f_X12_limit (x + 107) (nI k) w) := by
      intro q
      refine glueR (k := 3) (v := -nI 1) C Q O (by omega) ?_ (fun g1 Q1 => ?_)
      · rcases pk_ix w (n := 8) (by omega) with hw | hw | ⟨j, hj, rfl⟩
        · simp (disch := omega) only [nm, bd_s, ko_K, ka_K, koK_t, kaK_t, kr_s, kn_s, kn_n, hK_sI, hR_sI, hK_sL, hR_sL, hI_sL, hL_sI, hL_sL, hI_sI, hN_sI, hN_sL, ch_G, ch_T, nb_0, nb_1, zb_G, d_T, d_F, d_eT, d_eF, b2i_t, b2i_f, tn_nI, fa_lit, fa_litL, m1_e, nI_add, pk_mul, pk_sub, nI_leI, nI_ltI, nI_eq, le_T, le_F, lt_T, lt_F, eq_T, eq_F, if_pos, if_neg, m1_le, m1_lt', m1_gt, m1_le', m1_eq, m1_qe, b2i_eq0, in_N, in_n, in_I, ↓reduceIte, Bool.true_eq_false, Bool.false_eq_true, reduceCtorEq, decide_eq_true_eq, decide_eq_false_iff_not, Nat.not_lt, Nat.not_le, not_true_eq_false, not_false_eq_true, true_and, and_true, and_self, false_and, and_false, true_or, or_true, false_or, or_false, f_X11_limit_33, f_X11_limit, S.k0, c1, ng_lt' hw, ng_le' hw, ng_le hw, ng_lt hw, ng_eq hw, ng_qe hw, in_g hw, in_gN hw, rfx]
        · simp (disch := omega) only [nm, bd_s, ko_K, ka_K, koK_t, kaK_t, kr_s, kn_s, kn_n, hK_sI, hR_sI, hK_sL, hR_sL, hI_sL, hL_sI, hL_sL, hI_sI, hN_sI, hN_sL, ch_G, ch_T, nb_0, nb_1, zb_G, d_T, d_F, d_eT, d_eF, b2i_t, b2i_f, tn_nI, fa_lit, fa_litL, m1_e, nI_add, pk_mul, pk_sub, nI_leI, nI_ltI, nI_eq, le_T, le_F, lt_T, lt_F, eq_T, eq_F, if_pos, if_neg, m1_le, m1_lt', m1_gt, m1_le', m1_eq, m1_qe, b2i_eq0, in_N, in_n, in_I, ↓reduceIte, Bool.true_eq_false, Bool.false_eq_true, reduceCtorEq, decide_eq_true_eq, decide_eq_false_iff_not, Nat.not_lt, Nat.not_le, not_true_eq_false, not_false_eq_true, true_and, and_true, and_self, false_and, and_false, true_or, or_true, false_or, or_false, f_X11_limit_33, f_X11_limit, S.k0, c1, bg_lt hw, bg_gt hw, rfx]
        · have q : ¬ N (8 * k + 6) = 0 := by
            rcases q with q | q | q
            · exact q
            · rw [nI_ltI (by omega) (by omega)] at q; omega
            · rw [nI_leI (by omega) (by omega)] at q; omega
          simp (disch := omega) only [nm, bd_s, ko_K, ka_K, koK_t, kaK_t, kr_s, kn_s, kn_n, hK_sI, hR_sI, hK_sL, hR_sL, hI_sL, hL_sI, hL_sL, hI_sI, hN_sI, hN_sL, ch_G, ch_T, nb_0, nb_1, zb_G, d_T, d_F, d_eT, d_eF, b2i_t, b2i_f, tn_nI, fa_lit, fa_litL, m1_e, nI_add, pk_mul, pk_sub, nI_leI, nI_ltI, nI_eq, le_T, le_F, lt_T, lt_F, eq_T, eq_F, if_pos, if_neg, m1_le, m1_lt', m1_gt, m1_le', m1_eq, m1_qe, b2i_eq0, in_N, in_n, in_I, ↓reduceIte, Bool.true_eq_false, Bool.false_eq_true, reduceCtorEq, decide_eq_true_eq, decide_eq_false_iff_not, Nat.not_lt, Nat.not_le, not_true_eq_false, not_false_eq_true, true_and, and_true, and_self, false_and, and_false, true_or, or_true, false_or, or_false, f_X11_limit_33, f_X11_limit, S.k0, S.r0_2, W.k, W.r0, W.k1, W.rp, W.kp, c1, p7, q, rfx]
      · have T1 := Q1.1
        have c2 := Q1.ip hr hk
        have q6 := (Q1.q (show k < 32 by omega) fl).2.2.2.2.2.2
        have rfm := m_refuses (k := 3) T1 (by omega)
        by_cases k0 : N (8 * k + 6) = 0
        · rcases pk_ix w (n := 8) (by omega) with hw | hw | ⟨j, hj, rfl⟩
          · simp (disch := omega) only [nm, bd_s, ko_K, ka_K, koK_t, kaK_t, kr_s, kn_s, kn_n, hK_sI, hR_sI, hK_sL, hR_sL, hI_sL, hL_sI, hL_sL, hI_sI, hN_sI, hN_sL, ch_G, ch_T, nb_0, nb_1, zb_G, d_T, d_F, d_eT, d_eF, b2i_t, b2i_f, tn_nI, fa_lit, fa_litL, m1_e, nI_add, pk_mul, pk_sub, nI_leI, nI_ltI, nI_eq, le_T, le_F, lt_T, lt_F, eq_T, eq_F, if_pos, if_neg, m1_le, m1_lt', m1_gt, m1_le', m1_eq, m1_qe, b2i_eq0, in_N, in_n, in_I, ↓reduceIte, Bool.true_eq_false, Bool.false_eq_true, reduceCtorEq, decide_eq_true_eq, decide_eq_false_iff_not, Nat.not_lt, Nat.not_le, not_true_eq_false, not_false_eq_true, true_and, and_true, and_self, false_and, and_false, true_or, or_true, false_or, or_false, f_X12_limit_36, f_X12_limit, T1.k, T1.r47, T1.k47, c2, q6, k0, ng_lt' hw, ng_le' hw, ng_le hw, ng_lt hw, ng_eq hw, ng_qe hw, in_g hw, in_gN hw, rfm]
          · simp (disch := omega) only [nm, bd_s, ko_K, ka_K, koK_t, kaK_t, kr_s, kn_s, kn_n, hK_sI, hR_sI, hK_sL, hR_sL, hI_sL, hL_sI, hL_sL, hI_sI, hN_sI, hN_sL, ch_G, ch_T, nb_0, nb_1, zb_G, d_T, d_F, d_eT, d_eF, b2i_t, b2i_f, tn_nI, fa_lit, fa_litL, m1_e, nI_add, pk_mul, pk_sub, nI_leI, nI_ltI, nI_eq, le_T, le_F, lt_T, lt_F, eq_T, eq_F, if_pos, if_neg, m1_le, m1_lt', m1_gt, m1_le', m1_eq, m1_qe, b2i_eq0, in_N, in_n, in_I, ↓reduceIte, Bool.true_eq_false, Bool.false_eq_true, reduceCtorEq, decide_eq_true_eq, decide_eq_false_iff_not, Nat.not_lt, Nat.not_le, not_true_eq_false, not_false_eq_true, true_and, and_true, and_self, false_and, and_false, true_or, or_true, false_or, or_false, f_X12_limit_36, f_X12_limit, T1.k, T1.r47, T1.k47, c2, q6, k0, in_bN hw, rfm]
          · rcases q with q | q | q
            · exact absurd k0 q
            · rw [nI_ltI (by omega) (by omega)] at q; omega
            · rw [nI_leI (by omega) (by omega)] at q; omega
        · simp (disch := omega) only [nm, bd_s, ko_K, ka_K, koK_t, kaK_t, kr_s, kn_s, kn_n, hK_sI, hR_sI, hK_sL, hR_sL, hI_sL, hL_sI, hL_sL, hI_sI, hN_sI, hN_sL, ch_G, ch_T, nb_0, nb_1, zb_G, d_T, d_F, d_eT, d_eF, b2i_t, b2i_f, tn_nI, fa_lit, fa_litL, m1_e, nI_add, pk_mul, pk_sub, nI_leI, nI_ltI, nI_eq, le_T, le_F, lt_T, lt_F, eq_T, eq_F, if_pos, if_neg, m1_le, m1_lt', m1_gt, m1_le', m1_eq, m1_qe, b2i_eq0, in_N, in_n, in_I, ↓reduceIte, Bool.true_eq_false, Bool.false_eq_true, reduceCtorEq, decide_eq_true_eq, decide_eq_false_iff_not, Nat.not_lt, Nat.not_le, not_true_eq_false, not_false_eq_true, true_and, and_true, and_self, false_and, and_false, true_or, or_true, false_or, or_false, f_X12_limit_36, f_X12_limit, T1.k, T1.r47, T1.k47, c2, q6, k0, rfm]
    rcases pk_ix w (n := 8) (by omega) with hw | hw | ⟨j, hj, rfl⟩
    · exact no (Or.inr (Or.inl hw))
    · exact no (Or.inr (Or.inr hw))
    · by_cases k0 : N (8 * k + 6) = 0
      · have an : nI (N (8 * k + 5)) &&& nI j = nI (N (8 * k + 5) &&& j) := fa_and _ _
        have al : N (8 * k + 5) &&& j ≤ 7 := Nat.le_trans Nat.and_le_left b5
        refine glueA (N' := updN N (8 * k + 5) (N (8 * k + 5) &&& j)) (v := nI (N (8 * k + 5) &&& j)) C Q O hr ?_ (fun h1 e1 C1 => ?_) (fun g g1 Q0 e1 Q1 => ?_)
        · refine okn.cell (O.okb hr).2.1 (show k < 32 by omega) (fun j q => updN_o (by omega)) ?_ ?_ ?_ ?_
          · unfold okP
            rw [updN_o (by omega), updN_o (by omega), updN_o (by omega), updN_o (by omega), updN_o (by omega), updN_s, updN_o (by omega)]
            exact ⟨okp.1, okp.2.1, okp.2.2.1, okp.2.2.2.1, okp.2.2.2.2.1, okp.2.2.2.2.2.1, al, b6⟩
          · rw [updN_o (by omega)]; exact okn.1 _
          · intro _; rw [updN_o (by omega)]; exact fl
          · intro z; omega
        · have S1 := C1.1
          have W1 := S1.now
          have q6 := (C1.2.2.2.1.cl (show k < 32 by omega) fl).2.2.2.2.2.2.1
          refine ⟨_, ?_, C1.u1 (k := k) (i := 5) (v := N (8 * k + 5) &&& j) (by omega) fl (by omega) (by omega)⟩
          simp (disch := omega) only [nm, bd_s, ko_K, ka_K, koK_t, kaK_t, kr_s, kn_s, kn_n, hK_sI, hR_sI, hK_sL, hR_sL, hI_sL, hL_sI, hL_sL, hI_sI, hN_sI, hN_sL, ch_G, ch_T, nb_0, nb_1, zb_G, d_T, d_F, d_eT, d_eF, b2i_t, b2i_f, tn_nI, fa_lit, fa_litL, m1_e, nI_add, pk_mul, pk_sub, nI_leI, nI_ltI, nI_eq, le_T, le_F, lt_T, lt_F, eq_T, eq_F, if_pos, if_neg, m1_le, m1_lt', m1_gt, m1_le', m1_eq, m1_qe, b2i_eq0, in_N, in_n, in_I, ↓reduceIte, Bool.true_eq_false, Bool.false_eq_true, reduceCtorEq, decide_eq_true_eq, decide_eq_false_iff_not, Nat.not_lt, Nat.not_le, not_true_eq_false, not_false_eq_true, true_and, and_true, and_self, false_and, and_false, true_or, or_true, false_or, or_false, f_X11_limit_33, f_X11_limit, S.k0, S.r0_2, S.r0_4, S.k81, W.k, W.r0, W.k1, W.rp, W.kp, c1, p7, k0, e1, S1.k0, S1.r0_2, W1.k, W1.r0, W1.k1, W1.rp, W1.kp, q6, an]
        · have T0 := Q0.1
          have T1 := Q1.1
          have c2 := Q0.ip hr hk
          have q6 := (Q0.q (show k < 32 by omega) fl).2.2.2.2.2.2
          have q5 := (Q1.q (show k < 32 by omega) fl).2.2.2.2.2.1
          refine ⟨_, ?_, Q1.u1 (a := 8 * k + 5) (v := N (8 * k + 5) &&& j) (by omega) (by omega)⟩
          simp (disch := omega) only [nm, bd_s, ko_K, ka_K, koK_t, kaK_t, kr_s, kn_s, kn_n, hK_sI, hR_sI, hK_sL, hR_sL, hI_sL, hL_sI, hL_sL, hI_sI, hN_sI, hN_sL, ch_G, ch_T, nb_0, nb_1, zb_G, d_T, d_F, d_eT, d_eF, b2i_t, b2i_f, tn_nI, fa_lit, fa_litL, m1_e, nI_add, pk_mul, pk_sub, nI_leI, nI_ltI, nI_eq, le_T, le_F, lt_T, lt_F, eq_T, eq_F, if_pos, if_neg, m1_le, m1_lt', m1_gt, m1_le', m1_eq, m1_qe, b2i_eq0, in_N, in_n, in_I, ↓reduceIte, Bool.true_eq_false, Bool.false_eq_true, reduceCtorEq, decide_eq_true_eq, decide_eq_false_iff_not, Nat.not_lt, Nat.not_le, not_true_eq_false, not_false_eq_true, true_and, and_true, and_self, false_and, and_false, true_or, or_true, false_or, or_false, f_X12_limit_36, f_X12_limit, T0.k, T0.r47, T0.k47, c2, q6, k0, e1, T1.k, T1.r47, T1.k47, q5, an]
      · exact no (Or.inl k0)
  · have c1 := C.np O hp
    refine glueR (k := 3) (v := -nI 1) C Q O (by omega) ?_ (fun g1 Q1 => ?_)
    · simp (disch := omega) only [nm, bd_s, ko_K, ka_K, koK_t, kaK_t, kr_s, kn_s, kn_n, hK_sI, hR_sI, hK_sL, hR_sL, hI_sL, hL_sI, hL_sL, hI_sI, hN_sI, hN_sL, ch_G, ch_T, nb_0, nb_1, zb_G, d_T, d_F, d_eT, d_eF, b2i_t, b2i_f, tn_nI, fa_lit, fa_litL, m1_e, nI_add, pk_mul, pk_sub, nI_leI, nI_ltI, nI_eq, le_T, le_F, lt_T, lt_F, eq_T, eq_F, if_pos, if_neg, m1_le, m1_lt', m1_gt, m1_le', m1_eq, m1_qe, b2i_eq0, in_N, in_n, in_I, ↓reduceIte, Bool.true_eq_false, Bool.false_eq_true, reduceCtorEq, decide_eq_true_eq, decide_eq_false_iff_not, Nat.not_lt, Nat.not_le, not_true_eq_false, not_false_eq_true, true_and, and_true, and_self, false_and, and_false, true_or, or_true, false_or, or_false, f_X11_limit_33, f_X11_limit, S.k0, c1, rfx]
    · have T1 := Q1.1
      have c2 := Q1.np O hp
      have rfm := m_refuses (k := 3) T1 (by omega)
      simp (disch := omega) only [nm, bd_s, ko_K, ka_K, koK_t, kaK_t, kr_s, kn_s, kn_n, hK_sI, hR_sI, hK_sL, hR_sL, hI_sL, hL_sI, hL_sL, hI_sI, hN_sI, hN_sL, ch_G, ch_T, nb_0, nb_1, zb_G, d_T, d_F, d_eT, d_eF, b2i_t, b2i_f, tn_nI, fa_lit, fa_litL, m1_e, nI_add, pk_mul, pk_sub, nI_leI, nI_ltI, nI_eq, le_T, le_F, lt_T, lt_F, eq_T, eq_F, if_pos, if_neg, m1_le, m1_lt', m1_gt, m1_le', m1_eq, m1_qe, b2i_eq0, in_N, in_n, in_I, ↓reduceIte, Bool.true_eq_false, Bool.false_eq_true, reduceCtorEq, decide_eq_true_eq, decide_eq_false_iff_not, Nat.not_lt, Nat.not_le, not_true_eq_false, not_false_eq_true, true_and, and_true, and_self, false_and, and_false, true_or, or_true, false_or, or_false, f_X12_limit_36, f_X12_limit, T1.k, c2, rfm]
end Ac
