/-! what may be followed -/
def fgT (M : Nat) (N : tyN) (k c : Nat) : Int := if c = 43 then (N (8 * k + 1) : Int) else if c = 44 then (basN M (N (8 * k + 2)) (N (8 * k + 3)) (N (8 * k + 1)) : Int) else if c = 45 then (lnN M (N (8 * k + 2)) (N (8 * k + 3)) (N (8 * k + 4)) : Int) else (N (8 * k + 5) : Int)
def trB (M : Nat) (N : tyN) (cd : Nat → List Nat) (k : Nat) : Bool := decide (evL (fgT M N k) (fun _ v => v) (cd 2) [] = [1])
def foB (M mem : Nat) (N : tyN) (cd : Nat → List Nat) (k b : Nat) : Bool := (decide (N (8 * k) = 1) && decide (N (8 * k + 6) = 0)) && (decide (¬ N (8 * k + 5) &&& b = 0) && (decide (N (8 * k + 1) < mem) && (covI (nI M) (nI (N (8 * k + 2))) (nI (N (8 * k + 3))) (nI (N (8 * k + 4))) (nI (N (8 * k + 1))) (nI (N (8 * k + 1))) && !trB M N cd k)))
theorem alC_2 {c : Nat} (h : alC 2 c = true) : 43 ≤ c ∧ c ≤ 46 := by
  unfold alC at h
  rw [if_neg (by omega), if_neg (by omega), if_pos rfl] at h
  exact of_decide_eq_true h
section Fo
variable {h : aH} {x r tl : Nat} {tp : Nat → Nat} {rf : Nat → Int32} {ft fp : Int32} {sd : Nat} {M mem sh : Nat} {ns : Nat → List Nat} {kd : Nat → Nat} {cd : Nat → List Nat} {N : tyN} {sl : Nat → tyN} {nx c cr : Nat} {rn : Nat} {rw_ : Nat → Nat} {on_ : Nat} {ob : Nat → Nat}
def sbH (h : aH) (x : Nat) (a b c d e : Int32) : aH := sI (sI (sI (sI (sI h (x + 83) 5 a) (x + 84) 10 b) (x + 84) 11 c) (x + 84) 12 d) (x + 84) 13 e
theorem sbH.fx {a b c d e : Int32} : FX x (SC x) h (sbH h x a b c d e) := by
  refine ⟨rfl, fun _ _ _ => rfl, rfl, rfl, fun y j q => ?_, fun _ _ _ => rfl⟩
  unfold SC at q
  unfold sbH
  rw [hI_sI, if_neg (by omega), hI_sI, if_neg (by omega), hI_sI, if_neg (by omega), hI_sI, if_neg (by omega), hI_sI, if_neg (by omega)]
theorem fgT_ok (q : okN M mem sh N) (h4 : 4 ≤ M) (h8 : M ≤ 8) {k : Nat} (hk : k < 16) (c : Nat) : OV false (fgT M N k c) := by
  have okp := q.2.1 k (by omega)
  have l1 := lnN_le h4 h8 okp.2.2.1 okp.2.2.2.2.2.1
  have l2 := basN_lt M (N (8 * k + 2)) (N (8 * k + 3)) (N (8 * k + 1))
  have l3 := okp.2.1
  have l4 := okp.2.2.2.2.2.2.1
  unfold fgT
  refine ⟨?_, ?_, fun z => by cases z⟩
  · split
    · omega
    · split
      · omega
      · split <;> omega
  · split
    · omega
    · split
      · omega
      · split <;> omega
theorem c_trap (C : CX h x (r, tl, tp, rf, ft, fp, sd) (M, mem, sh, ns, kd, cd) N (sl, nx, c, cr) (rn, rw_) (on_, ob)) (O : Ok (r, tl, tp, rf, ft, fp, sd) (M, mem, sh, ns, kd, cd) N (sl, nx, c, cr) (rn, rw_) (on_, ob)) (hr : r = 1) {a k : Nat} (ha : a = x + 92 ∨ a = x + 98) (A : MA h a) (B : mB h a M mem sh ns kd cd) (hk : k < 16) : ∃ h1, f_X0_isTrapped (x + 83) a (x + 3 + 7 + k) h = some (b2i (trB M N cd k), h1) ∧ FX x (SC x) h h1 ∧ hR h1 = hR h ∧ hL h1 = hL h := by
  have S := C.1
  have okn := O.okn hr
  have okb := O.okb hr
  have h4 := okb.1
  have h8 := okb.2.1
  have ch := c_has A B (show 2 < 3 by omega)
  rcases okb.2.2.2.2.2.2.2 2 (by omega) with c1 | ty
  · rw [c1] at ch
    have ch : f_X4_hasFormula a (nI 2) h = some (nI 0, h) := ch
    refine ⟨h, ?_, FX.refl x _ h, rfl, rfl⟩
    have tr : trB M N cd k = false := by unfold trB; rw [c1]; rfl
    rw [tr, b2i_f]
    simp (disch := omega) only [nm, bd_s, ko_K, ka_K, koK_t, kaK_t, kr_s, kn_s, kn_n, hK_sI, hR_sI, hK_sL, hR_sL, hI_sL, hL_sI, hL_sL, hI_sI, hN_sI, hN_sL, ch_G, ch_T, nb_0, nb_1, zb_G, d_T, d_F, d_eT, d_eF, b2i_t, b2i_f, tn_nI, fa_lit, fa_litL, m1_e, nI_add, pk_mul, pk_sub, nI_leI, nI_ltI, nI_eq, le_T, le_F, lt_T, lt_F, eq_T, eq_F, if_pos, if_neg, m1_le, m1_lt', m1_gt, m1_le', m1_eq, m1_qe, b2i_eq0, in_N, in_n, in_I, ↓reduceIte, Bool.true_eq_false, Bool.false_eq_true, reduceCtorEq, decide_eq_true_eq, decide_eq_false_iff_not, Nat.not_lt, Nat.not_le, not_true_eq_false, not_false_eq_true, true_and, and_true, and_self, false_and, and_false, true_or, or_true, false_or, or_false, f_X0_isTrapped, A.k, ch]
  · have c1 : ¬ cd 2 = [] := by intro z; rw [z] at ty; cases ty
    have e0 : (cd 2).isEmpty = false := by cases q : cd 2 with | nil => exact absurd q c1 | cons _ _ => rfl
    rw [e0] at ch
    have ch : f_X4_hasFormula a (nI 2) h = some (nI 1, h) := ch
    have kp := S.now.kp (k := k) (by omega)
    have okp := okn.2.1 k (by omega)
    obtain ⟨p0, p1, p2, p3, p4, p5, p6, p7⟩ := C.2.2.2.1.cl (show k < 32 by omega) (okn.fl hk)
    have b2 : hI h a 2 = nI M := B.2.1
    have sb : f_X0_setBounds (x + 83) (x + 3 + 7 + k) (nI M) h = some ((), sbH h x (nI M) (nI (N (8 * k + 1))) (nI (basN M (N (8 * k + 2)) (N (8 * k + 3)) (N (8 * k + 1)))) (nI (lnN M (N (8 * k + 2)) (N (8 * k + 3)) (N (8 * k + 4)))) (nI (N (8 * k + 5)))) := by
      have pb : ∀ v5 v : Int32, f_X6_base (x + 3 + 7 + k) (nI M) (sI (sI h (x + 83) 5 v5) (x + 84) 10 v) = some (nI (basN M (N (8 * k + 2)) (N (8 * k + 3)) (N (8 * k + 1))), sI (sI h (x + 83) 5 v5) (x + 84) 10 v) := by
        intro v5 v
        rw [p_base (h := sI (sI h (x + 83) 5 v5) (x + 84) 10 v) kp]
        rw [hI_sI, if_neg (by omega), hI_sI, if_neg (by omega), hI_sI, if_neg (by omega), hI_sI, if_neg (by omega), hI_sI, if_neg (by omega), hI_sI, if_neg (by omega), p3, p4, p2, bas_nI h4 h8 okp.2.2.1 okp.2.2.2.1 (by have := okp.2.1; omega)]
      have px : ∀ v5 v v' : Int32, f_X6_extent (x + 3 + 7 + k) (nI M) (sI (sI (sI h (x + 83) 5 v5) (x + 84) 10 v) (x + 84) 11 v') = some (nI (lnN M (N (8 * k + 2)) (N (8 * k + 3)) (N (8 * k + 4))), sI (sI (sI h (x + 83) 5 v5) (x + 84) 10 v) (x + 84) 11 v') := by
        intro v5 v v'
        rw [p_extent (h := sI (sI (sI h (x + 83) 5 v5) (x + 84) 10 v) (x + 84) 11 v') kp]
        rw [hI_sI, if_neg (by omega), hI_sI, if_neg (by omega), hI_sI, if_neg (by omega), hI_sI, if_neg (by omega), hI_sI, if_neg (by omega), hI_sI, if_neg (by omega), hI_sI, if_neg (by omega), hI_sI, if_neg (by omega), hI_sI, if_neg (by omega), p3, p4, p5, len_nI h4 h8 okp.2.2.1 okp.2.2.2.1]
        rfl
      simp (disch := omega) only [nm, bd_s, ko_K, ka_K, koK_t, kaK_t, kr_s, kn_s, kn_n, hK_sI, hR_sI, hK_sL, hR_sL, hI_sL, hL_sI, hL_sL, hI_sI, hN_sI, hN_sL, ch_G, ch_T, nb_0, nb_1, zb_G, d_T, d_F, d_eT, d_eF, b2i_t, b2i_f, tn_nI, fa_lit, fa_litL, m1_e, nI_add, pk_mul, pk_sub, nI_leI, nI_ltI, nI_eq, le_T, le_F, lt_T, lt_F, eq_T, eq_F, if_pos, if_neg, m1_le, m1_lt', m1_gt, m1_le', m1_eq, m1_qe, b2i_eq0, in_N, in_n, in_I, ↓reduceIte, Bool.true_eq_false, Bool.false_eq_true, reduceCtorEq, decide_eq_true_eq, decide_eq_false_iff_not, Nat.not_lt, Nat.not_le, not_true_eq_false, not_false_eq_true, true_and, and_true, and_self, false_and, and_false, true_or, or_true, false_or, or_false, f_X0_setBounds, S.k83, S.r83_1, S.k84, kp, p2, pb, px, p6]
      rfl
    have S1 : XS (sbH h x (nI M) (nI (N (8 * k + 1))) (nI (basN M (N (8 * k + 2)) (N (8 * k + 3)) (N (8 * k + 1)))) (nI (lnN M (N (8 * k + 2)) (N (8 * k + 3)) (N (8 * k + 4)))) (nI (N (8 * k + 5)))) x := S.of rfl rfl
    have A1 : MA (sbH h x (nI M) (nI (N (8 * k + 1))) (nI (basN M (N (8 * k + 2)) (N (8 * k + 3)) (N (8 * k + 1)))) (nI (lnN M (N (8 * k + 2)) (N (8 * k + 3)) (N (8 * k + 4)))) (nI (N (8 * k + 5)))) a := A.of rfl rfl
    have fx := sbH.fx (h := h) (x := x) (a := nI M) (b := nI (N (8 * k + 1))) (c := nI (basN M (N (8 * k + 2)) (N (8 * k + 3)) (N (8 * k + 1)))) (d := nI (lnN M (N (8 * k + 2)) (N (8 * k + 3)) (N (8 * k + 4)))) (e := nI (N (8 * k + 5)))
    have gI := fx.2.2.2.2.1
    have B1 : mB (sbH h x (nI M) (nI (N (8 * k + 1))) (nI (basN M (N (8 * k + 2)) (N (8 * k + 3)) (N (8 * k + 1)))) (nI (lnN M (N (8 * k + 2)) (N (8 * k + 3)) (N (8 * k + 4)))) (nI (N (8 * k + 5)))) a M mem sh ns kd cd := by
      obtain ⟨y1, y2, y3, y4, y5, y6⟩ := B
      refine ⟨(gI a 1 (by unfold SC; omega)).trans y1, (gI a 2 (by unfold SC; omega)).trans y2, (gI a 3 (by unfold SC; omega)).trans y3, fun s k z1 z2 z3 => (gI _ _ (by unfold SC; omega)).trans (y4 s k z1 z2 z3), fun s z1 z2 => (gI _ _ (by unfold SC; omega)).trans (y5 s z1 z2), fun w hw => ?_⟩
      obtain ⟨f, g1, g2, g3, g4⟩ := y6 w hw
      exact ⟨f, g1, (gI _ _ (by unfold SC; omega)).trans g2, (gI _ _ (by unfold SC; omega)).trans g3, fun i hi => (gI _ _ (by unfold SC; omega)).trans (g4 i hi)⟩
    obtain ⟨d', f', v, r1, r2, r3⟩ := c_run (o1 := fun _ v => v) (fg := fgT M N k) S1 A1 ha B1 (show 2 < 3 by omega) ty (fun c _ _ => fgT_ok okn h4 h8 hk c) ⟨rfl, rfl⟩ (fun c q _ _ => by
      have := alC_2 q
      rcases (show c = 43 ∨ c = 44 ∨ c = 45 ∨ c = 46 by omega) with rfl | rfl | rfl | rfl
      · refine ⟨by decide, ?_⟩
        show hI (sbH h x _ _ _ _ _) (x + 84) 10 = vI (N (8 * k + 1) : Int)
        unfold sbH
        rw [hI_sI, if_neg (by omega), hI_sI, if_neg (by omega), hI_sI, if_neg (by omega), hI_sI, if_pos ⟨rfl, rfl⟩, vI_n]
      · refine ⟨by decide, ?_⟩
        show hI (sbH h x _ _ _ _ _) (x + 84) 11 = vI (basN M (N (8 * k + 2)) (N (8 * k + 3)) (N (8 * k + 1)) : Int)
        unfold sbH
        rw [hI_sI, if_neg (by omega), hI_sI, if_neg (by omega), hI_sI, if_pos ⟨rfl, rfl⟩, vI_n]
      · refine ⟨by decide, ?_⟩
        show hI (sbH h x _ _ _ _ _) (x + 84) 12 = vI (lnN M (N (8 * k + 2)) (N (8 * k + 3)) (N (8 * k + 4)) : Int)
        unfold sbH
        rw [hI_sI, if_neg (by omega), hI_sI, if_pos ⟨rfl, rfl⟩, vI_n]
      · refine ⟨by decide, ?_⟩
        show hI (sbH h x _ _ _ _ _) (x + 84) 13 = vI (N (8 * k + 5) : Int)
        unfold sbH
        rw [hI_sI, if_pos ⟨rfl, rfl⟩, vI_n])
    have fx2 := WK.fx (h := sbH h x (nI M) (nI (N (8 * k + 1))) (nI (basN M (N (8 * k + 2)) (N (8 * k + 3)) (N (8 * k + 1)))) (nI (lnN M (N (8 * k + 2)) (N (8 * k + 3)) (N (8 * k + 4)))) (nI (N (8 * k + 5)))) (x := x) (d := d') (f := f')
    refine ⟨_, ?_, fx.trans fx2, rfl, rfl⟩
    have tr : trB M N cd k = decide (v = 1) := by unfold trB; rw [r2]; simp
    rw [tr]
    clear fx fx2 gI B1 A1
    generalize WK (sbH h x (nI M) (nI (N (8 * k + 1))) (nI (basN M (N (8 * k + 2)) (N (8 * k + 3)) (N (8 * k + 1)))) (nI (lnN M (N (8 * k + 2)) (N (8 * k + 3)) (N (8 * k + 4)))) (nI (N (8 * k + 5)))) x d' f' = h3 at *
    generalize sbH h x (nI M) (nI (N (8 * k + 1))) (nI (basN M (N (8 * k + 2)) (N (8 * k + 3)) (N (8 * k + 1)))) (nI (lnN M (N (8 * k + 2)) (N (8 * k + 3)) (N (8 * k + 4)))) (nI (N (8 * k + 5))) = h2 at *
    rcases r3.2.2 rfl with rfl | rfl
    · have r1 : f_X0_work (x + 83) a (nI 2) h2 = some (nI 0, h3) := r1
      show _ = some (nI 0, h3)
      simp (disch := omega) only [nm, bd_s, ko_K, ka_K, koK_t, kaK_t, kr_s, kn_s, kn_n, hK_sI, hR_sI, hK_sL, hR_sL, hI_sL, hL_sI, hL_sL, hI_sI, hN_sI, hN_sL, ch_G, ch_T, nb_0, nb_1, zb_G, d_T, d_F, d_eT, d_eF, b2i_t, b2i_f, tn_nI, fa_lit, fa_litL, m1_e, nI_add, pk_mul, pk_sub, nI_leI, nI_ltI, nI_eq, le_T, le_F, lt_T, lt_F, eq_T, eq_F, if_pos, if_neg, m1_le, m1_lt', m1_gt, m1_le', m1_eq, m1_qe, b2i_eq0, in_N, in_n, in_I, ↓reduceIte, Bool.true_eq_false, Bool.false_eq_true, reduceCtorEq, decide_eq_true_eq, decide_eq_false_iff_not, Nat.not_lt, Nat.not_le, not_true_eq_false, not_false_eq_true, true_and, and_true, and_self, false_and, and_false, true_or, or_true, false_or, or_false, f_X0_isTrapped_33, f_X0_isTrapped, A.k, ch, S.k83, b2, sb, S1.k83, r1]
    · have r1 : f_X0_work (x + 83) a (nI 2) h2 = some (nI 1, h3) := r1
      show _ = some (nI 1, h3)
      simp (disch := omega) only [nm, bd_s, ko_K, ka_K, koK_t, kaK_t, kr_s, kn_s, kn_n, hK_sI, hR_sI, hK_sL, hR_sL, hI_sL, hL_sI, hL_sL, hI_sI, hN_sI, hN_sL, ch_G, ch_T, nb_0, nb_1, zb_G, d_T, d_F, d_eT, d_eF, b2i_t, b2i_f, tn_nI, fa_lit, fa_litL, m1_e, nI_add, pk_mul, pk_sub, nI_leI, nI_ltI, nI_eq, le_T, le_F, lt_T, lt_F, eq_T, eq_F, if_pos, if_neg, m1_le, m1_lt', m1_gt, m1_le', m1_eq, m1_qe, b2i_eq0, in_N, in_n, in_I, ↓reduceIte, Bool.true_eq_false, Bool.false_eq_true, reduceCtorEq, decide_eq_true_eq, decide_eq_false_iff_not, Nat.not_lt, Nat.not_le, not_true_eq_false, not_false_eq_true, true_and, and_true, and_self, false_and, and_false, true_or, or_true, false_or, or_false, f_X0_isTrapped_33, f_X0_isTrapped, A.k, ch, S.k83, b2, sb, S1.k83, r1]
end Fo
