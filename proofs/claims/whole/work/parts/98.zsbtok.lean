/-! A MACHINE'S TEXT: the class's tokens -/
section Tk
variable {h h1 : aH} {x a n u : Nat} {tp : Nat → Nat} {σ : tyT}
theorem c_numT {lo hi : Nat} (T0 : TS h x tp n σ) (hn : n ≤ 1600) (h1 : lo ≤ 99999) (h2 : hi ≤ 99999) : (isN tp n σ = true ∧ rn isD tp n σ.1 - σ.1 ≤ 4 ∧ lo ≤ nv tp n σ ∧ nv tp n σ ≤ hi ∧ f_X5_number (x + 104) (nI lo) (nI hi) h = some (nI 1, h) ∧ hI h (x + 105) 5 = nI (nv tp n σ)) ∨ (∃ k p, f_X5_number (x + 104) (nI lo) (nI hi) h = some (nI 0, sI (sI h (x + 104) 0 (nI k)) (x + 104) 1 (nI p)) ∧ (isN tp n σ = true ∧ rn isD tp n σ.1 - σ.1 ≤ 4 ∧ ¬ (lo ≤ nv tp n σ ∧ nv tp n σ ≤ hi) ∧ k = 2 ∧ p = σ.1 ∨ isN tp n σ = true ∧ ¬ rn isD tp n σ.1 - σ.1 ≤ 4 ∧ k = 1 ∧ p = σ.1 + 4 ∨ isN tp n σ = false ∧ k = 1 ∧ p = σ.1)) := by
  have S := T0.1.1
  have v3 := T0.2.2.1
  have vl := nv_le (tp := tp) (n := n) (σ := σ)
  by_cases z : isN tp n σ = true
  · obtain ⟨q1, q2, q3⟩ := isN_t z
    have y1 : ¬ isL (tp σ.1) = true := by
      intro z
      unfold isL at z; unfold isD at q2
      simp only [Bool.and_eq_true, decide_eq_true_eq] at z q2
      omega
    have ek : tkK tp n σ = 2 := by unfold tkK; rw [if_pos q1, if_neg y1, if_pos q2, q3, if_neg (by decide)]
    have ee : tkE tp n σ = rn isD tp n σ.1 := by unfold tkE; rw [if_pos q1, if_neg y1, if_pos q2]
    have ev : tkV tp n σ = nI (nv tp n σ) := by unfold tkV; rw [if_pos q1, if_neg y1, if_pos q2]
    have k2 := T0.2.1
    have v4 := T0.2.2.2.1
    have v5 := T0.2.2.2.2
    rw [ek] at k2
    rw [ee] at v4
    rw [ev] at v5
    have rg := rn_ge (p := isD) (tp := tp) (n := n) σ.1
    have rl := rn_le (p := isD) (tp := tp) (n := n) (q := σ.1) (by omega)
    have f1 : ∀ p : Nat, f_X5_fail (x + 104) (nI 1) (nI p) h = _ := fun p => c_failX S (k := 1) (p := p)
    have f2 : ∀ p : Nat, f_X5_fail (x + 104) (nI 2) (nI p) h = _ := fun p => c_failX S (k := 2) (p := p)
    have f1 := f1 (σ.1 + 4)
    have f2 := f2 σ.1
    generalize rn isD tp n σ.1 = e at *
    generalize nv tp n σ = V at *
    generalize σ.1 = s at *
    by_cases c4 : e - s ≤ 4
    · by_cases cl : lo ≤ V ∧ V ≤ hi
      · left
        obtain ⟨l1, l2⟩ := cl
        refine ⟨z, c4, l1, l2, ?_, v5⟩
        simp (disch := omega) only [nm, bd_s, ko_K, ka_K, koK_t, kaK_t, kr_s, kn_s, kn_n, hK_sI, hR_sI, hK_sL, hR_sL, hI_sL, hL_sI, hL_sL, hI_sI, hN_sI, hN_sL, ch_G, ch_T, nb_0, nb_1, zb_G, d_T, d_F, d_eT, d_eF, b2i_t, b2i_f, tn_nI, fa_lit, fa_litL, m1_e, nI_add, pk_mul, pk_sub, nI_leI, nI_ltI, nI_eq, le_T, le_F, lt_T, lt_F, eq_T, eq_F, if_pos, if_neg, m1_le, m1_lt', m1_gt, m1_le', m1_eq, m1_qe, b2i_eq0, in_N, in_n, in_I, ↓reduceIte, Bool.true_eq_false, Bool.false_eq_true, reduceCtorEq, decide_eq_true_eq, decide_eq_false_iff_not, Nat.not_lt, Nat.not_le, not_true_eq_false, not_false_eq_true, true_and, and_true, and_self, false_and, and_false, true_or, or_true, false_or, or_false, f_X5_number_91, f_X5_number_86, f_X5_number_71, f_X5_number, f_X7_isTooLong_18, f_X7_isTooLong, S.k104, S.r104_2, S.k105, k2, v4, v3, v5]
      · right
        refine ⟨2, s, ?_, Or.inl ⟨z, c4, cl, rfl, rfl⟩⟩
        by_cases l1 : lo ≤ V
        · have l2 : ¬ V ≤ hi := fun y => cl ⟨l1, y⟩
          simp (disch := omega) only [nm, bd_s, ko_K, ka_K, koK_t, kaK_t, kr_s, kn_s, kn_n, hK_sI, hR_sI, hK_sL, hR_sL, hI_sL, hL_sI, hL_sL, hI_sI, hN_sI, hN_sL, ch_G, ch_T, nb_0, nb_1, zb_G, d_T, d_F, d_eT, d_eF, b2i_t, b2i_f, tn_nI, fa_lit, fa_litL, m1_e, nI_add, pk_mul, pk_sub, nI_leI, nI_ltI, nI_eq, le_T, le_F, lt_T, lt_F, eq_T, eq_F, if_pos, if_neg, m1_le, m1_lt', m1_gt, m1_le', m1_eq, m1_qe, b2i_eq0, in_N, in_n, in_I, ↓reduceIte, Bool.true_eq_false, Bool.false_eq_true, reduceCtorEq, decide_eq_true_eq, decide_eq_false_iff_not, Nat.not_lt, Nat.not_le, not_true_eq_false, not_false_eq_true, true_and, and_true, and_self, false_and, and_false, true_or, or_true, false_or, or_false, f_X5_number_91, f_X5_number_86, f_X5_number_71, f_X5_number, f_X7_isTooLong_18, f_X7_isTooLong, S.k104, S.r104_2, S.k105, k2, v4, v3, v5, f2]
        · simp (disch := omega) only [nm, bd_s, ko_K, ka_K, koK_t, kaK_t, kr_s, kn_s, kn_n, hK_sI, hR_sI, hK_sL, hR_sL, hI_sL, hL_sI, hL_sL, hI_sI, hN_sI, hN_sL, ch_G, ch_T, nb_0, nb_1, zb_G, d_T, d_F, d_eT, d_eF, b2i_t, b2i_f, tn_nI, fa_lit, fa_litL, m1_e, nI_add, pk_mul, pk_sub, nI_leI, nI_ltI, nI_eq, le_T, le_F, lt_T, lt_F, eq_T, eq_F, if_pos, if_neg, m1_le, m1_lt', m1_gt, m1_le', m1_eq, m1_qe, b2i_eq0, in_N, in_n, in_I, ↓reduceIte, Bool.true_eq_false, Bool.false_eq_true, reduceCtorEq, decide_eq_true_eq, decide_eq_false_iff_not, Nat.not_lt, Nat.not_le, not_true_eq_false, not_false_eq_true, true_and, and_true, and_self, false_and, and_false, true_or, or_true, false_or, or_false, f_X5_number_91, f_X5_number_86, f_X5_number_71, f_X5_number, f_X7_isTooLong_18, f_X7_isTooLong, S.k104, S.r104_2, S.k105, k2, v4, v3, v5, f2]
    · right
      refine ⟨1, s + 4, ?_, Or.inr (Or.inl ⟨z, c4, rfl, rfl⟩)⟩
      simp (disch := omega) only [nm, bd_s, ko_K, ka_K, koK_t, kaK_t, kr_s, kn_s, kn_n, hK_sI, hR_sI, hK_sL, hR_sL, hI_sL, hL_sI, hL_sL, hI_sI, hN_sI, hN_sL, ch_G, ch_T, nb_0, nb_1, zb_G, d_T, d_F, d_eT, d_eF, b2i_t, b2i_f, tn_nI, fa_lit, fa_litL, m1_e, nI_add, pk_mul, pk_sub, nI_leI, nI_ltI, nI_eq, le_T, le_F, lt_T, lt_F, eq_T, eq_F, if_pos, if_neg, m1_le, m1_lt', m1_gt, m1_le', m1_eq, m1_qe, b2i_eq0, in_N, in_n, in_I, ↓reduceIte, Bool.true_eq_false, Bool.false_eq_true, reduceCtorEq, decide_eq_true_eq, decide_eq_false_iff_not, Nat.not_lt, Nat.not_le, not_true_eq_false, not_false_eq_true, true_and, and_true, and_self, false_and, and_false, true_or, or_true, false_or, or_false, f_X5_number_91, f_X5_number_86, f_X5_number_71, f_X5_number, f_X7_isTooLong_18, f_X7_isTooLong, S.k104, S.r104_2, S.k105, k2, v4, v3, f1]
  · have z' : isN tp n σ = false := by cases y : isN tp n σ with | false => rfl | true => exact absurd y z
    right
    refine ⟨1, σ.1, ?_, Or.inr (Or.inr ⟨z', rfl, rfl⟩)⟩
    have k2 := T0.2.1
    have ek : ¬ tkK tp n σ = 2 := by
      intro y
      unfold tkK at y
      by_cases c1 : σ.1 < n
      · rw [if_pos c1] at y
        by_cases c2 : isL (tp σ.1) = true
        · rw [if_pos c2] at y; split at y <;> omega
        · rw [if_neg c2] at y
          by_cases c3 : isD (tp σ.1) = true
          · rw [if_pos c3] at y
            cases q : σ.2 with
            | true => rw [q, if_pos rfl] at y; omega
            | false => unfold isN at z; simp [c1, c3, q] at z
          · rw [if_neg c3] at y; omega
      · rw [if_neg c1] at y; omega
    have kb : tkK tp n σ ≤ 4 := by unfold tkK; split <;> (try split) <;> (try split) <;> (try split) <;> omega
    have f1 := c_failX S (k := 1) (p := σ.1)
    generalize tkK tp n σ = K at *
    simp (disch := omega) only [nm, bd_s, ko_K, ka_K, koK_t, kaK_t, kr_s, kn_s, kn_n, hK_sI, hR_sI, hK_sL, hR_sL, hI_sL, hL_sI, hL_sL, hI_sI, hN_sI, hN_sL, ch_G, ch_T, nb_0, nb_1, zb_G, d_T, d_F, d_eT, d_eF, b2i_t, b2i_f, tn_nI, fa_lit, fa_litL, m1_e, nI_add, pk_mul, pk_sub, nI_leI, nI_ltI, nI_eq, le_T, le_F, lt_T, lt_F, eq_T, eq_F, if_pos, if_neg, m1_le, m1_lt', m1_gt, m1_le', m1_eq, m1_qe, b2i_eq0, in_N, in_n, in_I, ↓reduceIte, Bool.true_eq_false, Bool.false_eq_true, reduceCtorEq, decide_eq_true_eq, decide_eq_false_iff_not, Nat.not_lt, Nat.not_le, not_true_eq_false, not_false_eq_true, true_and, and_true, and_self, false_and, and_false, true_or, or_true, false_or, or_false, f_X5_number_91, f_X5_number_86, f_X5_number_71, f_X5_number, S.k104, S.r104_2, S.k105, k2, v3, f1]

/-- the reader stands at a token, no fault was told; the machine that is read into is a -/
def CT (h : aH) (x a : Nat) (tp : Nat → Nat) (n : Nat) (σ : tyT) : Prop := TS h x tp n σ ∧ okS tp n σ ∧ hR h (x + 104) 3 = some a ∧ (a = x + 92 ∨ a = x + 98) ∧ hI h (x + 104) 0 = nI 0 ∧ hI h (x + 104) 1 = -nI 1
/-- only the reader went on -/
def PCX (x : Nat) (h h1 : aH) : Prop := FX x (PC x) h h1 ∧ hR h1 = hR h ∧ hL h1 = hL h
theorem PCX.i (p : PCX x h h1) {b j : Nat} (z : ¬ b = x + 105) : hI h1 b j = hI h b j := p.1.2.2.2.2.1 b j (by unfold PC; omega)
def PMc (x a b j : Nat) : Prop := b = x + 104 ∨ b = x + 105 ∧ 2 ≤ j ∨ a ≤ b ∧ b < a + 6
/-- a statement was read -/
def PM (x a : Nat) (h h1 : aH) : Prop := FX x (PMc x a) h h1 ∧ hR h1 = hR h ∧ hL h1 = hL h
theorem PM.refl {x a : Nat} {h : aH} : PM x a h h := ⟨FX.refl _ _ _, rfl, rfl⟩
theorem PM.trans {h2 : aH} (p : PM x a h h1) (q : PM x a h1 h2) : PM x a h h2 := ⟨p.1.trans q.1, q.2.1.trans p.2.1, q.2.2.trans p.2.2⟩
theorem PCX.pm (p : PCX x h h1) : PM x a h h1 := ⟨p.1.mono (fun b j z => by unfold PC at z; unfold PMc; omega), p.2.1, p.2.2⟩
theorem pm_s {b j : Nat} {v : Int32} (z : PMc x a b j) : PM x a h (sI h b j v) := ⟨FX.sI z, rfl, rfl⟩
def flX (h : aH) (x k p : Nat) : aH := sI (sI h (x + 104) 0 (nI k)) (x + 104) 1 (nI p)
theorem flX_0 {k p : Nat} : hI (flX h x k p) (x + 104) 0 = nI k := by unfold flX; rw [hI_sI, if_neg (by omega), hI_sI, if_pos ⟨rfl, rfl⟩]
theorem flX_1 {k p : Nat} : hI (flX h x k p) (x + 104) 1 = nI p := by unfold flX; rw [hI_sI, if_pos ⟨rfl, rfl⟩]
theorem pm_fl {k p : Nat} : PM x a h (flX h x k p) := (pm_s (by unfold PMc; omega)).trans (pm_s (by unfold PMc; omega))
theorem CT.ts (T : CT h x a tp n σ) : TS h x tp n σ := T.1
theorem CT.xs (T : CT h x a tp n σ) : XS h x := T.1.1.1
theorem CT.v3 (T : CT h x a tp n σ) : hI h (x + 105) 3 = nI σ.1 := T.1.2.2.1
theorem ct_nx (T : CT h x a tp n σ) (tb : ∀ j, tp j ≤ 255) (hn : n ≤ 1600) {σ' : tyT} (h4 : ¬ tkK tp n σ = 4) (e1 : σ' = (sk tp n (tkE tp n σ), decide ((tkK tp n σ = 1 ∨ tkK tp n σ = 2) ∧ sk tp n (tkE tp n σ) = tkE tp n σ))) : ∃ h1, f_X7_next (x + 105) h = some ((), h1) ∧ CT h1 x a tp n σ' ∧ PCX x h h1 := by
  obtain ⟨⟨T0, k2, v3, v4, v5⟩, o, i3, ha, b0, b1⟩ := T
  have kb : tkK tp n σ ≤ 5 := by unfold tkK; split <;> (try split) <;> (try split) <;> (try split) <;> omega
  have ge : σ.1 ≤ tkE tp n σ ∧ tkE tp n σ ≤ n := by
    have := o.1
    have g1 := rn_ge (p := isL) (tp := tp) (n := n) σ.1
    have g2 := rn_ge (p := isD) (tp := tp) (n := n) σ.1
    have g3 := rn_le (p := isL) (tp := tp) this
    have g4 := rn_le (p := isD) (tp := tp) this
    unfold tkE; split <;> (try split) <;> (try split) <;> omega
  obtain ⟨h1, e2, T1, f1, r1, l1⟩ := c_next0 T0 tb hn ge.2 kb k2 v4
  rw [← e1] at T1
  have fI := f1.2.2.2.2.1
  exact ⟨h1, e2, ⟨T1, by rw [e1]; exact okS.sk ge.2 _, by rw [r1]; exact i3, ha, by rw [fI _ _ (by unfold PC; omega)]; exact b0, by rw [fI _ _ (by unfold PC; omega)]; exact b1⟩, ⟨f1, r1, l1⟩⟩
theorem ct_nxL (T : CT h x a tp n σ) (tb : ∀ j, tp j ≤ 255) (hn : n ≤ 1600) (q1 : σ.1 < n) (q2 : isL (tp σ.1) = true) (q3 : σ.2 = false) : ∃ h1, f_X7_next (x + 105) h = some ((), h1) ∧ CT h1 x a tp n (nW tp n σ) ∧ PCX x h h1 := by
  have ek : tkK tp n σ = 1 := by unfold tkK; rw [if_pos q1, if_pos q2, q3, if_neg (by decide)]
  have ee : tkE tp n σ = rn isL tp n σ.1 := by unfold tkE; rw [if_pos q1, if_pos q2]
  refine ct_nx T tb hn (by omega) ?_
  unfold nW
  rw [ee, ek]
  simp
theorem ct_nxW (T : CT h x a tp n σ) (tb : ∀ j, tp j ≤ 255) (hn : n ≤ 1600) {i : Nat} (q : isW tp n σ i = true) : ∃ h1, f_X7_next (x + 105) h = some ((), h1) ∧ CT h1 x a tp n (nW tp n σ) ∧ PCX x h h1 := by
  obtain ⟨q1, q2, q3, q4⟩ := isW_t q
  exact ct_nxL T tb hn q1 q2 q3
theorem ct_nxS (T : CT h x a tp n σ) (tb : ∀ j, tp j ≤ 255) (hn : n ≤ 1600) {q : Nat} (hL : isL q = false) (hD : isD q = false) (hq : isS tp n σ q = true) : ∃ h1, f_X7_next (x + 105) h = some ((), h1) ∧ CT h1 x a tp n (nS tp n σ) ∧ PCX x h h1 := by
  obtain ⟨q1, q2⟩ := isS_t hq
  have y1 : ¬ isL (tp σ.1) = true := by rw [q2, hL]; decide
  have y2 : ¬ isD (tp σ.1) = true := by rw [q2, hD]; decide
  have ek : tkK tp n σ = 3 := by unfold tkK; rw [if_pos q1, if_neg y1, if_neg y2]
  have ee : tkE tp n σ = σ.1 + 1 := by unfold tkE; rw [if_pos q1, if_neg y1, if_neg y2]
  refine ct_nx T tb hn (by omega) ?_
  unfold nS
  rw [ee, ek]
  simp
theorem ct_nxN (T : CT h x a tp n σ) (tb : ∀ j, tp j ≤ 255) (hn : n ≤ 1600) (hq : isN tp n σ = true) : ∃ h1, f_X7_next (x + 105) h = some ((), h1) ∧ CT h1 x a tp n (nD tp n σ) ∧ PCX x h h1 := by
  obtain ⟨q1, q2, q3⟩ := isN_t hq
  have y1 : ¬ isL (tp σ.1) = true := by
    intro z
    unfold isL at z; unfold isD at q2
    simp only [Bool.and_eq_true, decide_eq_true_eq] at z q2
    omega
  have ek : tkK tp n σ = 2 := by unfold tkK; rw [if_pos q1, if_neg y1, if_pos q2, q3, if_neg (by decide)]
  have ee : tkE tp n σ = rn isD tp n σ.1 := by unfold tkE; rw [if_pos q1, if_neg y1, if_pos q2]
  refine ct_nx T tb hn (by omega) ?_
  unfold nD
  rw [ee, ek]
  simp
/-- a heap that differs elsewhere -/
theorem CT.fr (T : CT h x a tp n σ) (K : hK h1 = hK h) (R : hR h1 = hR h) (e : ∀ b j, b = x + 1 ∨ b = x + 104 ∧ j < 2 ∨ b = x + 105 → hI h1 b j = hI h b j) : CT h1 x a tp n σ := by
  obtain ⟨⟨⟨S, tx, r0, n1⟩, k2, v3, v4, v5⟩, o, i3, ha, b0, b1⟩ := T
  exact ⟨⟨⟨S.of K R, fun j hj => (e _ _ (Or.inl rfl)).trans (tx j hj), by rw [R]; exact r0, (e _ _ (Or.inr (Or.inr rfl))).trans n1⟩, (e _ _ (Or.inr (Or.inr rfl))).trans k2, (e _ _ (Or.inr (Or.inr rfl))).trans v3, (e _ _ (Or.inr (Or.inr rfl))).trans v4, (e _ _ (Or.inr (Or.inr rfl))).trans v5⟩, o, by rw [R]; exact i3, ha, (e _ _ (Or.inr (Or.inl ⟨rfl, by omega⟩))).trans b0, (e _ _ (Or.inr (Or.inl ⟨rfl, by omega⟩))).trans b1⟩
def TkR (x a : Nat) (tp : Nat → Nat) (n : Nat) (r : tyF tyT) (h : aH) (s : Option (Int32 × aH)) : Prop := match r with
  | .inl e => s = some (nI 0, flX h x e.1 e.2)
  | .inr σ => ∃ h1, s = some (nI 1, h1) ∧ CT h1 x a tp n σ ∧ PCX x h h1
theorem fl_b {k p : Nat} (S : XS h x) : (bd (f_X5_fail (x + 104) (nI k) (nI p) h) fun v g => chk (narrow .boolean (.int v) = .int v) <| some (v, g)) = some (nI 0, flX h x k p) := by
  rw [bd_t (c_failX S), z0_G]
  rfl
theorem ct_word (T : CT h x a tp n σ) (tb : ∀ j, tp j ≤ 255) (hn : n ≤ 1600) {i : Nat} (hi : i < 31) : TkR x a tp n (pWd tp n i σ) h (f_X5_word (x + 104) (nI i) h) := by
  have S := T.xs
  have w := c_isW T.ts hi
  unfold pWd f_X5_word
  rw [ko_t S.k104, kr_t S.r104_2, ko_t S.k105]
  by_cases z : isW tp n σ i = true
  · obtain ⟨h1, e1, T1, p1⟩ := ct_nxW T tb hn z
    rw [if_pos z]
    refine ⟨h1, ?_, T1, p1⟩
    rw [bd_t w, if_neg (b2i_nt z), ko_t S.k104, kr_t S.r104_2, ko_t S.k105, bd_t e1]
    rfl
  · rw [if_neg z]
    show _ = some (nI 0, flX h x 1 σ.1)
    rw [bd_t w, if_pos (b2i_nf z), ko_t S.k104, kr_t S.r104_2, ko_t S.k105, T.v3]
    exact fl_b S
theorem ct_sign (T : CT h x a tp n σ) (tb : ∀ j, tp j ≤ 255) (hn : n ≤ 1600) {q : Nat} (hL : isL q = false) (hD : isD q = false) (hq : q ≤ 255) : TkR x a tp n (pSg tp n q σ) h (f_X5_sign (x + 104) (nI q) h) := by
  have S := T.xs
  have w := c_isS T.ts tb hL hD hq
  unfold pSg f_X5_sign
  rw [ko_t S.k104, kr_t S.r104_2, ko_t S.k105]
  by_cases z : isS tp n σ q = true
  · obtain ⟨h1, e1, T1, p1⟩ := ct_nxS T tb hn hL hD z
    rw [if_pos z]
    refine ⟨h1, ?_, T1, p1⟩
    rw [bd_t w, if_neg (b2i_nt z), ko_t S.k104, kr_t S.r104_2, ko_t S.k105, bd_t e1]
    rfl
  · rw [if_neg z]
    show _ = some (nI 0, flX h x 1 σ.1)
    rw [bd_t w, if_pos (b2i_nf z), ko_t S.k104, kr_t S.r104_2, ko_t S.k105, T.v3]
    exact fl_b S
theorem ct_num (T : CT h x a tp n σ) (hn : n ≤ 1600) {lo hi : Nat} (h1 : lo ≤ 99999) (h2 : hi ≤ 99999) : (∃ e, pNu tp n lo hi σ = .inl e ∧ f_X5_number (x + 104) (nI lo) (nI hi) h = some (nI 0, flX h x e.1 e.2)) ∨ (isN tp n σ = true ∧ (lo ≤ nv tp n σ ∧ nv tp n σ ≤ hi) ∧ pNu tp n lo hi σ = .inr (nv tp n σ, nD tp n σ) ∧ f_X5_number (x + 104) (nI lo) (nI hi) h = some (nI 1, h) ∧ hI h (x + 105) 5 = nI (nv tp n σ)) := by
  rcases c_numT T.ts hn h1 h2 with ⟨z, c4, l1, l2, e, v⟩ | ⟨k, p, e, z⟩
  · right
    refine ⟨z, ⟨l1, l2⟩, ?_, e, v⟩
    unfold pNu
    rw [if_pos z, if_pos c4, if_pos ⟨l1, l2⟩]
  · left
    refine ⟨(k, p), ?_, e⟩
    unfold pNu
    rcases z with ⟨z, c4, l, rfl, rfl⟩ | ⟨z, c4, rfl, rfl⟩ | ⟨z, rfl, rfl⟩
    · rw [if_pos z, if_pos c4, if_neg l]
    · rw [if_pos z, if_neg c4]
    · rw [if_neg (by rw [z]; decide)]
end Tk
