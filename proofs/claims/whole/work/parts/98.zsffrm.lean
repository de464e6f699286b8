/-! A MACHINE'S TEXT: the class's formulas and statements -/
section Fs
variable {h h1 : aH} {x a n u : Nat} {tp : Nat → Nat} {σ : tyT} {B : tyB}
theorem c_form {w : Nat} {Z O : aH → Option (Int32 × aH)} (hZ : ∀ g, Z g = some (nI 0, g)) (hO : ∀ g, O g = some (nI 1, g)) (hw : w < 3) (C : CS h x a tp n u B σ) (tb : ∀ j, tp j ≤ 255) (hn : n ≤ 1600) (iw : isW tp n σ (4 + w) = true) : CsR x a tp n (pFm tp n w B σ) h (bd (f_X5_begins (x + 104) (nI w) (nI (mk w)) h) fun v22 h23 => if v22 = 0 then Z h23 else ko h23 (x + 104) 5 <| bd (f_P 100 (tgW w) (x + 104) 0 h23) fun v26 h27 => if v26 = 0 then Z h27 else ko h27 (x + 104) 5 <| bd (f_X5_ends (x + 104) (nI w) h27) fun v30 h31 => if v30 = 0 then Z h31 else O h31) := by
  obtain ⟨T, M, ul⟩ := C
  have S := T.xs
  have ha := T.2.2.2.1
  have A := S.ma ha
  have sn := T.2.1.1
  obtain ⟨m1, m2, m3, m4, m5, m6, m7⟩ := M
  obtain ⟨f, f1, f2, f3, f4, f5⟩ := m6 w hw
  unfold pFm
  by_cases em : (B.2.2.2.2.2 w).isEmpty = true
  · have e0 : B.2.2.2.2.2 w = [] := List.isEmpty_iff.mp em
    have fz := f4 e0
    rw [fz] at f2 f3
    rw [e0] at f3
    obtain ⟨h1, e1, S1, g4, fx, r1, l1⟩ := c_begins (w := w) (w' := w) (u := u) (c := []) T.ts T.2.1 T.2.2.1 ha ⟨m7, fun i hi => absurd hi (Nat.not_lt_zero _)⟩ ul tb hn iw hw f2 f3 T.2.2.2.2.1 T.2.2.2.2.2
    have X1 := S1.1.1.1
    have gI := fx.2.2.2.2.1
    have p1 : PM x a h h1 := ⟨fx.mono (fun b j z => by unfold PB at z; unfold PMc; omega), r1, l1⟩
    have p := c_P (x := x) (a := a) (u := u) tb hn (show w < 4 by omega) 100 (tgW w) 0 (nW tp n σ) h1 [] (by unfold tgW; split <;> omega) (by omega) (by unfold tgW; split <;> omega) (by unfold tgW; split <;> decide) S1
    rw [if_pos em, bd_t e1, if_neg (show ¬ nI 1 = (0 : Int32) by decide), ko_t X1.k104]
    revert p
    cases pD tp n w 100 (tgW w) 0 (nW tp n σ) with
    | none => rintro ⟨-, z⟩; exact z.elim
    | some r =>
      cases r with
      | inl e =>
        rintro ⟨⟨h2, e2, c0, c1, px⟩, -⟩
        refine ⟨h2, ?_, c0, c1, p1.trans ⟨px.1.mono (fun b j z => by unfold PZ at z; unfold PMc; omega), px.2.1, px.2.2⟩⟩
        rw [bd_t (show f_P 100 (tgW w) (x + 104) 0 h1 = _ from e2), if_pos (show nI 0 = (0 : Int32) from rfl)]
        exact hZ h2
      | inr q =>
        rintro ⟨⟨h2, e2, S2, px⟩, gd⟩
        have X2 := S2.1.1.1
        have A2 := X2.ma ha
        rw [List.nil_append] at S2
        have c2 := S2.2.2.2.2.2.1
        have le2 := S2.2.2.2.2.2.2
        have sn2 := S2.2.1.1
        have e3 : Int32.ofNat 3 = nI 3 := rfl
        have i92 := c2.1
        have en : f_X4_endFormula a (nI w) h2 = some ((), sI h2 (a + 5) w (nI (u + q.1.length))) := by
          simp (disch := omega) only [nm, bd_s, ko_K, ka_K, koK_t, kaK_t, kr_s, kn_s, kn_n, hK_sI, hR_sI, hK_sL, hR_sL, hI_sL, hL_sI, hL_sL, hI_sI, hN_sI, hN_sL, ch_G, ch_T, nb_0, nb_1, zb_G, d_T, d_F, d_eT, d_eF, b2i_t, b2i_f, tn_nI, fa_lit, fa_litL, m1_e, nI_add, pk_mul, pk_sub, nI_leI, nI_ltI, nI_eq, le_T, le_F, lt_T, lt_F, eq_T, eq_F, if_pos, if_neg, m1_le, m1_lt', m1_gt, m1_le', m1_eq, m1_qe, b2i_eq0, in_N, in_n, in_I, ↓reduceIte, Bool.true_eq_false, Bool.false_eq_true, reduceCtorEq, decide_eq_true_eq, decide_eq_false_iff_not, Nat.not_lt, Nat.not_le, not_true_eq_false, not_false_eq_true, true_and, and_true, and_self, false_and, and_false, true_or, or_true, false_or, or_false, f_X4_endFormula_23, f_X4_endFormula, A2.k, A2.r8, A2.k5, i92, e3]
        have ends : f_X5_ends (x + 104) (nI w) h2 = some (nI 1, sI h2 (a + 5) w (nI (u + q.1.length))) := by
          unfold f_X5_ends
          rw [ko_t X2.k104, kr_t S2.2.2.1, ko_t A2.k, bd_t en]
          rfl
        obtain ⟨h3, hh3⟩ : ∃ h3, h3 = sI h2 (a + 5) w (nI (u + q.1.length)) := ⟨_, rfl⟩
        rw [← hh3] at ends
        have g3 : ∀ b j, ¬ (b = a + 5 ∧ j = w) → hI h3 b j = hI h2 b j := fun b j z => by rw [hh3, hI_sI, if_neg z]
        have g2 : ∀ b j, ¬ PZ x a u b j → hI h2 b j = hI h1 b j := px.1.2.2.2.2.1
        have p2 : PM x a h1 h2 := ⟨px.1.mono (fun b j z => by unfold PZ at z; unfold PMc; omega), px.2.1, px.2.2⟩
        have p3 : PM x a h2 h3 := by rw [hh3]; exact pm_s (by unfold PMc; omega)
        have gA : ∀ b j, a ≤ b → b < a + 6 → ¬ (b = a ∧ j = 9 ∨ b = a + 3 ∧ u ≤ j ∨ b = a + 4 ∧ j = w ∨ b = a + 5 ∧ j = w) → hI h3 b j = hI h b j := by
          intro b j b1 b2 z
          rw [g3 b j (by omega), g2 b j (by unfold PZ; omega), gI b j (by unfold PB; omega)]
        have T3 : CT h3 x a tp n q.2 := by
          have t2 : CT h2 x a tp n q.2 := ⟨S2.1, S2.2.1, S2.2.2.1, ha, S2.2.2.2.2.1.2.1, S2.2.2.2.2.1.2.2⟩
          exact t2.fr (by rw [hh3]; rfl) (by rw [hh3]; rfl) (fun b j y => g3 b j (by omega))
        refine ⟨h3, u + q.1.length, ?_, ⟨T3, ⟨?_, ?_, ?_, ?_, ?_, ?_, ?_⟩, le2⟩, (p1.trans p2).trans p3, gA _ _ (by omega) (by omega) (by omega)⟩
        · rw [bd_t (show f_P 100 (tgW w) (x + 104) 0 h1 = _ from e2), if_neg (show ¬ nI 1 = (0 : Int32) by decide), ko_t X2.k104, bd_t ends, if_neg (show ¬ nI 1 = (0 : Int32) by decide)]
          exact hO h3
        · exact (gA _ _ (by omega) (by omega) (by omega)).trans m1
        · exact (gA _ _ (by omega) (by omega) (by omega)).trans m2
        · exact (gA _ _ (by omega) (by omega) (by omega)).trans m3
        · exact fun s k hs h4 hk => (gA _ _ (by omega) (by omega) (by omega)).trans (m4 s k hs h4 hk)
        · exact fun s hs h4 => (gA _ _ (by omega) (by omega) (by omega)).trans (m5 s hs h4)
        · intro w' hw'
          show ∃ f, f + (updA B.2.2.2.2.2 w q.1 w').length ≤ u + q.1.length ∧ hI h3 (a + 4) w' = nI f ∧ hI h3 (a + 5) w' = nI (f + (updA B.2.2.2.2.2 w q.1 w').length) ∧ (updA B.2.2.2.2.2 w q.1 w' = [] → f = 0) ∧ ∀ i, i < (updA B.2.2.2.2.2 w q.1 w').length → hI h3 (a + 3) (f + i) = ccI ((updA B.2.2.2.2.2 w q.1 w').getD i 0)
          unfold updA
          by_cases y : w' = w
          · rw [if_pos y, y]
            refine ⟨u, Nat.le_refl _, ?_, ?_, fun z => absurd z gd.2.2.2.1, fun i hi => ?_⟩
            · rw [g3 _ _ (by omega), g2 _ _ (by unfold PZ; omega)]; exact g4
            · rw [hh3, hI_sI, if_pos ⟨rfl, rfl⟩]
            · rw [g3 _ _ (by omega)]; exact c2.2 i hi
          · rw [if_neg y]
            obtain ⟨f', y1, y2, y3, y4, y5⟩ := m6 w' hw'
            exact ⟨f', by omega, (gA _ _ (by omega) (by omega) (by omega)).trans y2, (gA _ _ (by omega) (by omega) (by omega)).trans y3, y4, fun i hi => (gA _ _ (by omega) (by omega) (by omega)).trans (y5 i hi)⟩
        · rw [g3 _ _ (by omega)]; exact i92
  · have ne : 1 ≤ (B.2.2.2.2.2 w).length := by
      cases y : B.2.2.2.2.2 w with
      | nil => rw [y] at em; exact absurd rfl em
      | cons _ _ => simp
    have e3 : Int32.ofNat 3 = nI 3 := rfl
    have has : f_X4_hasFormula a (nI w) h = some (nI 1, h) := by
      simp (disch := omega) only [nm, bd_s, ko_K, ka_K, koK_t, kaK_t, kr_s, kn_s, kn_n, hK_sI, hR_sI, hK_sL, hR_sL, hI_sL, hL_sI, hL_sL, hI_sI, hN_sI, hN_sL, ch_G, ch_T, nb_0, nb_1, zb_G, d_T, d_F, d_eT, d_eF, b2i_t, b2i_f, tn_nI, fa_lit, fa_litL, m1_e, nI_add, pk_mul, pk_sub, nI_leI, nI_ltI, nI_eq, le_T, le_F, lt_T, lt_F, eq_T, eq_F, if_pos, if_neg, m1_le, m1_lt', m1_gt, m1_le', m1_eq, m1_qe, b2i_eq0, in_N, in_n, in_I, ↓reduceIte, Bool.true_eq_false, Bool.false_eq_true, reduceCtorEq, decide_eq_true_eq, decide_eq_false_iff_not, Nat.not_lt, Nat.not_le, not_true_eq_false, not_false_eq_true, true_and, and_true, and_self, false_and, and_false, true_or, or_true, false_or, or_false, f_X4_hasFormula_33, f_X4_hasFormula_32, f_X4_hasFormula, A.k, A.r8, A.k5, A.r7, A.k4, f2, f3, e3]
    rw [if_neg em]
    refine cs_fl (e := (5, σ.1)) PM.refl ?_
    have bg : f_X5_begins (x + 104) (nI w) (nI (mk w)) h = some (nI 0, flX h x 5 σ.1) := by
      unfold f_X5_begins
      rw [ko_t S.k104, kr_t T.2.2.1, ko_t A.k, bd_t has, if_neg (show ¬ nI 1 = (0 : Int32) by decide), ko_t S.k104, kr_t S.r104_2, ko_t S.k105, T.v3]
      exact fl_b S
    rw [bd_t bg, if_pos (show nI 0 = (0 : Int32) from rfl)]
    exact hZ _
theorem cs_chk {r : tyF (tyB × tyT)} {s : Option (Int32 × aH)} (k : CsR x a tp n r h s) : CsR x a tp n r h (bd s fun v g => chk (narrow .boolean (.int v) = .int v) <| some (v, g)) := by
  cases r with
  | inl e =>
    obtain ⟨h1, e1, q⟩ := k
    exact ⟨h1, by rw [bd_t e1, z0_G], q⟩
  | inr q =>
    obtain ⟨h1, u, e1, q⟩ := k
    exact ⟨h1, u, by rw [bd_t e1, z1_G], q⟩
theorem c_stm {k : Nat} (C : CS h x a tp n u B σ) (tb : ∀ j, tp j ≤ 255) (hn : n ≤ 1600) (o : okQ B) (k1 : 1 ≤ k) (k2 : k ≤ 100) (c0 : hI h a 0 = nI k) : CsR x a tp n (pStm tp n B σ) h (f_X5_statement (x + 104) a h) := by
  have T := C.1
  have S := T.xs
  have ha := T.2.2.2.1
  have A := S.ma ha
  have st : f_X5_statement (x + 104) a h = f_X5_statement_35 (x + 104) a (if hI h (x + 105) 2 = 1 then hI h (x + 105) 5 else -1) h := by
    unfold f_X5_statement
    rw [ko_t A.k, c0, if_neg (show ¬ nI k = (0 : Int32) from nI_q (b := 0) (by omega) (by omega) (by omega)), ko_t S.k104, kr_t S.r104_2, ko_t S.k105]
    by_cases z : hI h (x + 105) 2 = 1
    · rw [if_pos z, if_pos z]
    · rw [if_neg z, if_neg z]
  have at_ : ∀ i, i < 31 → isW tp n σ i = true → f_X5_statement (x + 104) a h = f_X5_statement_35 (x + 104) a (nI i) h := by
    intro i hi iw
    obtain ⟨y1, y2⟩ := (ct_isW T hi).mp iw
    rw [st, if_pos y1, y2]
  unfold pStm
  by_cases i2 : isW tp n σ 2 = true
  · rw [if_pos i2, at_ 2 (by omega) i2]
    unfold f_X5_statement_35
    rw [if_neg (show ¬ nI 2 < (2 : Int32) by decide), if_neg (show ¬ (6 : Int32) < nI 2 by decide), if_pos (show nI 2 = (2 : Int32) from rfl), ko_t S.k104]
    exact cs_chk (c_shelf C tb hn o i2)
  rw [if_neg i2]
  by_cases i4 : isW tp n σ 4 = true
  · rw [if_pos i4, at_ 4 (by omega) i4]
    unfold f_X5_statement_35
    rw [if_neg (show ¬ nI 4 < (2 : Int32) by decide), if_neg (show ¬ (6 : Int32) < nI 4 by decide), if_neg (show ¬ nI 4 = (2 : Int32) by decide), if_neg (show ¬ nI 4 = (3 : Int32) by decide), if_pos (show nI 4 = (4 : Int32) from rfl), ko_t S.k104]
    exact c_form (w := 0) (Z := f_X5_statement_109) (O := f_X5_statement_110 1) (fun g => by unfold f_X5_statement_109 f_X5_statement_110; rw [show (0 : Int32) = nI 0 from rfl, z0_G]) (fun g => by unfold f_X5_statement_110; rw [show (1 : Int32) = nI 1 from rfl, z1_G]) (by omega) C tb hn i4
  rw [if_neg i4]
  by_cases i5 : isW tp n σ 5 = true
  · rw [if_pos i5, at_ 5 (by omega) i5]
    unfold f_X5_statement_35
    rw [if_neg (show ¬ nI 5 < (2 : Int32) by decide), if_neg (show ¬ (6 : Int32) < nI 5 by decide), if_neg (show ¬ nI 5 = (2 : Int32) by decide), if_neg (show ¬ nI 5 = (3 : Int32) by decide), if_neg (show ¬ nI 5 = (4 : Int32) by decide), if_pos (show nI 5 = (5 : Int32) from rfl), ko_t S.k104]
    exact c_form (w := 1) (Z := f_X5_statement_142) (O := f_X5_statement_143 1) (fun g => by unfold f_X5_statement_142 f_X5_statement_143; rw [show (0 : Int32) = nI 0 from rfl, z0_G]) (fun g => by unfold f_X5_statement_143; rw [show (1 : Int32) = nI 1 from rfl, z1_G]) (by omega) C tb hn i5
  rw [if_neg i5]
  by_cases i6 : isW tp n σ 6 = true
  · rw [if_pos i6, at_ 6 (by omega) i6]
    unfold f_X5_statement_35
    rw [if_neg (show ¬ nI 6 < (2 : Int32) by decide), if_neg (show ¬ (6 : Int32) < nI 6 by decide), if_neg (show ¬ nI 6 = (2 : Int32) by decide), if_neg (show ¬ nI 6 = (3 : Int32) by decide), if_neg (show ¬ nI 6 = (4 : Int32) by decide), if_neg (show ¬ nI 6 = (5 : Int32) by decide), if_pos (show nI 6 = (6 : Int32) from rfl), ko_t S.k104]
    exact c_form (w := 2) (Z := f_X5_statement_175) (O := f_X5_statement_176 1) (fun g => by unfold f_X5_statement_175 f_X5_statement_176; rw [show (0 : Int32) = nI 0 from rfl, z0_G]) (fun g => by unfold f_X5_statement_176; rw [show (1 : Int32) = nI 1 from rfl, z1_G]) (by omega) C tb hn i6
  rw [if_neg i6]
  refine cs_fl (e := (1, σ.1)) PM.refl ?_
  have f177 : f_X5_statement_177 (x + 104) h = some (nI 0, flX h x 1 σ.1) := by
    unfold f_X5_statement_177
    rw [ko_t S.k104, kr_t S.r104_2, ko_t S.k105, T.v3]
    exact fl_b S
  rw [st]
  by_cases z : hI h (x + 105) 2 = 1
  · rw [if_pos z]
    have ek : tkK tp n σ = 1 := (nI_eq (b := 1) (by have := tkK_le (tp := tp) (n := n) (σ := σ); omega) (by omega)).mp (T.1.2.1.symm.trans z)
    obtain ⟨q1, q2, q3⟩ := tkK_1 ek
    have ev : tkV tp n σ = opI (wv tp n σ) := by unfold tkV; rw [if_pos q1, if_pos q2]
    have v5 := T.1.2.2.2.2
    rw [ev] at v5
    cases e : wv tp n σ with
    | none =>
      rw [v5, e]
      unfold f_X5_statement_35
      rw [if_pos (show opI none < (2 : Int32) by decide)]
      exact f177
    | some j =>
      have j31 := wv_lt e
      have no : ∀ i, i < 31 → isW tp n σ i = false → ¬ j = i := by
        intro i hi iw ji
        have := (ct_isW T hi).mpr ⟨z, by rw [v5, e, ji]; rfl⟩
        rw [iw] at this
        cases this
      have nt : ∀ b : Bool, ¬ b = true → b = false := fun b => by cases b <;> simp
      have n2 := no 2 (by omega) (nt _ i2)
      have n4 := no 4 (by omega) (nt _ i4)
      have n5 := no 5 (by omega) (nt _ i5)
      have n6 := no 6 (by omega) (nt _ i6)
      rw [v5, e]
      show f_X5_statement_35 (x + 104) a (nI j) h = _
      unfold f_X5_statement_35
      by_cases j2 : j < 2
      · rw [if_pos (show nI j < (2 : Int32) by rw [show (2 : Int32) = nI 2 from rfl, nI_ltI (by omega) (by omega)]; exact j2)]
        exact f177
      rw [if_neg (show ¬ nI j < (2 : Int32) by rw [show (2 : Int32) = nI 2 from rfl, nI_ltI (by omega) (by omega)]; exact j2)]
      by_cases j6 : 6 < j
      · rw [if_pos (show (6 : Int32) < nI j by rw [show (6 : Int32) = nI 6 from rfl, nI_ltI (by omega) (by omega)]; exact j6)]
        exact f177
      rw [if_neg (show ¬ (6 : Int32) < nI j by rw [show (6 : Int32) = nI 6 from rfl, nI_ltI (by omega) (by omega)]; exact j6)]
      have j3 : j = 3 := by omega
      rw [j3, if_neg (show ¬ nI 3 = (2 : Int32) by decide), if_pos (show nI 3 = (3 : Int32) from rfl)]
      exact f177
  · rw [if_neg z]
    unfold f_X5_statement_35
    rw [if_pos (show (-1 : Int32) < 2 by decide)]
    exact f177
end Fs
