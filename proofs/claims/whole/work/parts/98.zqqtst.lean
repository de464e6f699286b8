/-! THE TEXTS: and, or, the end of a test in the reference -/
section Ti
variable {h : aH} {x n w o bs k1 k2 : Nat} {tp : Nat → Nat} {σ : tyT} {c W : List Nat}
theorem m_87 : ∀ (P R c : List Nat) (k : Nat) (h : aH), (∀ v ∈ P, v = 10) → (∀ v, R.head? = some v → ¬ v = 10) → P.length < k → c.length + P.length ≤ 1650 → R.length < 1650 → QQ h x w c (P ++ R) o bs → ∃ h1, f_X12_qGoesOnTest_87 k (x + 107) h = some (nI 1, h1) ∧ QQ h1 x w (c ++ P) (10 :: R) o bs ∧ QY x h h1 := by
  intro P
  induction P with
  | nil =>
    intro R c k h hP hR hk hc hl Q
    obtain ⟨k, rfl⟩ : ∃ j, k = j + 1 := ⟨k - 1, by have : (0 : Nat) < k := hk; omega⟩
    have Q : QQ h x w c R o bs := Q
    have S := Q.1
    have d1 := Q.2.2.1.1
    have i := m_isOn Q (q := 10) (by omega)
    rw [decide_eq_false (fun z => hR 10 z rfl), b2i_f] at i
    have i : f_X12_qIsOn (x + 107) 10 h = some (nI 0, h) := i
    rw [List.append_nil]
    refine ⟨_, ?_, Q.push (v := 10) hl (by omega), (qy_s (by unfold QD; omega)).trans (qy_s (by unfold QD; omega))⟩
    generalize R.length = l at *
    simp (disch := omega) only [nm, bd_s, ko_K, ka_K, koK_t, kaK_t, kr_s, kn_s, kn_n, hK_sI, hR_sI, hK_sL, hR_sL, hI_sL, hL_sI, hL_sL, hI_sI, hN_sI, hN_sL, ch_G, ch_T, nb_0, nb_1, zb_G, d_T, d_F, d_eT, d_eF, b2i_t, b2i_f, tn_nI, fa_lit, fa_litL, m1_e, nI_add, pk_mul, pk_sub, nI_leI, nI_ltI, nI_eq, le_T, le_F, lt_T, lt_F, eq_T, eq_F, if_pos, if_neg, m1_le, m1_lt', m1_gt, m1_le', m1_eq, m1_qe, b2i_eq0, in_N, in_n, in_I, ↓reduceIte, Bool.true_eq_false, Bool.false_eq_true, reduceCtorEq, decide_eq_true_eq, decide_eq_false_iff_not, Nat.not_lt, Nat.not_le, not_true_eq_false, not_false_eq_true, true_and, and_true, and_self, false_and, and_false, true_or, or_true, false_or, or_false, f_X12_qGoesOnTest_87, b_X12_qGoesOnTest_87, ↓nm, ↓ko_t S.k, S.k, ↓bd_t i, i, ↓kr_t S.r93, S.r93, ↓ka_t S.k93, S.k93, d1]
  | cons v P ih =>
    intro R c k h hP hR hk hc hl Q
    obtain ⟨k, rfl⟩ : ∃ j, k = j + 1 := ⟨k - 1, by have : P.length + 1 < k := hk; omega⟩
    have hk : P.length + 1 < k + 1 := hk
    have hc : c.length + (P.length + 1) ≤ 1650 := hc
    have v1 := hP v (List.mem_cons_self)
    subst v1
    have Q : QQ h x w c (10 :: (P ++ R)) o bs := Q
    have S := Q.1
    obtain ⟨h1, e1, Q1, y1⟩ := m_drops Q (by omega)
    obtain ⟨h2, e2, Q2, y2⟩ := ih R (c ++ [10]) k h1 (fun u hu => hP u (List.mem_cons_of_mem _ hu)) hR (by omega) (by simp; omega) hl Q1
    refine ⟨h2, ?_, by rw [List.append_assoc] at Q2; exact Q2, y1.trans y2⟩
    rw [← e2]
    have i := m_isOn Q (q := 10) (by omega)
    rw [decide_eq_true (by simp), b2i_t] at i
    show b_X12_qGoesOnTest_87 (f_X12_qGoesOnTest_87 k) (x + 107) h = _
    unfold b_X12_qGoesOnTest_87
    rw [ko_t S.k, bd_t (show f_X12_qIsOn (x + 107) 10 h = _ from i), if_neg (show ¬ nI 1 = (0 : Int32) by decide), ko_t S.k, bd_t e1]
theorem m_137 : ∀ (P R c : List Nat) (k : Nat) (h : aH), (∀ v ∈ P, v = 10 ∨ v = 11) → (∀ v, R.head? = some v → ¬ v = 10 ∧ ¬ v = 11) → P.length < k → c.length + P.length ≤ 1650 → R.length < 1650 → QQ h x w c (P ++ R) o bs → ∃ h1, f_X12_qGoesOnTest_137 k (x + 107) h = some (nI 1, h1) ∧ QQ h1 x w (c ++ P) (11 :: R) o bs ∧ QY x h h1 := by
  intro P
  induction P with
  | nil =>
    intro R c k h hP hR hk hc hl Q
    obtain ⟨k, rfl⟩ : ∃ j, k = j + 1 := ⟨k - 1, by have : (0 : Nat) < k := hk; omega⟩
    have Q : QQ h x w c R o bs := Q
    have S := Q.1
    have d1 := Q.2.2.1.1
    have i := m_isOn Q (q := 10) (by omega)
    rw [decide_eq_false (fun z => (hR 10 z).1 rfl), b2i_f] at i
    have i : f_X12_qIsOn (x + 107) 10 h = some (nI 0, h) := i
    have j := m_isOn Q (q := 11) (by omega)
    rw [decide_eq_false (fun z => (hR 11 z).2 rfl), b2i_f] at j
    have j : f_X12_qIsOn (x + 107) 11 h = some (nI 0, h) := j
    rw [List.append_nil]
    refine ⟨_, ?_, Q.push (v := 11) hl (by omega), (qy_s (by unfold QD; omega)).trans (qy_s (by unfold QD; omega))⟩
    generalize R.length = l at *
    simp (disch := omega) only [nm, bd_s, ko_K, ka_K, koK_t, kaK_t, kr_s, kn_s, kn_n, hK_sI, hR_sI, hK_sL, hR_sL, hI_sL, hL_sI, hL_sL, hI_sI, hN_sI, hN_sL, ch_G, ch_T, nb_0, nb_1, zb_G, d_T, d_F, d_eT, d_eF, b2i_t, b2i_f, tn_nI, fa_lit, fa_litL, m1_e, nI_add, pk_mul, pk_sub, nI_leI, nI_ltI, nI_eq, le_T, le_F, lt_T, lt_F, eq_T, eq_F, if_pos, if_neg, m1_le, m1_lt', m1_gt, m1_le', m1_eq, m1_qe, b2i_eq0, in_N, in_n, in_I, ↓reduceIte, Bool.true_eq_false, Bool.false_eq_true, reduceCtorEq, decide_eq_true_eq, decide_eq_false_iff_not, Nat.not_lt, Nat.not_le, not_true_eq_false, not_false_eq_true, true_and, and_true, and_self, false_and, and_false, true_or, or_true, false_or, or_false, f_X12_qGoesOnTest_137, b_X12_qGoesOnTest_137, ↓nm, ↓ko_t S.k, S.k, ↓bd_t i, i, ↓bd_t j, j, ↓kr_t S.r93, S.r93, ↓ka_t S.k93, S.k93, d1]
  | cons v P ih =>
    intro R c k h hP hR hk hc hl Q
    obtain ⟨k, rfl⟩ : ∃ j, k = j + 1 := ⟨k - 1, by have : P.length + 1 < k := hk; omega⟩
    have hk : P.length + 1 < k + 1 := hk
    have hc : c.length + (P.length + 1) ≤ 1650 := hc
    have Q : QQ h x w c (v :: (P ++ R)) o bs := Q
    have S := Q.1
    obtain ⟨h1, e1, Q1, y1⟩ := m_drops Q (by omega)
    obtain ⟨h2, e2, Q2, y2⟩ := ih R (c ++ [v]) k h1 (fun u hu => hP u (List.mem_cons_of_mem _ hu)) hR (by omega) (by simp; omega) hl Q1
    refine ⟨h2, ?_, by rw [List.append_assoc] at Q2; exact Q2, y1.trans y2⟩
    rw [← e2]
    have i := m_isOn Q (q := 10) (by omega)
    have j := m_isOn Q (q := 11) (by omega)
    show b_X12_qGoesOnTest_137 (f_X12_qGoesOnTest_137 k) (x + 107) h = _
    unfold b_X12_qGoesOnTest_137
    rcases hP v (List.mem_cons_self) with rfl | rfl
    · rw [decide_eq_true (by simp), b2i_t] at i
      rw [ko_t S.k, bd_t (show f_X12_qIsOn (x + 107) 10 h = _ from i), if_neg (show ¬ nI 1 = (0 : Int32) by decide)]
      unfold f_X12_qGoesOnTest_155
      rw [ko_t S.k, bd_t e1]
    · rw [decide_eq_false (by simp), b2i_f] at i
      rw [decide_eq_true (by simp), b2i_t] at j
      rw [ko_t S.k, bd_t (show f_X12_qIsOn (x + 107) 10 h = _ from i), if_pos (show nI 0 = (0 : Int32) from rfl), ko_t S.k, bd_t (show f_X12_qIsOn (x + 107) 11 h = _ from j), if_neg (show ¬ nI 1 = (0 : Int32) by decide)]
      unfold f_X12_qGoesOnTest_155
      rw [ko_t S.k, bd_t e1]
/-- no square bracket closes here -/
theorem t_76 (T : RQ h x tp n w σ c W o bs) (tb : ∀ j, tp j ≤ 255) (hn : n ≤ 1600) (z : isS tp n σ 93 = true → ¬ 25 ∈ W) : f_X12_qGoesOnTest_0 (k1 + 1) (x + 107) h = f_X12_qGoesOnTest_76 (x + 107) (sI h (x + 107) 2 (nI σ.1)) := by
  obtain ⟨lk, A, Q⟩ := T.a tb hn
  have S := T.2.1.1
  have S1 := A.1.1
  have bad := T.1.2.2.1
  show b_X12_qGoesOnTest_0 (f_X12_qGoesOnTest_0 k1) (x + 107) h = _
  unfold b_X12_qGoesOnTest_0
  rw [ko_t S.k, bad, if_pos (show nI 0 = (0 : Int32) from rfl), bd_t lk]
  by_cases y : isS tp n σ 93 = true
  · rw [if_pos (show btT tp n σ = (93 : Int32) from btT_t tb (q := 93) (by omega) y), ko_t S1.k, bd_t (m_sqF Q (z y)), if_pos (show nI 0 = (0 : Int32) from rfl)]
  · rw [if_neg (show ¬ btT tp n σ = (93 : Int32) from btT_f tb (q := 93) (by omega) (isS_f y))]
/-- and -/
theorem t_and (T : RQ h x tp n w σ c W o bs) (tb : ∀ j, tp j ≤ 255) (hn : n ≤ 1600) {P R : List Nat} (hW : W = P ++ R) (hP : ∀ v ∈ P, v = 10) (hRR : ∀ v, R.head? = some v → ¬ v = 10) (hb : bs = 0) (z : isW tp n σ 20 = true) (hk1 : 1 ≤ k1) : ∃ h1, TA k1 k2 x h = f_X12_qTest_2 k2 (x + 107) 1 h1 ∧ RQ h1 x tp n w (nW tp n σ) (c ++ P) (10 :: R) o bs ∧ QX x h h1 := by
  obtain ⟨k1, rfl⟩ : ∃ j, k1 = j + 1 := ⟨k1 - 1, by omega⟩
  have st := t_76 (k1 := k1) T tb hn (fun y => by rw [isWS (by decide) z] at y; cases y)
  obtain ⟨lk, A, Q⟩ := T.a tb hn
  have sn := T.1.2.1.1
  obtain ⟨-, -, lc, o6, lb⟩ := T
  obtain ⟨h0, hh0⟩ : ∃ h0, h0 = sI h (x + 107) 2 (nI σ.1) := ⟨_, rfl⟩
  have q0 : QX x h h0 := by rw [hh0]; exact qx_s (by unfold QC; omega)
  rw [← hh0] at lk A Q st
  have S0 := A.1.1
  subst hW
  have r73 : hR h0 (x + 107) 73 = some (x + 107 + 39 + 7) := (S0.aw 7 (by omega)).1
  have tk := m_takes A hn (S0.aw 7 (by omega)).2 (by decide) (m_hereA A tb hn (i := 7) (by omega))
  have T1 := A.w z
  have Q1 : QQ (tkH h0 x (rn isL tp n σ.1)) x w c (P ++ R) o bs := (Q.s (by omega) _).s (by omega) _
  simp only [List.length_append] at lc
  obtain ⟨h2, e2, Q2, y2⟩ := m_87 P R c FU _ hP hRR (FU_gt (by omega)) (by omega) (by omega) Q1
  have nw := (nW_ok z).2
  refine ⟨h2, ?_, ⟨T1.qy y2, Q2, ?_, o6, by omega⟩, (q0.trans qx_tk).trans y2.x⟩
  · unfold TA
    have e : f_X12_qGoesOnTest_0 (k1 + 1) (x + 107) h = some (nI 1, h2) := by
      rw [st]
      unfold f_X12_qGoesOnTest_76
      rw [ko_t S0.k, kr_t r73, bd_t (tk.1 z), if_neg (show ¬ nI 1 = (0 : Int32) by decide), e2]
    rw [bd_t e, if_neg (show ¬ nI 1 = (0 : Int32) by decide)]
    rfl
  · simp only [List.length_append, List.length_cons]; omega
/-- or -/
theorem t_or (T : RQ h x tp n w σ c W o bs) (tb : ∀ j, tp j ≤ 255) (hn : n ≤ 1600) {P R : List Nat} (hW : W = P ++ R) (hP : ∀ v ∈ P, v = 10 ∨ v = 11) (hRR : ∀ v, R.head? = some v → ¬ v = 10 ∧ ¬ v = 11) (hb : bs = 0) (z : isW tp n σ 19 = true) (hk1 : 1 ≤ k1) : ∃ h1, TA k1 k2 x h = f_X12_qTest_2 k2 (x + 107) 1 h1 ∧ RQ h1 x tp n w (nW tp n σ) (c ++ P) (11 :: R) o bs ∧ QX x h h1 := by
  obtain ⟨k1, rfl⟩ : ∃ j, k1 = j + 1 := ⟨k1 - 1, by omega⟩
  have st := t_76 (k1 := k1) T tb hn (fun y => by rw [isWS (by decide) z] at y; cases y)
  obtain ⟨lk, A, Q⟩ := T.a tb hn
  have sn := T.1.2.1.1
  obtain ⟨-, -, lc, o6, lb⟩ := T
  obtain ⟨h0, hh0⟩ : ∃ h0, h0 = sI h (x + 107) 2 (nI σ.1) := ⟨_, rfl⟩
  have q0 : QX x h h0 := by rw [hh0]; exact qx_s (by unfold QC; omega)
  rw [← hh0] at lk A Q st
  have S0 := A.1.1
  subst hW
  have n20 : isW tp n σ 20 = false := by
    cases y : isW tp n σ 20 with
    | false => rfl
    | true => exact absurd (isW_inj (by omega) (by omega) y z) (by omega)
  have r73 : hR h0 (x + 107) 73 = some (x + 107 + 39 + 7) := (S0.aw 7 (by omega)).1
  have r74 : hR h0 (x + 107) 74 = some (x + 107 + 39 + 8) := (S0.aw 8 (by omega)).1
  have tk := m_takes A hn (S0.aw 7 (by omega)).2 (by decide) (m_hereA A tb hn (i := 7) (by omega))
  have tk8 := m_takes A hn (S0.aw 8 (by omega)).2 (by decide) (m_hereA A tb hn (i := 8) (by omega))
  have T1 := A.w z
  have Q1 : QQ (tkH h0 x (rn isL tp n σ.1)) x w c (P ++ R) o bs := (Q.s (by omega) _).s (by omega) _
  simp only [List.length_append] at lc
  obtain ⟨h2, e2, Q2, y2⟩ := m_137 P R c FU _ hP hRR (FU_gt (by omega)) (by omega) (by omega) Q1
  have nw := (nW_ok z).2
  refine ⟨h2, ?_, ⟨T1.qy y2, Q2, ?_, o6, by omega⟩, (q0.trans qx_tk).trans y2.x⟩
  · unfold TA
    have e : f_X12_qGoesOnTest_0 (k1 + 1) (x + 107) h = some (nI 1, h2) := by
      rw [st]
      unfold f_X12_qGoesOnTest_76
      rw [ko_t S0.k, kr_t r73, bd_t (tk.2 n20), if_pos (show nI 0 = (0 : Int32) from rfl), ko_t S0.k, kr_t r74, bd_t (tk8.1 z), if_neg (show ¬ nI 1 = (0 : Int32) by decide), e2]
    rw [bd_t e, if_neg (show ¬ nI 1 = (0 : Int32) by decide)]
    rfl
  · simp only [List.length_append, List.length_cons]; omega
/-- nothing goes on: a fault in a square bracket, the end elsewhere -/
theorem t_none (T : RQ h x tp n w σ c W o bs) (tb : ∀ j, tp j ≤ 255) (hn : n ≤ 1600) (n20 : isW tp n σ 20 = false) (n19 : isW tp n σ 19 = false) (z : isS tp n σ 93 = true → ¬ 25 ∈ W) : f_X12_qGoesOnTest_0 (k1 + 1) (x + 107) h = (if 25 ∈ W then some (0, flH (sI h (x + 107) 2 (nI σ.1)) x 1 σ.1) else some (0, sI h (x + 107) 2 (nI σ.1))) := by
  have st := t_76 (k1 := k1) T tb hn z
  obtain ⟨lk, A, Q⟩ := T.a tb hn
  obtain ⟨h0, hh0⟩ : ∃ h0, h0 = sI h (x + 107) 2 (nI σ.1) := ⟨_, rfl⟩
  rw [← hh0] at lk A Q st ⊢
  have S0 := A.1.1
  have at0 : hI h0 (x + 107) 2 = nI σ.1 := A.2.2.2.1
  have r73 : hR h0 (x + 107) 73 = some (x + 107 + 39 + 7) := (S0.aw 7 (by omega)).1
  have r74 : hR h0 (x + 107) 74 = some (x + 107 + 39 + 8) := (S0.aw 8 (by omega)).1
  have tk := m_takes A hn (S0.aw 7 (by omega)).2 (by decide) (m_hereA A tb hn (i := 7) (by omega))
  have tk8 := m_takes A hn (S0.aw 8 (by omega)).2 (by decide) (m_hereA A tb hn (i := 8) (by omega))
  rw [st]
  unfold f_X12_qGoesOnTest_76
  rw [ko_t S0.k, kr_t r73, bd_t (tk.2 n20), if_pos (show nI 0 = (0 : Int32) from rfl), ko_t S0.k, kr_t r74, bd_t (tk8.2 n19), if_pos (show nI 0 = (0 : Int32) from rfl), ko_t S0.k, A.2.2.1, if_pos (show nI 0 = (0 : Int32) from rfl)]
  by_cases y : 25 ∈ W
  · rw [if_pos y, bd_t (m_sqT Q y), if_neg (show ¬ nI 1 = (0 : Int32) by decide), ko_t S0.k, at0, bd_t (show f_X12_fail (x + 107) 1 (nI σ.1) h0 = _ from m_fail S0 A.2.2.1 1 σ.1)]
    rfl
  · rw [if_neg y, bd_t (m_sqF Q y), if_pos (show nI 0 = (0 : Int32) from rfl)]
    rfl
theorem t_fail (T : RQ h x tp n w σ c W o bs) (tb : ∀ j, tp j ≤ 255) (hn : n ≤ 1600) (n20 : isW tp n σ 20 = false) (n19 : isW tp n σ 19 = false) (n93 : isS tp n σ 93 = false) (y : 25 ∈ W) (hk1 : 1 ≤ k1) (hk2 : 1 ≤ k2) : FLT x h (TA k1 k2 x h) 1 σ.1 := by
  obtain ⟨k1, rfl⟩ : ∃ j, k1 = j + 1 := ⟨k1 - 1, by omega⟩
  have st := t_none (k1 := k1) T tb hn n20 n19 (fun z => by rw [n93] at z; cases z)
  rw [if_pos y] at st
  obtain ⟨lk, A, Q⟩ := T.a tb hn
  have f5 := fl_5 (h := sI h (x + 107) 2 (nI σ.1)) (x := x) (k := 1) (p := σ.1)
  have Mf := A.1.qx (qx_fl (h := sI h (x + 107) 2 (nI σ.1)) (x := x) (k := 1) (p := σ.1))
  have q0 : QX x h (flH (sI h (x + 107) 2 (nI σ.1)) x 1 σ.1) := (qx_s (by unfold QC; omega)).trans qx_fl
  unfold TA
  rw [bd_t st, if_pos rfl]
  exact tq_bad Mf.1 f5.1 f5.2 (by omega) (by omega) hk2 q0
/-- the test ends: what waits is told -/
theorem m_110 : ∀ (W c : List Nat) (k : Nat) (h : aH), W.length < k → c.length + W.length ≤ 1650 → hI h (x + 107) 5 = nI 0 → QQ h x w c W o bs → ∃ h1, f_X12_qTest_110 k (x + 107) h = some ((), h1) ∧ QQ h1 x w (c ++ W) [] o bs ∧ QY x h h1 := by
  intro W
  induction W with
  | nil =>
    intro c k h hk hc bad Q
    obtain ⟨k, rfl⟩ : ∃ j, k = j + 1 := ⟨k - 1, by have : (0 : Nat) < k := hk; omega⟩
    have d1 : hI h (x + 107) 94 = nI 0 := Q.2.2.1.1
    rw [List.append_nil]
    refine ⟨h, ?_, Q, QY.refl⟩
    show b_X12_qTest_110 (f_X12_qTest_110 k) (x + 107) h = _
    unfold b_X12_qTest_110
    rw [ko_t Q.1.k, bad, if_pos (show nI 0 = (0 : Int32) from rfl), d1, if_pos (show nI 0 ≤ (0 : Int32) by decide)]
    rfl
  | cons v W ih =>
    intro c k h hk hc bad Q
    obtain ⟨k, rfl⟩ : ∃ j, k = j + 1 := ⟨k - 1, by have : W.length + 1 < k := hk; omega⟩
    have hk : W.length + 1 < k + 1 := hk
    have hc : c.length + (W.length + 1) ≤ 1650 := hc
    have d1 : hI h (x + 107) 94 = nI (W.length + 1) := Q.2.2.1.1
    obtain ⟨h1, e1, Q1, y1⟩ := m_drops Q (by omega)
    have bad1 : hI h1 (x + 107) 5 = nI 0 := by rw [y1.2.2.2.2.2 _ _ (by unfold QD; omega)]; exact bad
    obtain ⟨h2, e2, Q2, y2⟩ := ih (c ++ [v]) k h1 (by omega) (by simp; omega) bad1 Q1
    refine ⟨h2, ?_, by rw [List.append_assoc] at Q2; exact Q2, y1.trans y2⟩
    rw [← e2]
    show b_X12_qTest_110 (f_X12_qTest_110 k) (x + 107) h = _
    unfold b_X12_qTest_110
    rw [ko_t Q.1.k, bad, if_pos (show nI 0 = (0 : Int32) from rfl), d1, if_neg (show ¬ nI (W.length + 1) ≤ (0 : Int32) from fun y => by have y : nI (W.length + 1) ≤ nI 0 := y; rw [nI_leI (by omega) (by omega)] at y; omega), bd_t e1]
theorem t_end (T : RQ h x tp n w σ c W o bs) (tb : ∀ j, tp j ≤ 255) (hn : n ≤ 1600) (n20 : isW tp n σ 20 = false) (n19 : isW tp n σ 19 = false) (y : ¬ 25 ∈ W) (hk1 : 1 ≤ k1) (hk2 : 1 ≤ k2) : ∃ h1, TA k1 k2 x h = some ((), h1) ∧ RA h1 x tp n σ ∧ QQ h1 x w (c ++ W) [] o bs ∧ QX x h h1 := by
  obtain ⟨k1, rfl⟩ : ∃ j, k1 = j + 1 := ⟨k1 - 1, by omega⟩
  obtain ⟨k2, rfl⟩ : ∃ j, k2 = j + 1 := ⟨k2 - 1, by omega⟩
  have st := t_none (k1 := k1) T tb hn n20 n19 (fun _ => y)
  rw [if_neg y] at st
  obtain ⟨lk, A, Q⟩ := T.a tb hn
  have sn := T.1.2.1.1
  have lc := T.2.2.1
  obtain ⟨h2, e2, Q2, y2⟩ := m_110 W c FU _ (FU_gt (by omega)) (by omega) A.2.2.1 Q
  refine ⟨h2, ?_, A.qy y2, Q2, QX.trans (qx_s (by unfold QC; omega)) y2.x⟩
  unfold TA
  rw [bd_t st, if_pos rfl]
  show b_X12_qTest_2 (f_X12_qTest_2 k2) (x + 107) 0 _ = _
  unfold b_X12_qTest_2
  rw [if_pos rfl, e2]
end Ti
