/-! THE TEXTS: the reference's sums, step by step: PE, a part is asked; PA, a part has ended -/
def TLq (k2 x : Nat) (v : Int32) (h : aH) : Option (Unit × aH) := ko h (x + 107) 11 <| if hI h (x + 107) 5 = 0 then bd (f_X12_qGoesOn (x + 107) h) fun v16 h17 => if v16 = 0 then f_X12_qSums_48 (f_X12_qSums_15 k2) (x + 107) v h17 else f_X12_qSums_49 (f_X12_qSums_15 k2) (x + 107) v 1 h17 else f_X12_qSums_48 (f_X12_qSums_15 k2) (x + 107) v h
def PE (k1 k2 x : Nat) (v : Int32) (h : aH) : Option (Unit × aH) := bd (f_X12_qPartTold_2 k1 (x + 107) 1 h) fun _ h1 => TLq k2 x v h1
def PA (k1 k2 x : Nat) (v : Int32) (h : aH) : Option (Unit × aH) := bd (f_X12_qGoesOn_0 k1 (x + 107) h) fun v16 h17 => if v16 = 0 then f_X12_qSums_48 (f_X12_qSums_15 k2) (x + 107) v h17 else f_X12_qSums_49 (f_X12_qSums_15 k2) (x + 107) v 1 h17
def RQ (h : aH) (x : Nat) (tp : Nat → Nat) (n w : Nat) (σ : tyT) (c W : List Nat) (o bs : Nat) : Prop := RT h x tp n σ ∧ QQ h x w c W o bs ∧ c.length + W.length ≤ σ.1 ∧ o ≤ 6 ∧ bs ≤ W.length
section Ru
variable {h : aH} {x n w o bs k1 k2 : Nat} {tp : Nat → Nat} {σ : tyT} {c W : List Nat} {v : Int32}
theorem fin_0 {k : Nat} (S : MS h (x + 107)) (bad : hI h (x + 107) 5 = nI k) (h1 : 1 ≤ k) (h2 : k ≤ 100) (hk : 1 ≤ k2) : f_X12_qSums_48 (f_X12_qSums_15 k2) (x + 107) v h = some ((), sI h (x + 107) 96 v) := by
  obtain ⟨k2, rfl⟩ : ∃ j, k2 = j + 1 := ⟨k2 - 1, by omega⟩
  obtain ⟨fn, hfn⟩ : ∃ m, FU = m + 1 := ⟨9999, rfl⟩
  have e : f_X12_qSums_53 FU (x + 107) v h = some ((), sI h (x + 107) 96 v) := by
    rw [hfn]
    simp (disch := omega) only [nm, bd_s, ko_K, ka_K, koK_t, kaK_t, kr_s, kn_s, kn_n, hK_sI, hR_sI, hK_sL, hR_sL, hI_sL, hL_sI, hL_sL, hI_sI, hN_sI, hN_sL, ch_G, ch_T, nb_0, nb_1, zb_G, d_T, d_F, d_eT, d_eF, b2i_t, b2i_f, tn_nI, fa_lit, fa_litL, m1_e, nI_add, pk_mul, pk_sub, nI_leI, nI_ltI, nI_eq, le_T, le_F, lt_T, lt_F, eq_T, eq_F, if_pos, if_neg, m1_le, m1_lt', m1_gt, m1_le', m1_eq, m1_qe, b2i_eq0, in_N, in_n, in_I, ↓reduceIte, Bool.true_eq_false, Bool.false_eq_true, reduceCtorEq, decide_eq_true_eq, decide_eq_false_iff_not, Nat.not_lt, Nat.not_le, not_true_eq_false, not_false_eq_true, true_and, and_true, and_self, false_and, and_false, true_or, or_true, false_or, or_false, f_X12_qSums_53, b_X12_qSums_53, f_X12_qSums_78, S.k, bad]
  simp (disch := omega) only [nm, bd_s, ko_K, ka_K, koK_t, kaK_t, kr_s, kn_s, kn_n, hK_sI, hR_sI, hK_sL, hR_sL, hI_sL, hL_sI, hL_sL, hI_sI, hN_sI, hN_sL, ch_G, ch_T, nb_0, nb_1, zb_G, d_T, d_F, d_eT, d_eF, b2i_t, b2i_f, tn_nI, fa_lit, fa_litL, m1_e, nI_add, pk_mul, pk_sub, nI_leI, nI_ltI, nI_eq, le_T, le_F, lt_T, lt_F, eq_T, eq_F, if_pos, if_neg, m1_le, m1_lt', m1_gt, m1_le', m1_eq, m1_qe, b2i_eq0, in_N, in_n, in_I, ↓reduceIte, Bool.true_eq_false, Bool.false_eq_true, reduceCtorEq, decide_eq_true_eq, decide_eq_false_iff_not, Nat.not_lt, Nat.not_le, not_true_eq_false, not_false_eq_true, true_and, and_true, and_self, false_and, and_false, true_or, or_true, false_or, or_false, f_X12_qSums_48, f_X12_qSums_49, f_X12_qSums_15, b_X12_qSums_15, e]
theorem fin_T {k : Nat} (S : MS h (x + 107)) (bad : hI h (x + 107) 5 = nI k) (h1 : 1 ≤ k) (h2 : k ≤ 100) (hk : 1 ≤ k2) : TLq k2 x v h = some ((), sI h (x + 107) 96 v) := by
  unfold TLq
  rw [ko_t S.k, bad, if_neg (show ¬ nI k = (0 : Int32) from fun z => by have := (nI_eq (b := 0) (by omega) (by omega)).mp z; omega)]
  exact fin_0 S bad h1 h2 hk
theorem go_T (S : MS h (x + 107)) (bad : hI h (x + 107) 5 = nI 0) : TLq k2 x v h = PA FU k2 x v h := by
  unfold TLq PA
  rw [ko_t S.k, bad, if_pos (show nI 0 = (0 : Int32) from rfl)]
  rfl
/-- back for another part -/
theorem again (S : MS h (x + 107)) (bad : hI h (x + 107) 5 = nI 0) : f_X12_qSums_49 (f_X12_qSums_15 (k2 + 1)) (x + 107) v 1 h = PE FU k2 x v h := by
  unfold f_X12_qSums_49 f_X12_qSums_15 b_X12_qSums_15
  rw [if_neg (show ¬ (1 : Int32) = 0 by decide), ko_t S.k, bad, if_pos (show nI 0 = (0 : Int32) from rfl)]
  rfl
theorem RQ.a (T : RQ h x tp n w σ c W o bs) (tb : ∀ j, tp j ≤ 255) (hn : n ≤ 1600) : f_X12_look (x + 107) h = some (btT tp n σ, sI h (x + 107) 2 (nI σ.1)) ∧ RA (sI h (x + 107) 2 (nI σ.1)) x tp n σ ∧ QQ (sI h (x + 107) 2 (nI σ.1)) x w c W o bs := by
  obtain ⟨l1, l2⟩ := m_look T.1 tb hn
  exact ⟨l1, l2, T.2.1.s (by omega) _⟩
/-- behind a part, no closing bracket that fits: on to the operators -/
theorem a_122 (T : RQ h x tp n w σ c W o bs) (tb : ∀ j, tp j ≤ 255) (hn : n ≤ 1600) {P R : List Nat} (hW : W = P ++ R) (hP : ∀ u ∈ P, isBr u = false) (hR : stopB bs R) (hb : isS tp n σ 41 = true → R.length = bs ∨ R.headD 0 = 21 ∨ R.headD 0 = 22) : f_X12_qGoesOn_0 (k1 + 1) (x + 107) h = f_X12_qGoesOn_122 (x + 107) (sI h (x + 107) 2 (nI σ.1)) := by
  obtain ⟨lk, A, Q⟩ := T.a tb hn
  have S := T.2.1.1
  have S1 := A.1.1
  have bad := T.1.2.2.1
  subst hW
  have br := m_br hP hR Q
  show b_X12_qGoesOn_0 (f_X12_qGoesOn_0 k1) (x + 107) h = _
  unfold b_X12_qGoesOn_0
  rw [ko_t S.k, bad, if_pos (show nI 0 = (0 : Int32) from rfl), bd_t lk]
  by_cases z : isS tp n σ 41 = true
  · rw [if_pos (show btT tp n σ = (41 : Int32) by have := btT_eq (n := n) (σ := σ) tb (q := 41) (by omega); rw [show (41 : Int32) = nI 41 from rfl, this]; exact z), ko_t S1.k, bd_t br]
    rcases hb z with y | y
    · rw [if_pos y, if_neg (show ¬ (-nI 1 : Int32) = 20 by decide), ko_t S1.k, bd_t br, if_pos y, if_neg (show ¬ (-nI 1 : Int32) = 23 by decide), ko_t S1.k, bd_t br, if_pos y, if_neg (show ¬ (-nI 1 : Int32) = 24 by decide)]
    · by_cases y0 : R.length = bs
      · rw [if_pos y0, if_neg (show ¬ (-nI 1 : Int32) = 20 by decide), ko_t S1.k, bd_t br, if_pos y0, if_neg (show ¬ (-nI 1 : Int32) = 23 by decide), ko_t S1.k, bd_t br, if_pos y0, if_neg (show ¬ (-nI 1 : Int32) = 24 by decide)]
      · rcases y with y | y
        · rw [y] at br
          rw [if_neg y0, y, if_neg (show ¬ nI 21 = (20 : Int32) by decide), ko_t S1.k, bd_t br, if_neg y0, if_neg (show ¬ nI 21 = (23 : Int32) by decide), ko_t S1.k, bd_t br, if_neg y0, if_neg (show ¬ nI 21 = (24 : Int32) by decide)]
        · rw [y] at br
          rw [if_neg y0, y, if_neg (show ¬ nI 22 = (20 : Int32) by decide), ko_t S1.k, bd_t br, if_neg y0, if_neg (show ¬ nI 22 = (23 : Int32) by decide), ko_t S1.k, bd_t br, if_neg y0, if_neg (show ¬ nI 22 = (24 : Int32) by decide)]
  · rw [if_neg (show ¬ btT tp n σ = (41 : Int32) by have := btT_eq (n := n) (σ := σ) tb (q := 41) (by omega); rw [show (41 : Int32) = nI 41 from rfl, this]; exact z)]
theorem isS_f {q : Nat} (z : ¬ isS tp n σ q = true) : isS tp n σ q = false := by cases y : isS tp n σ q with | false => rfl | true => exact absurd y z
/-- an operator that binds tightly -/
theorem a_mul (T : RQ h x tp n w σ c W o bs) (tb : ∀ j, tp j ≤ 255) (hn : n ≤ 1600) {P R : List Nat} (hW : W = P ++ R) (hP : ∀ u ∈ P, u = 3 ∨ u = 4) (hR : ∀ u, R.head? = some u → ¬ u = 3 ∧ ¬ u = 4) (hbR : bs ≤ R.length) {P' R' : List Nat} (hW' : W = P' ++ R') (hP' : ∀ u ∈ P', isBr u = false) (hR' : stopB bs R') {s q : Nat} (hs : s = 42 ∧ q = 3 ∨ s = 47 ∧ q = 4) (z : isS tp n σ s = true) (hk1 : 1 ≤ k1) (hk2 : 1 ≤ k2) : ∃ h1, PA k1 k2 x v h = PE FU (k2 - 1) x v h1 ∧ RQ h1 x tp n w (nS tp n σ) (c ++ P) (q :: R) o bs ∧ QX x h h1 := by
  obtain ⟨k1, rfl⟩ : ∃ j, k1 = j + 1 := ⟨k1 - 1, by omega⟩
  obtain ⟨k2, rfl⟩ : ∃ j, k2 = j + 1 := ⟨k2 - 1, by omega⟩
  obtain ⟨q1, q2⟩ := isS_t z
  obtain ⟨lk, A, Q⟩ := T.a tb hn
  have n41 : ¬ isS tp n σ 41 = true := by
    intro y
    have := (isS_t y).2
    omega
  have st := a_122 (k1 := k1) T tb hn hW' hP' hR' (fun y => absurd y n41)
  obtain ⟨-, -, lc, o6, lb⟩ := T
  have ln : W.length = P.length + R.length := by rw [hW]; simp
  obtain ⟨h0, hh0⟩ : ∃ h0, h0 = sI h (x + 107) 2 (nI σ.1) := ⟨_, rfl⟩
  rw [← hh0] at lk A Q st
  have S1 := A.1.1
  have RT1 := A.sg z
  have Q1 : QQ (sI h0 (x + 107) 2 (nI (σ.1 + 1))) x w c W o bs := Q.s (by omega) _
  rw [hW] at Q1
  obtain ⟨h2, e2, Q2, y2⟩ := m_mul (q := q) (by omega) P R c FU _ hP hR (FU_gt (by omega)) (by omega) (by omega) Q1
  have RT2 := RT1.qy y2
  have to122 : f_X12_qGoesOn_122 (x + 107) h0 = some (nI 1, h2) := by
    have T1 := RT1.1.1
    have b := RT1.1.2.1 σ.1 (by omega)
    have v2 : hI (sI h0 (x + 107) 2 (nI (σ.1 + 1))) (x + 107) 2 = nI (σ.1 + 1) := by rw [hI_sI, if_pos ⟨rfl, rfl⟩]
    have e1 : σ.1 + 1 - 1 = σ.1 := by omega
    rcases hs with ⟨rfl, rfl⟩ | ⟨rfl, rfl⟩
    · have t42 := (m_takesS A tb hn (q := 42) (by omega)).1 z
      rw [q2] at b
      generalize sI h0 (x + 107) 2 (nI (σ.1 + 1)) = g at *
      simp (disch := omega) only [nm, bd_s, ko_K, ka_K, koK_t, kaK_t, kr_s, kn_s, kn_n, hK_sI, hR_sI, hK_sL, hR_sL, hI_sL, hL_sI, hL_sL, hI_sI, hN_sI, hN_sL, ch_G, ch_T, nb_0, nb_1, zb_G, d_T, d_F, d_eT, d_eF, b2i_t, b2i_f, tn_nI, fa_lit, fa_litL, m1_e, nI_add, pk_mul, pk_sub, nI_leI, nI_ltI, nI_eq, le_T, le_F, lt_T, lt_F, eq_T, eq_F, if_pos, if_neg, m1_le, m1_lt', m1_gt, m1_le', m1_eq, m1_qe, b2i_eq0, in_N, in_n, in_I, ↓reduceIte, Bool.true_eq_false, Bool.false_eq_true, reduceCtorEq, decide_eq_true_eq, decide_eq_false_iff_not, Nat.not_lt, Nat.not_le, not_true_eq_false, not_false_eq_true, true_and, and_true, and_self, false_and, and_false, true_or, or_true, false_or, or_false, f_X12_qGoesOn_122, f_X12_qGoesOn_140, f_X12_qGoesOn_161, ↓ko_t S1.k, S1.k, t42, ↓ko_t T1.k, T1.k, ↓kr_t T1.r0, T1.r0, ↓ka_t T1.k0, T1.k0, v2, e1, b, T1.k, T1.r0, T1.k0, e2]
    · have t42 := (m_takesS A tb hn (q := 42) (by omega)).2 (isSS (c := 47) (by omega) z)
      have t47 := (m_takesS A tb hn (q := 47) (by omega)).1 z
      rw [q2] at b
      generalize sI h0 (x + 107) 2 (nI (σ.1 + 1)) = g at *
      simp (disch := omega) only [nm, bd_s, ko_K, ka_K, koK_t, kaK_t, kr_s, kn_s, kn_n, hK_sI, hR_sI, hK_sL, hR_sL, hI_sL, hL_sI, hL_sL, hI_sI, hN_sI, hN_sL, ch_G, ch_T, nb_0, nb_1, zb_G, d_T, d_F, d_eT, d_eF, b2i_t, b2i_f, tn_nI, fa_lit, fa_litL, m1_e, nI_add, pk_mul, pk_sub, nI_leI, nI_ltI, nI_eq, le_T, le_F, lt_T, lt_F, eq_T, eq_F, if_pos, if_neg, m1_le, m1_lt', m1_gt, m1_le', m1_eq, m1_qe, b2i_eq0, in_N, in_n, in_I, ↓reduceIte, Bool.true_eq_false, Bool.false_eq_true, reduceCtorEq, decide_eq_true_eq, decide_eq_false_iff_not, Nat.not_lt, Nat.not_le, not_true_eq_false, not_false_eq_true, true_and, and_true, and_self, false_and, and_false, true_or, or_true, false_or, or_false, f_X12_qGoesOn_122, f_X12_qGoesOn_140, f_X12_qGoesOn_161, ↓ko_t S1.k, S1.k, t42, t47, v2, e1, b, T1.k, T1.r0, T1.k0, e2]
  have ns := (nS_ok z).2
  refine ⟨h2, ?_, ⟨RT2, Q2, by rw [List.length_append, List.length_cons]; omega, o6, by show bs ≤ R.length + 1; omega⟩, ?_⟩
  · unfold PA
    rw [st, bd_t to122, if_neg (show ¬ nI 1 = (0 : Int32) by decide), again RT2.1.1 RT2.2.2.1]
    rfl
  · rw [hh0] at y2
    exact ((qx_s (by unfold QC; omega)).trans (qx_s (by unfold QC; omega))).trans y2.x
/-- an operator that binds loosely -/
theorem a_add (T : RQ h x tp n w σ c W o bs) (tb : ∀ j, tp j ≤ 255) (hn : n ≤ 1600) {P R : List Nat} (hW : W = P ++ R) (hP : ∀ u ∈ P, u = 1 ∨ u = 2 ∨ u = 3 ∨ u = 4) (hR : ∀ u, R.head? = some u → ¬ u = 1 ∧ ¬ u = 2 ∧ ¬ u = 3 ∧ ¬ u = 4) (hbR : stopB bs R) {s q : Nat} (hs : s = 43 ∧ q = 1 ∨ s = 45 ∧ q = 2) (z : isS tp n σ s = true) (hk1 : 1 ≤ k1) (hk2 : 1 ≤ k2) : ∃ h1, PA k1 k2 x v h = PE FU (k2 - 1) x v h1 ∧ RQ h1 x tp n w (nS tp n σ) (c ++ P) (q :: R) o bs ∧ QX x h h1 := by
  obtain ⟨k1, rfl⟩ : ∃ j, k1 = j + 1 := ⟨k1 - 1, by omega⟩
  obtain ⟨k2, rfl⟩ : ∃ j, k2 = j + 1 := ⟨k2 - 1, by omega⟩
  obtain ⟨q1, q2⟩ := isS_t z
  obtain ⟨lk, A, Q⟩ := T.a tb hn
  have n41 : ¬ isS tp n σ 41 = true := by
    intro y
    have := (isS_t y).2
    omega
  have nbr : ∀ u ∈ P, isBr u = false := fun u hu => by
    unfold isBr
    rcases hP u hu with rfl | rfl | rfl | rfl <;> rfl
  have st := a_122 (k1 := k1) T tb hn hW nbr hbR (fun y => absurd y n41)
  have lbR : bs ≤ R.length := by rcases hbR with y | ⟨y, -⟩ <;> omega
  obtain ⟨-, -, lc, o6, lb⟩ := T
  have ln : W.length = P.length + R.length := by rw [hW]; simp
  obtain ⟨h0, hh0⟩ : ∃ h0, h0 = sI h (x + 107) 2 (nI σ.1) := ⟨_, rfl⟩
  rw [← hh0] at lk A Q st
  have S1 := A.1.1
  have RT1 := A.sg z
  have Q1 : QQ (sI h0 (x + 107) 2 (nI (σ.1 + 1))) x w c W o bs := Q.s (by omega) _
  rw [hW] at Q1
  obtain ⟨h2, e2, Q2, y2⟩ := m_add (q := q) (by omega) P R c FU _ hP hR (FU_gt (by omega)) (by omega) (by omega) Q1
  have RT2 := RT1.qy y2
  have to122 : f_X12_qGoesOn_122 (x + 107) h0 = some (nI 1, h2) := by
    have T1 := RT1.1.1
    have b := RT1.1.2.1 σ.1 (by omega)
    have v2 : hI (sI h0 (x + 107) 2 (nI (σ.1 + 1))) (x + 107) 2 = nI (σ.1 + 1) := by rw [hI_sI, if_pos ⟨rfl, rfl⟩]
    have e1 : σ.1 + 1 - 1 = σ.1 := by omega
    have s42 : ¬ s = 42 := by omega
    have s47 : ¬ s = 47 := by omega
    have t42 := (m_takesS A tb hn (q := 42) (by omega)).2 (isSS s42 z)
    have t47 := (m_takesS A tb hn (q := 47) (by omega)).2 (isSS s47 z)
    rcases hs with ⟨rfl, rfl⟩ | ⟨rfl, rfl⟩
    · have t43 := (m_takesS A tb hn (q := 43) (by omega)).1 z
      rw [q2] at b
      generalize sI h0 (x + 107) 2 (nI (σ.1 + 1)) = g at *
      simp (disch := omega) only [nm, bd_s, ko_K, ka_K, koK_t, kaK_t, kr_s, kn_s, kn_n, hK_sI, hR_sI, hK_sL, hR_sL, hI_sL, hL_sI, hL_sL, hI_sI, hN_sI, hN_sL, ch_G, ch_T, nb_0, nb_1, zb_G, d_T, d_F, d_eT, d_eF, b2i_t, b2i_f, tn_nI, fa_lit, fa_litL, m1_e, nI_add, pk_mul, pk_sub, nI_leI, nI_ltI, nI_eq, le_T, le_F, lt_T, lt_F, eq_T, eq_F, if_pos, if_neg, m1_le, m1_lt', m1_gt, m1_le', m1_eq, m1_qe, b2i_eq0, in_N, in_n, in_I, ↓reduceIte, Bool.true_eq_false, Bool.false_eq_true, reduceCtorEq, decide_eq_true_eq, decide_eq_false_iff_not, Nat.not_lt, Nat.not_le, not_true_eq_false, not_false_eq_true, true_and, and_true, and_self, false_and, and_false, true_or, or_true, false_or, or_false, f_X12_qGoesOn_122, f_X12_qGoesOn_225, f_X12_qGoesOn_246, ↓ko_t S1.k, S1.k, t42, t47, t43, v2, e1, b, T1.k, T1.r0, T1.k0, e2]
    · have t43 := (m_takesS A tb hn (q := 43) (by omega)).2 (isSS (c := 45) (by omega) z)
      have t45 := (m_takesS A tb hn (q := 45) (by omega)).1 z
      rw [q2] at b
      generalize sI h0 (x + 107) 2 (nI (σ.1 + 1)) = g at *
      simp (disch := omega) only [nm, bd_s, ko_K, ka_K, koK_t, kaK_t, kr_s, kn_s, kn_n, hK_sI, hR_sI, hK_sL, hR_sL, hI_sL, hL_sI, hL_sL, hI_sI, hN_sI, hN_sL, ch_G, ch_T, nb_0, nb_1, zb_G, d_T, d_F, d_eT, d_eF, b2i_t, b2i_f, tn_nI, fa_lit, fa_litL, m1_e, nI_add, pk_mul, pk_sub, nI_leI, nI_ltI, nI_eq, le_T, le_F, lt_T, lt_F, eq_T, eq_F, if_pos, if_neg, m1_le, m1_lt', m1_gt, m1_le', m1_eq, m1_qe, b2i_eq0, in_N, in_n, in_I, ↓reduceIte, Bool.true_eq_false, Bool.false_eq_true, reduceCtorEq, decide_eq_true_eq, decide_eq_false_iff_not, Nat.not_lt, Nat.not_le, not_true_eq_false, not_false_eq_true, true_and, and_true, and_self, false_and, and_false, true_or, or_true, false_or, or_false, f_X12_qGoesOn_122, f_X12_qGoesOn_225, f_X12_qGoesOn_246, ↓ko_t S1.k, S1.k, t42, t47, t43, t45, v2, e1, b, T1.k, T1.r0, T1.k0, e2]
  have ns := (nS_ok z).2
  refine ⟨h2, ?_, ⟨RT2, Q2, by rw [List.length_append, List.length_cons]; omega, o6, by show bs ≤ R.length + 1; omega⟩, ?_⟩
  · unfold PA
    rw [st, bd_t to122, if_neg (show ¬ nI 1 = (0 : Int32) by decide), again RT2.1.1 RT2.2.2.1]
    rfl
  · rw [hh0] at y2
    exact ((qx_s (by unfold QC; omega)).trans (qx_s (by unfold QC; omega))).trans y2.x
end Ru
