/-! A MACHINE'S TEXT: the reference reads a name -/
def NmM (x : Nat) (tp : Nat → Nat) (n : Nat) (σ : tyT) (r : tyF (List Nat × tyT)) (h : aH) (s : Option (Int64 × aH)) : Prop := match r with
  | .inl e => ∃ v h1, s = some (v, h1) ∧ BDm h1 x e ∧ QN x h h1
  | .inr q => ∃ h1, s = some (lN (nmL q.1), h1) ∧ RT h1 x tp n q.2 ∧ QN x h h1 ∧ hI h1 (x + 107) 36 = nI σ.1
section Cn
variable {h : aH} {x n : Nat} {tp : Nat → Nat} {σ : tyT}
theorem m_name (T : RT h x tp n σ) (tb : ∀ j, tp j ≤ 255) (hn : n ≤ 1600) : NmM x tp n σ (pNm tp n σ) h (f_X12_name (x + 107) h) := by
  obtain ⟨lk, A⟩ := m_look T tb hn
  obtain ⟨h0, hh0⟩ : ∃ h0, h0 = sI h (x + 107) 2 (nI σ.1) := ⟨_, rfl⟩
  have q0 : QX x h h0 := by rw [hh0]; exact qx_s (by unfold QC; omega)
  rw [← hh0] at lk A
  have S0 := A.1.1
  have own := m_own A tb hn
  have eq := ED.eq A hn
  have v2 := A.2.2.2.1
  have sn := A.2.1.1
  have n37 : f_X12_name_37 (x + 107) h0 = some (0, flH h0 x 1 σ.1) := by
    unfold f_X12_name_37
    rw [ko_t S0.k, v2, bd_t (show f_X12_fail (x + 107) 1 (nI σ.1) h0 = _ from m_fail S0 A.2.2.1 1 σ.1)]
    rfl
  have st : f_X12_name (x + 107) h = if isNm tp n σ = true then f_X12_name_58 FU (x + 107) 0 (sI h0 (x + 107) 36 (nI σ.1)) else f_X12_name_37 (x + 107) h0 := by
    unfold f_X12_name
    rw [ko_t T.1.1.k, T.2.2.1, if_pos (show nI 0 = (0 : Int32) from rfl), bd_t lk]
    by_cases c1 : σ.1 < n
    · rw [show btT tp n σ = nI (tp σ.1) from if_pos c1, bd_t (m_letter (tb _))]
      by_cases c2 : isL (tp σ.1) = true
      · rw [c2, if_neg (show ¬ b2i true = (0 : Int32) by decide), ko_t S0.k]
        by_cases c3 : σ.2 = true
        · rw [if_pos (by rw [eq]; exact c3), if_neg (by unfold isNm; rw [c3]; simp)]
        · have c3' : σ.2 = false := by cases y : σ.2 with | false => rfl | true => exact absurd y c3
          rw [if_neg (by rw [eq]; exact c3), bd_t own]
          cases f : fnd (fun i => isW tp n σ i) 25 0 with
          | none => rw [if_pos (show b2i (none : Option Nat).isSome = (0 : Int32) by decide), ko_t S0.k, v2, if_pos (by unfold isNm; rw [f]; simp [c1, c2, c3'])]
          | some i => rw [if_neg (b2i_nt (show (some i).isSome = true from rfl)), if_neg (by unfold isNm; rw [f]; simp)]
      · rw [show isL (tp σ.1) = false by cases y : isL (tp σ.1) with | false => rfl | true => exact absurd y c2, if_pos (show b2i false = (0 : Int32) by decide), if_neg (by unfold isNm; simp [c2])]
    · have le : f_X12_isLetter (-nI 1) h0 = some (nI 0, h0) := by simp (disch := omega) only [nm, bd_s, ko_K, ka_K, koK_t, kaK_t, kr_s, kn_s, kn_n, hK_sI, hR_sI, hK_sL, hR_sL, hI_sL, hL_sI, hL_sL, hI_sI, hN_sI, hN_sL, ch_G, ch_T, nb_0, nb_1, zb_G, d_T, d_F, d_eT, d_eF, b2i_t, b2i_f, tn_nI, fa_lit, fa_litL, m1_e, nI_add, pk_mul, pk_sub, nI_leI, nI_ltI, nI_eq, le_T, le_F, lt_T, lt_F, eq_T, eq_F, if_pos, if_neg, m1_le, m1_lt', m1_gt, m1_le', m1_eq, m1_qe, b2i_eq0, in_N, in_n, in_I, ↓reduceIte, Bool.true_eq_false, Bool.false_eq_true, reduceCtorEq, decide_eq_true_eq, decide_eq_false_iff_not, Nat.not_lt, Nat.not_le, not_true_eq_false, not_false_eq_true, true_and, and_true, and_self, false_and, and_false, true_or, or_true, false_or, or_false, f_X12_isLetter_17, f_X12_isLetter_16, f_X12_isLetter]
      rw [show btT tp n σ = -nI 1 from if_neg c1, bd_t le, if_pos (show nI 0 = (0 : Int32) from rfl), if_neg (by unfold isNm; simp [c1])]
  unfold pNm
  rw [st]
  by_cases z : isNm tp n σ = true
  · obtain ⟨q1, q2, q3, q4⟩ := isNm_t z
    have rg := rn_gt (p := isL) (tp := tp) (n := n) q1 q2
    have rl := rn_le (p := isL) (tp := tp) (n := n) (q := σ.1) (by omega)
    have re := rn_end (p := isL) (tp := tp) (n := n) σ.1
    have inL : ∀ j, σ.1 ≤ j → j < rn isL tp n σ.1 → isL (tp j) = true := fun j h1 h2 => rn_in h1 h2
    have A2 := A.s36 (j := 36) (v := nI σ.1) (by omega)
    obtain ⟨h2, hh2⟩ : ∃ h2, h2 = sI h0 (x + 107) 36 (nI σ.1) := ⟨_, rfl⟩
    have n2 : QN x h h2 := q0.qn.trans (by rw [hh2]; exact qn_s (by omega))
    have v36 : hI h2 (x + 107) 36 = nI σ.1 := by rw [hh2, hI_sI, if_pos ⟨rfl, rfl⟩]
    have ltd : nmL (ltr tp n σ) = nmF tp (rn isL tp n σ.1 - σ.1) σ.1 0 := by unfold nmL ltr; rw [nmF_l]
    rw [if_pos z, if_pos z, ← hh2]
    rw [← hh2] at A2
    have w4 := A2.wl q1 q2
    have a2 : hI h2 (x + 107) 2 = nI σ.1 := A2.2.2.2.1
    have b5 := A2.2.2.1
    have M2 := A2.1
    clear st own eq lk A2 z
    generalize rn isL tp n σ.1 = e at *
    have L : ∀ (d q k v : Nat), q + d = σ.1 + min 6 (e - σ.1) → σ.1 ≤ q → d + 1 < k → v < 27 ^ (q - σ.1) → f_X12_name_58 k (x + 107) (lN v) (sI h2 (x + 107) 2 (nI q)) = f_X12_name_58 (k - d) (x + 107) (lN (nmF tp d q v)) (sI h2 (x + 107) 2 (nI (q + d))) := by
      intro d
      induction d with
      | zero => intro q k v _ _ _ _; rfl
      | succ d ih =>
        intro q k v hq hs hk hv
        obtain ⟨k, rfl⟩ : ∃ m, k = m + 1 := ⟨k - 1, by omega⟩
        have dd := inL q hs (by omega)
        have dg := m_letter (h := sI h2 (x + 107) 2 (nI q)) (tb q)
        rw [dd, b2i_t] at dg
        unfold isL at dd
        simp only [Bool.and_eq_true, decide_eq_true_eq] at dd
        have T1 := M2.s (i := 2) (by omega) (nI q)
        have S1 := T1.1
        have l1 := T1.2.2.2
        have b := T1.2.1 q (by omega)
        have u2 : hI (sI h2 (x + 107) 2 (nI q)) (x + 107) 2 = nI q := by rw [hI_sI, if_pos ⟨rfl, rfl⟩]
        have u36 : hI (sI h2 (x + 107) 2 (nI q)) (x + 107) 36 = nI σ.1 := by rw [hI_sI, if_neg (by omega)]; exact v36
        have nx := ih (q + 1) k (27 * v + (tp q - 96)) (by omega) (by omega) (by omega) (by
          rw [show q + 1 - σ.1 = (q - σ.1) + 1 by omega, Nat.pow_succ]; omega)
        rw [show k + 1 - (d + 1) = k - d by omega, show q + (d + 1) = q + 1 + d by omega]
        show _ = f_X12_name_58 (k - d) (x + 107) (lN (nmF tp d (q + 1) (27 * v + (tp q - 96)))) _
        rw [← nx]
        have ss := sI_sI h2 (x + 107) 2 (nI q) (nI (q + 1))
        rw [← ss]
        have ar := nm_l (v := v) (c := tp q) (by omega) (tb q)
        clear ih nx inL ss
        generalize sI h2 (x + 107) 2 (nI q) = g at *
        show b_X12_name_58 (f_X12_name_58 k) (x + 107) (lN v) g = _
        unfold b_X12_name_58
        dsimp only [nm]
        rw [ko_t S1.k, l1, u2, if_neg (show ¬ nI n ≤ nI q by rw [nI_leI (by omega) (by omega)]; omega), kr_t S1.r0, ka_t S1.k0, chk_t (inb_nI (show q < 1600 by omega) (by omega)), tn_nI (show q < 2 ^ 31 by omega), b, bd_t dg, if_neg (show ¬ nI 1 = (0 : Int32) by decide), ko_t S1.k, u2, u36, pk_sub hs, if_neg (show ¬ nI (q - σ.1) = (6 : Int32) from nI_q (b := 6) (by omega) (by omega) (by omega)), kr_t S1.r0, ka_t S1.k0, chk_t (inb_nI (show q < 1600 by omega) (by omega)), tn_nI (show q < 2 ^ 31 by omega), b, ar, show nI q + 1 = nI (q + 1) from nI_k q 1]
    have L0 := L (min 6 (e - σ.1)) σ.1 FU 0 rfl (Nat.le_refl _) (by unfold FU; omega) (by simp)
    rw [sI_id a2] at L0
    rw [show f_X12_name_58 FU (x + 107) 0 h2 = _ from L0]
    obtain ⟨k, hk⟩ : ∃ k, FU - min 6 (e - σ.1) = k + 1 := ⟨FU - min 6 (e - σ.1) - 1, by unfold FU; omega⟩
    rw [hk]
    clear L L0
    by_cases c6 : e - σ.1 ≤ 6
    · have qe : σ.1 + min 6 (e - σ.1) = e := by omega
      have me : min 6 (e - σ.1) = e - σ.1 := by omega
      rw [if_pos c6, qe, me, ← ltd]
      have T1 := M2.s (i := 2) (by omega) (nI e)
      have S1 := T1.1
      have l1 := T1.2.2.2
      have u2 : hI (sI h2 (x + 107) 2 (nI e)) (x + 107) 2 = nI e := by rw [hI_sI, if_pos ⟨rfl, rfl⟩]
      have e145 : f_X12_name_145 (x + 107) (lN (nmL (ltr tp n σ))) (sI h2 (x + 107) 2 (nI e)) = some (lN (nmL (ltr tp n σ)), tkH h2 x e) := by
        unfold f_X12_name_145
        rw [ko_t S1.k, u2]
        rfl
      refine ⟨tkH h2 x e, ?_, w4, n2.trans qx_tk.qn, ?_⟩
      · rw [← e145]
        show b_X12_name_58 (f_X12_name_58 k) (x + 107) (lN (nmL (ltr tp n σ))) (sI h2 (x + 107) 2 (nI e)) = _
        unfold b_X12_name_58
        rw [ko_t S1.k, l1, u2]
        by_cases ce : e < n
        · have nd : ¬ isL (tp e) = true := fun y => re ⟨ce, y⟩
          have dg := m_letter (h := sI h2 (x + 107) 2 (nI e)) (tb e)
          rw [show isL (tp e) = false by cases y : isL (tp e) with | false => rfl | true => exact absurd y nd, b2i_f] at dg
          have b := T1.2.1 e (by omega)
          rw [if_neg (show ¬ nI n ≤ nI e by rw [nI_leI (by omega) (by omega)]; omega), kr_t S1.r0, ka_t S1.k0, chk_t (inb_nI (show e < 1600 by omega) (by omega)), tn_nI (show e < 2 ^ 31 by omega), b, bd_t dg, if_pos (show nI 0 = (0 : Int32) from rfl)]
        · rw [if_pos (show nI n ≤ nI e by rw [nI_leI (by omega) (by omega)]; omega)]
      · unfold tkH
        rw [hI_sI, if_neg (by omega), hI_sI, if_neg (by omega)]
        exact v36
    · have qe : σ.1 + min 6 (e - σ.1) = σ.1 + 6 := by omega
      rw [if_neg c6, qe]
      have T1 := M2.s (i := 2) (by omega) (nI (σ.1 + 6))
      have S1 := T1.1
      have l1 := T1.2.2.2
      have u2 : hI (sI h2 (x + 107) 2 (nI (σ.1 + 6))) (x + 107) 2 = nI (σ.1 + 6) := by rw [hI_sI, if_pos ⟨rfl, rfl⟩]
      have u5 : hI (sI h2 (x + 107) 2 (nI (σ.1 + 6))) (x + 107) 5 = nI 0 := by rw [hI_sI, if_neg (by omega)]; exact b5
      have u36 : hI (sI h2 (x + 107) 2 (nI (σ.1 + 6))) (x + 107) 36 = nI σ.1 := by rw [hI_sI, if_neg (by omega)]; exact v36
      have dg := m_letter (h := sI h2 (x + 107) 2 (nI (σ.1 + 6))) (tb (σ.1 + 6))
      rw [inL _ (by omega) (by omega), b2i_t] at dg
      have b := T1.2.1 (σ.1 + 6) (by omega)
      have fa : f_X12_fail (x + 107) 1 (nI (σ.1 + 6)) (sI h2 (x + 107) 2 (nI (σ.1 + 6))) = _ := m_fail S1 u5 1 (σ.1 + 6)
      refine ⟨0, flH (sI h2 (x + 107) 2 (nI (σ.1 + 6))) x 1 (σ.1 + 6), ?_, BDm.fl S1 (by omega) (by omega), n2.trans ((qx_s (by unfold QC; omega)).trans qx_fl).qn⟩
      show b_X12_name_58 (f_X12_name_58 k) (x + 107) _ (sI h2 (x + 107) 2 (nI (σ.1 + 6))) = _
      unfold b_X12_name_58
      rw [ko_t S1.k, l1, u2, if_neg (show ¬ nI n ≤ nI (σ.1 + 6) by rw [nI_leI (by omega) (by omega)]; omega), kr_t S1.r0, ka_t S1.k0, chk_t (inb_nI (show σ.1 + 6 < 1600 by omega) (by omega)), tn_nI (show σ.1 + 6 < 2 ^ 31 by omega), b, bd_t dg, if_neg (show ¬ nI 1 = (0 : Int32) by decide), ko_t S1.k, u2, u36, pk_sub (show σ.1 ≤ σ.1 + 6 by omega), if_pos (show nI (σ.1 + 6 - σ.1) = (6 : Int32) by rw [show σ.1 + 6 - σ.1 = 6 by omega]; rfl), bd_t fa]
      rfl
  · rw [if_neg z, if_neg z]
    exact ⟨0, _, n37, BDm.fl S0 (by omega) (by omega), (q0.trans qx_fl).qn⟩
end Cn
