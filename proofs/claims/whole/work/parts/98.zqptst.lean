/-! THE TEXTS: behind a fact in the reference -/
section Th
variable {h : aH} {x n w o bs k1 k2 : Nat} {tp : Nat → Nat} {σ : tyT} {c W : List Nat}
theorem m_hasT (Q : QQ h x w c W o bs) : ∀ (d i k : Nat), i + d = W.length → d < k → (∃ j, j < d ∧ W.getD j 0 = 25) → f_X12_qHasSquare_2 k (x + 107) (nI i) h = some (nI 1, h) := by
  have S := Q.1
  have d1 := Q.2.2.1.1
  have a8 := Q.2.2.2.2.2.2.2.1
  intro d
  induction d with
  | zero => rintro i k - - ⟨j, hj, -⟩; omega
  | succ d ih =>
    intro i k hi hk hj
    obtain ⟨k, rfl⟩ : ∃ m, k = m + 1 := ⟨k - 1, by omega⟩
    have e := Q.2.2.1.2 i (by omega)
    rw [show W.length - 1 - i = d by omega] at e
    show b_X12_qHasSquare_2 (f_X12_qHasSquare_2 k) (x + 107) (nI i) h = _
    unfold b_X12_qHasSquare_2
    rw [ko_t S.k, d1, if_neg (show ¬ nI W.length ≤ nI i by rw [nI_leI (by omega) (by omega)]; omega), kr_t S.r93, ka_t S.k93, chk_t (inb_nI (by omega) (by omega)), tn_nI (by omega), e]
    by_cases z : W.getD d 0 = 25
    · rw [z, if_pos (show nI 25 = (25 : Int32) from rfl)]; rfl
    · have v1 : W.getD d 0 ≤ 100 := by
        have := Q.2.2.2.2.2.2.2.2.2 (W.getD d 0) (by rw [List.getD_eq_getElem?_getD, List.getElem?_eq_getElem (show d < W.length by omega)]; exact List.getElem_mem _)
        exact this
      rw [if_neg (show ¬ nI (W.getD d 0) = (25 : Int32) from fun y => z ((nI_eq (b := 25) (by omega) (by omega)).mp y))]
      have nx := ih (i + 1) k (by omega) (by omega) (by
        obtain ⟨j, hj, ej⟩ := hj
        exact ⟨j, by have : ¬ j = d := fun y => z (y ▸ ej); omega, ej⟩)
      simp only [nm]
      rw [show nI i + 1 = nI (i + 1) from nI_k _ _]
      exact nx
theorem m_hasF (Q : QQ h x w c W o bs) : ∀ (d i k : Nat), i + d = W.length → d < k → (∀ j, j < d → ¬ W.getD j 0 = 25) → f_X12_qHasSquare_2 k (x + 107) (nI i) h = some (nI 0, h) := by
  have S := Q.1
  have d1 := Q.2.2.1.1
  have a8 := Q.2.2.2.2.2.2.2.1
  intro d
  induction d with
  | zero =>
    intro i k hi hk _
    obtain ⟨k, rfl⟩ : ∃ m, k = m + 1 := ⟨k - 1, by omega⟩
    show b_X12_qHasSquare_2 (f_X12_qHasSquare_2 k) (x + 107) (nI i) h = _
    unfold b_X12_qHasSquare_2
    rw [ko_t S.k, d1, if_pos (show nI W.length ≤ nI i by rw [nI_leI (by omega) (by omega)]; omega)]
    rfl
  | succ d ih =>
    intro i k hi hk hj
    obtain ⟨k, rfl⟩ : ∃ m, k = m + 1 := ⟨k - 1, by omega⟩
    have e := Q.2.2.1.2 i (by omega)
    rw [show W.length - 1 - i = d by omega] at e
    have z := hj d (by omega)
    have v1 : W.getD d 0 ≤ 100 := by
      have := Q.2.2.2.2.2.2.2.2.2 (W.getD d 0) (by rw [List.getD_eq_getElem?_getD, List.getElem?_eq_getElem (show d < W.length by omega)]; exact List.getElem_mem _)
      exact this
    have nx := ih (i + 1) k (by omega) (by omega) (fun j h1 => hj j (by omega))
    show b_X12_qHasSquare_2 (f_X12_qHasSquare_2 k) (x + 107) (nI i) h = _
    unfold b_X12_qHasSquare_2
    rw [ko_t S.k, d1, if_neg (show ¬ nI W.length ≤ nI i by rw [nI_leI (by omega) (by omega)]; omega), kr_t S.r93, ka_t S.k93, chk_t (inb_nI (by omega) (by omega)), tn_nI (by omega), e, if_neg (show ¬ nI (W.getD d 0) = (25 : Int32) from fun y => z ((nI_eq (b := 25) (by omega) (by omega)).mp y))]
    simp only [nm]
    rw [show nI i + 1 = nI (i + 1) from nI_k _ _]
    exact nx
theorem mem_gt {A : List Nat} {v : Nat} (z : v ∈ A) : ∃ j, j < A.length ∧ A.getD j 0 = v := by
  obtain ⟨j, hj, e⟩ := List.getElem_of_mem z
  exact ⟨j, hj, by rw [List.getD_eq_getElem?_getD, List.getElem?_eq_getElem hj]; exact e⟩
theorem gt_mem {A : List Nat} {j : Nat} (hj : j < A.length) : A.getD j 0 ∈ A := by
  rw [List.getD_eq_getElem?_getD, List.getElem?_eq_getElem hj]; exact List.getElem_mem _
theorem m_sqT (Q : QQ h x w c W o bs) (z : 25 ∈ W) : f_X12_qHasSquare (x + 107) h = some (nI 1, h) := m_hasT Q W.length 0 FU (by omega) (FU_gt (by have := Q.2.2.2.2.2.2.2.1; omega)) (mem_gt z)
theorem m_sqF (Q : QQ h x w c W o bs) (z : ¬ 25 ∈ W) : f_X12_qHasSquare (x + 107) h = some (nI 0, h) := m_hasF Q W.length 0 FU (by omega) (FU_gt (by have := Q.2.2.2.2.2.2.2.1; omega)) (fun j hj y => z (by have := gt_mem hj; rw [y] at this; exact this))
/-- down to the square bracket, and the nots ahead of it -/
theorem m_33 (k0 : Nat → aH → Option (Int32 × aH)) {N R : List Nat} (hN : ∀ v ∈ N, v = 12) (hR : ∀ u, R.head? = some u → ¬ u = 12) : ∀ (P c : List Nat) (k : Nat) (h : aH), (∀ v ∈ P, ¬ v = 25) → P.length < k → N.length + 1 ≤ o → o ≤ 6 → c.length + P.length + N.length ≤ 1640 → hI h (x + 107) 5 = nI 0 → QQ h x w c (P ++ 25 :: (N ++ R)) o bs → ∃ h1, f_X12_qGoesOnTest_33 k0 k (x + 107) h = k0 (x + 107) h1 ∧ QQ h1 x w (c ++ P ++ N) R (o - 1 - N.length) bs ∧ QY x h h1 := by
  intro P
  induction P with
  | nil =>
    intro c k h hP hk ho o6 hc bad Q
    obtain ⟨k, rfl⟩ : ∃ m, k = m + 1 := ⟨k - 1, by have : (0 : Nat) < k := hk; omega⟩
    have hc : c.length + 0 + N.length ≤ 1640 := hc
    have Q : QQ h x w c (25 :: (N ++ R)) o bs := Q
    have S := Q.1
    have d94 : hI h (x + 107) 94 = nI ((N ++ R).length + 1) := Q.2.2.1.1
    have d95 : hI h (x + 107) 95 = nI o := Q.2.2.2.1
    have a8 : (N ++ R).length + 1 ≤ 1650 := Q.2.2.2.2.2.2.2.1
    have i := m_isOn Q (q := 25) (by omega)
    rw [decide_eq_true (by simp), b2i_t] at i
    have Q1 := Q.pop.1.op (o - 1)
    have y1 : QY x h (sI (sI h (x + 107) 94 (nI (N ++ R).length)) (x + 107) 95 (nI (o - 1))) := (qy_s (by unfold QD; omega)).trans (qy_s (by unfold QD; omega))
    have bad1 : hI (sI (sI h (x + 107) 94 (nI (N ++ R).length)) (x + 107) 95 (nI (o - 1))) (x + 107) 5 = nI 0 := by rw [y1.2.2.2.2.2 _ _ (by unfold QD; omega)]; exact bad
    obtain ⟨h2, e2, Q2, y2⟩ := m_nots N R c FU (o - 1) _ hN hR (FU_gt (by omega)) (by omega) (by omega) (by omega) bad1 Q1
    rw [List.append_nil]
    refine ⟨h2, ?_, Q2, y1.trans y2⟩
    have s94 : nI ((N ++ R).length + 1) - 1 = nI (N ++ R).length := by rw [show nI ((N ++ R).length + 1) - 1 = nI ((N ++ R).length + 1 - 1) from pk_sub (b := 1) (by omega)]; rfl
    have f95 : hI (sI h (x + 107) 94 (nI (N ++ R).length)) (x + 107) 95 = nI o := by rw [hI_sI, if_neg (by omega)]; exact d95
    show b_X12_qGoesOnTest_33 k0 (f_X12_qGoesOnTest_33 k0 k) (x + 107) h = _
    unfold b_X12_qGoesOnTest_33
    rw [ko_t S.k, bd_t (show f_X12_qIsOn (x + 107) 25 h = _ from i), if_neg (show ¬ nI 1 = (0 : Int32) by decide), ko_t S.k]
    simp only [nm]
    rw [d94, s94, f95, show nI o - 1 = nI (o - 1) from pk_sub (b := 1) (by omega), bd_t (show f_X12_qDropsNots (x + 107) _ = _ from e2)]
  | cons v P ih =>
    intro c k h hP hk ho o6 hc bad Q
    obtain ⟨k, rfl⟩ : ∃ m, k = m + 1 := ⟨k - 1, by have : P.length + 1 < k := hk; omega⟩
    have hk : P.length + 1 < k + 1 := hk
    have hc : c.length + (P.length + 1) + N.length ≤ 1640 := hc
    have Q : QQ h x w c (v :: (P ++ 25 :: (N ++ R))) o bs := Q
    have S := Q.1
    have v25 := hP v (List.mem_cons_self)
    have i := m_isOn Q (q := 25) (by omega)
    rw [decide_eq_false (by simpa using v25), b2i_f] at i
    obtain ⟨h1, e1, Q1, y1⟩ := m_drops Q (by omega)
    have bad1 : hI h1 (x + 107) 5 = nI 0 := by rw [y1.2.2.2.2.2 _ _ (by unfold QD; omega)]; exact bad
    obtain ⟨h2, e2, Q2, y2⟩ := ih (c ++ [v]) k h1 (fun u hu => hP u (List.mem_cons_of_mem _ hu)) (by omega) ho o6 (by simp; omega) bad1 Q1
    refine ⟨h2, ?_, by rw [show c ++ v :: P ++ N = c ++ [v] ++ P ++ N by simp]; exact Q2, y1.trans y2⟩
    rw [← e2]
    show b_X12_qGoesOnTest_33 k0 (f_X12_qGoesOnTest_33 k0 k) (x + 107) h = _
    unfold b_X12_qGoesOnTest_33
    rw [ko_t S.k, bd_t (show f_X12_qIsOn (x + 107) 25 h = _ from i), if_pos (show nI 0 = (0 : Int32) from rfl), ko_t S.k, bd_t e1]
/-- a test in square brackets ends -/
theorem t_close (T : RQ h x tp n w σ c W o bs) (tb : ∀ j, tp j ≤ 255) (hn : n ≤ 1600) {P N R : List Nat} (hW : W = P ++ 25 :: (N ++ R)) (hP : ∀ v ∈ P, ¬ v = 25) (hN : ∀ v ∈ N, v = 12) (hR : ∀ u, R.head? = some u → ¬ u = 12) (ho : N.length + 1 ≤ o) (hb : bs = 0) (z : isS tp n σ 93 = true) : ∃ h1, TA (k1 + 1) k2 x h = TA k1 k2 x h1 ∧ RQ h1 x tp n w (nS tp n σ) (c ++ P ++ N) R (o - 1 - N.length) bs ∧ QX x h h1 := by
  obtain ⟨lk, A, Q⟩ := T.a tb hn
  have S := T.2.1.1
  have S1 := A.1.1
  have bad := T.1.2.2.1
  obtain ⟨q1, q2⟩ := isS_t z
  obtain ⟨-, -, lc, o6, lb⟩ := T
  obtain ⟨h0, hh0⟩ : ∃ h0, h0 = sI h (x + 107) 2 (nI σ.1) := ⟨_, rfl⟩
  have q0 : QX x h h0 := by rw [hh0]; exact qx_s (by unfold QC; omega)
  rw [← hh0] at lk A Q S1
  have at0 : hI h0 (x + 107) 2 = nI σ.1 := A.2.2.2.1
  subst hW
  have sq := m_sqT Q (by simp)
  have RT1 := A.sg z
  have Q1 : QQ (sI h0 (x + 107) 2 (nI (σ.1 + 1))) x w c (P ++ 25 :: (N ++ R)) o bs := Q.s (by omega) _
  simp only [List.length_append, List.length_cons] at lc
  obtain ⟨h2, e2, Q2, y2⟩ := m_33 (f_X12_qGoesOnTest_0 k1) hN hR P c FU _ hP (FU_gt (by omega)) ho o6 (by omega) RT1.2.2.1 Q1
  have ns := (nS_ok z).2
  refine ⟨h2, ?_, ⟨RT1.qy y2, Q2, ?_, by omega, by omega⟩, (q0.trans (qx_s (by unfold QC; omega))).trans y2.x⟩
  · unfold TA
    have : f_X12_qGoesOnTest_0 (k1 + 1) (x + 107) h = f_X12_qGoesOnTest_0 k1 (x + 107) h2 := by
      rw [← e2]
      show b_X12_qGoesOnTest_0 (f_X12_qGoesOnTest_0 k1) (x + 107) h = _
      unfold b_X12_qGoesOnTest_0
      rw [ko_t S.k, bad, if_pos (show nI 0 = (0 : Int32) from rfl), bd_t lk, if_pos (show btT tp n σ = (93 : Int32) from btT_t tb (q := 93) (by omega) z), ko_t S1.k, bd_t sq, if_neg (show ¬ nI 1 = (0 : Int32) by decide), ko_t S1.k, at0, show nI σ.1 + 1 = nI (σ.1 + 1) from nI_k _ _]
    rw [this]
  · simp only [List.length_append]; omega
end Th
