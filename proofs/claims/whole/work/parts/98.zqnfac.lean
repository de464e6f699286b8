/-! THE TEXTS: the reference's facts: TE, a fact is asked; TA, a fact has ended -/
def TA (k1 k2 x : Nat) (h : aH) : Option (Unit × aH) := bd (f_X12_qGoesOnTest_0 k1 (x + 107) h) fun v29 h30 => if v29 = 0 then f_X12_qTest_105 (f_X12_qTest_2 k2) (x + 107) h30 else f_X12_qTest_106 (f_X12_qTest_2 k2) (x + 107) 1 h30
def FLT (x : Nat) (h : aH) (r : Option (Unit × aH)) (k p : Nat) : Prop := ∃ h1, r = some ((), h1) ∧ hI h1 (x + 107) 5 = nI k ∧ hI h1 (x + 107) 6 = nI p ∧ (1 ≤ k ∧ k ≤ 100) ∧ QX x h h1
section Tf
variable {h : aH} {x n w o bs k1 k2 : Nat} {tp : Nat → Nat} {σ : tyT} {c W : List Nat}
/-- nots are told -/
theorem m_nots : ∀ (N R c : List Nat) (k o : Nat) (h : aH), (∀ v ∈ N, v = 12) → (∀ u, R.head? = some u → ¬ u = 12) → N.length < k → N.length ≤ o → o ≤ 6 → c.length + N.length ≤ 1650 → hI h (x + 107) 5 = nI 0 → QQ h x w c (N ++ R) o bs → ∃ h1, f_X12_qDropsNots_0 k (x + 107) h = some ((), h1) ∧ QQ h1 x w (c ++ N) R (o - N.length) bs ∧ QY x h h1 := by
  intro N
  induction N with
  | nil =>
    intro R c k o h hN hR hk ho h6 hc bad Q
    obtain ⟨k, rfl⟩ : ∃ j, k = j + 1 := ⟨k - 1, by have : (0 : Nat) < k := hk; omega⟩
    have Q : QQ h x w c R o bs := Q
    have S := Q.1
    have i := m_isOn Q (q := 12) (by omega)
    rw [decide_eq_false (fun z => hR 12 z rfl), b2i_f] at i
    rw [List.append_nil]
    refine ⟨h, ?_, Q, QY.refl⟩
    show b_X12_qDropsNots_0 (f_X12_qDropsNots_0 k) (x + 107) h = _
    unfold b_X12_qDropsNots_0
    rw [ko_t S.k, bad, if_pos (show nI 0 = (0 : Int32) from rfl), bd_t (show f_X12_qIsOn (x + 107) 12 h = _ from i), if_pos (show nI 0 = (0 : Int32) from rfl)]
    rfl
  | cons v N ih =>
    intro R c k o h hN hR hk ho h6 hc bad Q
    obtain ⟨k, rfl⟩ : ∃ j, k = j + 1 := ⟨k - 1, by have : N.length + 1 < k := hk; omega⟩
    have hk : N.length + 1 < k + 1 := hk
    have ho : N.length + 1 ≤ o := ho
    have hc : c.length + (N.length + 1) ≤ 1650 := hc
    have v12 := hN v (List.mem_cons_self)
    subst v12
    have Q : QQ h x w c (12 :: (N ++ R)) o bs := Q
    have S := Q.1
    have a4 := Q.2.2.2.1
    have i := m_isOn Q (q := 12) (by omega)
    rw [decide_eq_true (by simp), b2i_t] at i
    have Q0 := Q.op (o - 1)
    obtain ⟨h1, e1, Q1, y1⟩ := m_drops Q0 (by omega)
    have bad1 : hI h1 (x + 107) 5 = nI 0 := by rw [y1.2.2.2.2.2 _ _ (by unfold QD; omega), hI_sI, if_neg (by omega)]; exact bad
    obtain ⟨h2, e2, Q2, y2⟩ := ih R (c ++ [12]) k (o - 1) h1 (fun u hu => hN u (List.mem_cons_of_mem _ hu)) hR (by omega) (by omega) (by omega) (by simp; omega) bad1 Q1
    refine ⟨h2, ?_, by rw [List.append_assoc] at Q2; rw [show o - (12 :: N).length = o - 1 - N.length by show o - (N.length + 1) = _; omega]; exact Q2, (qy_s (by unfold QD; omega)).trans (y1.trans y2)⟩
    rw [← e2]
    show b_X12_qDropsNots_0 (f_X12_qDropsNots_0 k) (x + 107) h = _
    unfold b_X12_qDropsNots_0
    rw [ko_t S.k, bad, if_pos (show nI 0 = (0 : Int32) from rfl), bd_t (show f_X12_qIsOn (x + 107) 12 h = _ from i), if_neg (show ¬ nI 1 = (0 : Int32) by decide), ko_t S.k, a4, show nI o - 1 = nI (o - 1) from pk_sub (b := 1) (by omega), bd_t e1]
/-- a fault: the test ends -/
theorem te_bad {k : Nat} (S : MS h (x + 107)) (bad : hI h (x + 107) 5 = nI k) (h1 : 1 ≤ k) (h2 : k ≤ 100) {s : Int32} (hk : 1 ≤ k1) : f_X12_qTest_2 k1 (x + 107) s h = some ((), h) := by
  obtain ⟨k1, rfl⟩ : ∃ j, k1 = j + 1 := ⟨k1 - 1, by omega⟩
  obtain ⟨fn, hfn⟩ : ∃ m, FU = m + 1 := ⟨9999, rfl⟩
  have e : f_X12_qTest_110 FU (x + 107) h = some ((), h) := by
    rw [hfn]
    show b_X12_qTest_110 (f_X12_qTest_110 fn) (x + 107) h = _
    unfold b_X12_qTest_110
    rw [ko_t S.k, bad, if_neg (nI_n0 h1 h2)]
    rfl
  show b_X12_qTest_2 (f_X12_qTest_2 k1) (x + 107) s h = _
  unfold b_X12_qTest_2
  by_cases z : s = 0
  · rw [if_pos z, e]
  · rw [if_neg z, ko_t S.k, bad, if_neg (nI_n0 h1 h2), e]
theorem tq_bad {k p : Nat} {h0 : aH} (S : MS h (x + 107)) (bad : hI h (x + 107) 5 = nI k) (at6 : hI h (x + 107) 6 = nI p) (h1 : 1 ≤ k) (h2 : k ≤ 100) {s : Int32} (hk : 1 ≤ k1) (q : QX x h0 h) : FLT x h0 (f_X12_qTest_2 k1 (x + 107) s h) k p := ⟨h, te_bad S bad h1 h2 hk, bad, at6, ⟨h1, h2⟩, q⟩
/-- a square bracket opens -/
theorem t_sq (T : RQ h x tp n w σ c W o bs) (tb : ∀ j, tp j ≤ 255) (hn : n ≤ 1600) (z : isS tp n σ 91 = true) : (o < 6 → ∃ h1, f_X12_qTest_2 (k1 + 1) (x + 107) 1 h = f_X12_qTest_2 k1 (x + 107) 1 h1 ∧ RQ h1 x tp n w (nS tp n σ) c (25 :: W) (o + 1) bs ∧ QX x h h1) ∧ (o = 6 → 1 ≤ k1 → FLT x h (f_X12_qTest_2 (k1 + 1) (x + 107) 1 h) 4 σ.1) := by
  obtain ⟨lk, A, Q⟩ := T.a tb hn
  have S := T.2.1.1
  have bad := T.1.2.2.1
  have sn := T.1.2.1.1
  obtain ⟨-, -, lc, o6, lb⟩ := T
  obtain ⟨h0, hh0⟩ : ∃ h0, h0 = sI h (x + 107) 2 (nI σ.1) := ⟨_, rfl⟩
  have q0 : QX x h h0 := by rw [hh0]; exact qx_s (by unfold QC; omega)
  rw [← hh0] at lk A Q
  have S0 := A.1.1
  have at0 : hI h0 (x + 107) 2 = nI σ.1 := A.2.2.2.1
  have st : ∀ r, f_X12_qOpens (x + 107) (nI 25) (nI σ.1) h0 = some ((), r) → MS r (x + 107) → hI r (x + 107) 2 = nI σ.1 → f_X12_qTest_2 (k1 + 1) (x + 107) 1 h = f_X12_qTest_2 k1 (x + 107) 1 (sI r (x + 107) 2 (nI (σ.1 + 1))) := by
    intro r e Sr er
    show b_X12_qTest_2 (f_X12_qTest_2 k1) (x + 107) 1 h = _
    unfold b_X12_qTest_2
    rw [if_neg (show ¬ (1 : Int32) = 0 by decide), ko_t S.k, bad, if_pos (show nI 0 = (0 : Int32) from rfl), bd_t lk, if_pos (show btT tp n σ = (91 : Int32) from btT_t tb (q := 91) (by omega) z), ko_t S0.k, at0, bd_t (show f_X12_qOpens (x + 107) 25 (nI σ.1) h0 = _ from e), ko_t Sr.k, er, show nI σ.1 + 1 = nI (σ.1 + 1) from nI_k _ _]
  obtain ⟨p1, p2⟩ := m_opens (v := 25) (p := σ.1) Q o6 (by omega) (by omega) A.2.2.1
  refine ⟨fun y => ?_, fun y y1 => ?_⟩
  · obtain ⟨h1, e1, Q1, t1⟩ := p2 y
    have A1 := A.qy t1
    refine ⟨sI h1 (x + 107) 2 (nI (σ.1 + 1)), st h1 e1 A1.1.1 A1.2.2.2.1, ⟨A1.sg z, Q1.s (by omega) _, ?_, by omega, ?_⟩, (q0.trans t1.x).trans (qx_s (by unfold QC; omega))⟩
    · have ns := (nS_ok z).2
      rw [List.length_cons]; omega
    · rw [List.length_cons]; omega
  · have M1 := A.1.qx (qx_fl (h := h0) (x := x) (k := 4) (p := σ.1))
    have f2 : hI (flH h0 x 4 σ.1) (x + 107) 2 = nI σ.1 := by unfold flH; rw [hI_sI, if_neg (by omega), hI_sI, if_neg (by omega)]; exact at0
    have f5 := fl_5 (h := h0) (x := x) (k := 4) (p := σ.1)
    rw [st _ (p1 y) M1.1 f2]
    have Mg : MS (sI (flH h0 x 4 σ.1) (x + 107) 2 (nI (σ.1 + 1))) (x + 107) := M1.1.of rfl rfl
    have g5 : hI (sI (flH h0 x 4 σ.1) (x + 107) 2 (nI (σ.1 + 1))) (x + 107) 5 = nI 4 := by rw [hI_sI, if_neg (by omega)]; exact f5.1
    have g6 : hI (sI (flH h0 x 4 σ.1) (x + 107) 2 (nI (σ.1 + 1))) (x + 107) 6 = nI σ.1 := by rw [hI_sI, if_neg (by omega)]; exact f5.2
    have qg : QX x (flH h0 x 4 σ.1) (sI (flH h0 x 4 σ.1) (x + 107) 2 (nI (σ.1 + 1))) := qx_s (by unfold QC; omega)
    exact tq_bad Mg g5 g6 (by omega) (by omega) y1 ((q0.trans qx_fl).trans qg)
/-- not -/
theorem t_not (T : RQ h x tp n w σ c W o bs) (tb : ∀ j, tp j ≤ 255) (hn : n ≤ 1600) (z : isW tp n σ 21 = true) : (o < 6 → ∃ h1, f_X12_qTest_2 (k1 + 1) (x + 107) 1 h = f_X12_qTest_2 k1 (x + 107) 1 h1 ∧ RQ h1 x tp n w (nW tp n σ) c (12 :: W) (o + 1) bs ∧ QX x h h1) ∧ (o = 6 → 1 ≤ k1 → FLT x h (f_X12_qTest_2 (k1 + 1) (x + 107) 1 h) 4 σ.1) := by
  obtain ⟨lk, A, Q⟩ := T.a tb hn
  have S := T.2.1.1
  have bad := T.1.2.2.1
  have sn := T.1.2.1.1
  obtain ⟨-, -, lc, o6, lb⟩ := T
  obtain ⟨h0, hh0⟩ : ∃ h0, h0 = sI h (x + 107) 2 (nI σ.1) := ⟨_, rfl⟩
  have q0 : QX x h h0 := by rw [hh0]; exact qx_s (by unfold QC; omega)
  rw [← hh0] at lk A Q
  have S0 := A.1.1
  have at0 : hI h0 (x + 107) 2 = nI σ.1 := A.2.2.2.1
  have n91 : isS tp n σ 91 = false := isWS (by decide) z
  have r72 : hR h0 (x + 107) 72 = some (x + 107 + 39 + 6) := (S0.aw 6 (by omega)).1
  have i6 := m_hereA A tb hn (i := 6) (by omega)
  rw [show isW tp n σ (askW 6) = true from z, b2i_t] at i6
  have st : ∀ r g, f_X12_qOpens (x + 107) (nI 12) (nI σ.1) h0 = some ((), r) → MS r (x + 107) → f_X12_asks (x + 107) (x + 107 + 39 + 6) r = some ((), g) → f_X12_qTest_2 (k1 + 1) (x + 107) 1 h = f_X12_qTest_2 k1 (x + 107) 1 g := by
    intro r g e Sr eg
    have r72' : hR r (x + 107) 72 = some (x + 107 + 39 + 6) := (Sr.aw 6 (by omega)).1
    show b_X12_qTest_2 (f_X12_qTest_2 k1) (x + 107) 1 h = _
    unfold b_X12_qTest_2
    rw [if_neg (show ¬ (1 : Int32) = 0 by decide), ko_t S.k, bad, if_pos (show nI 0 = (0 : Int32) from rfl), bd_t lk, if_neg (show ¬ btT tp n σ = (91 : Int32) from btT_f tb (q := 91) (by omega) n91), ko_t S0.k, kr_t r72, bd_t i6, if_neg (show ¬ nI 1 = (0 : Int32) by decide), ko_t S0.k, at0, bd_t (show f_X12_qOpens (x + 107) 12 (nI σ.1) h0 = _ from e), ko_t Sr.k, kr_t r72', bd_t eg]
  obtain ⟨p1, p2⟩ := m_opens (v := 12) (p := σ.1) Q o6 (by omega) (by omega) A.2.2.1
  refine ⟨fun y => ?_, fun y y1 => ?_⟩
  · obtain ⟨h1, e1, Q1, t1⟩ := p2 y
    have A1 := A.qy t1
    have k6 := (A1.1.1.aw 6 (by omega)).2
    have as := m_asks1 A1 hn k6 (by decide) (m_hereA A1 tb hn (i := 6) (by omega)) z
    refine ⟨_, st h1 _ e1 A1.1.1 as, ⟨A1.w z, (Q1.s (by omega) _).s (by omega) _, ?_, by omega, ?_⟩, (q0.trans t1.x).trans qx_tk⟩
    · have ns := (nW_ok z).2
      rw [List.length_cons]; omega
    · rw [List.length_cons]; omega
  · have M1 := A.1.qx (qx_fl (h := h0) (x := x) (k := 4) (p := σ.1))
    have f5 := fl_5 (h := h0) (x := x) (k := 4) (p := σ.1)
    have as : f_X12_asks (x + 107) (x + 107 + 39 + 6) (flH h0 x 4 σ.1) = some ((), flH h0 x 4 σ.1) := by
      unfold f_X12_asks
      rw [ko_t M1.1.k, f5.1, if_neg (nI_n0 (by omega) (by omega))]
      rfl
    rw [st _ _ (p1 y) M1.1 as]
    exact tq_bad M1.1 f5.1 f5.2 (by omega) (by omega) y1 (q0.trans qx_fl)
end Tf
