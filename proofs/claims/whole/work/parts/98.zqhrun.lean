/-! THE TEXTS: the reference's sums: brackets that close, commas, ends, faults -/
section Rv
variable {h : aH} {x n w o bs k1 k2 : Nat} {tp : Nat → Nat} {σ : tyT} {c W : List Nat} {v : Int32}
theorem QQ.op (Q : QQ h x w c W o bs) (o' : Nat) : QQ (sI h (x + 107) 95 (nI o')) x w c W o' bs := by
  obtain ⟨s1, ⟨b1, b2⟩, ⟨t1, t2⟩, u4, u5, u6, u7⟩ := Q
  exact ⟨s1.of rfl rfl, ⟨by rw [hI_sI, if_neg (by omega)]; exact b1, fun i hi => by rw [hI_sI, if_neg (by omega)]; exact b2 i hi⟩, ⟨by rw [hI_sI, if_neg (by omega)]; exact t1, fun i hi => by rw [hI_sI, if_neg (by omega)]; exact t2 i hi⟩, by rw [hI_sI, if_pos ⟨rfl, rfl⟩], by rw [hI_sI, if_neg (by omega)]; exact u5, by rw [hI_sI, if_neg (by omega)]; exact u6, u7⟩
/-- what a closing bracket adds -/
def brC (b : Nat) : List Nat := if b = 23 then [5] else if b = 24 then [6] else []
theorem brC_l {b : Nat} : (brC b).length ≤ 1 := by
  unfold brC
  by_cases z : b = 23
  · rw [if_pos z]; exact Nat.le_refl _
  · rw [if_neg z]
    by_cases z : b = 24
    · rw [if_pos z]; exact Nat.le_refl _
    · rw [if_neg z]; exact Nat.zero_le _
/-- a bracket closes -/
theorem a_43 (k0 : Nat → aH → Option (Int32 × aH)) (A : RA h x tp n σ) (tb : ∀ j, tp j ≤ 255) (hn : n ≤ 1600) {P R F R2 : List Nat} {b : Nat} (Q : QQ h x w c (P ++ b :: R) o bs) (hP : ∀ u ∈ P, isBr u = false) (hb : b = 20 ∨ b = 23 ∨ b = 24) (hbR : bs ≤ R.length) (hR : R = F ++ R2) (hF : ∀ u ∈ F, 60 ≤ u) (hR2 : R2.length = bs ∨ bs < R2.length ∧ ∃ u R', R2 = u :: R' ∧ u < 60) (ho : F.length + 1 ≤ o) (o6 : o ≤ 6) (lc : c.length + (P ++ b :: R).length ≤ σ.1) (z : isS tp n σ 41 = true) : ∃ h1, f_X12_qGoesOn_43 k0 (x + 107) h = k0 (x + 107) h1 ∧ RT h1 x tp n (nS tp n σ) ∧ QQ h1 x w (c ++ P ++ brC b ++ F) R2 (o - 1 - F.length) bs ∧ QX x h h1 := by
  obtain ⟨q1, q2⟩ := isS_t z
  have S := A.1.1
  have RT1 := A.sg z
  have Q1 : QQ (sI h (x + 107) 2 (nI (σ.1 + 1))) x w c (P ++ b :: R) o bs := Q.s (by omega) _
  rw [List.length_append, List.length_cons] at lc
  have ib : isBr b = true := by rcases hb with rfl | rfl | rfl <;> rfl
  obtain ⟨h2, e2, Q2, y2⟩ := m_dropsTo P (b :: R) c FU _ hP (.inr ⟨by show bs < R.length + 1; omega, b, R, rfl, ib⟩) (FU_gt (by omega)) (by omega) Q1
  have RT2 := RT1.qy y2
  have S2 := RT2.1.1
  obtain ⟨P2, pb⟩ := Q2.pop
  have d94 : hI h2 (x + 107) 94 = nI (R.length + 1) := Q2.2.2.1.1
  have d95 : hI h2 (x + 107) 95 = nI o := Q2.2.2.2.1
  obtain ⟨h3, hh3⟩ : ∃ h3, h3 = sI (sI h2 (x + 107) 94 (nI R.length)) (x + 107) 95 (nI (o - 1)) := ⟨_, rfl⟩
  have Q3 : QQ h3 x w (c ++ P) R (o - 1) bs := by rw [hh3]; exact P2.op (o - 1)
  have y3 : QY x h2 h3 := by rw [hh3]; exact (qy_s (by unfold QD; omega)).trans (qy_s (by unfold QD; omega))
  have RT3 := RT2.qy y3
  have S3 := RT3.1.1
  have c3 : hI h3 (x + 107) 94 = nI R.length := by rw [hh3, hI_sI, if_neg (by omega), hI_sI, if_pos ⟨rfl, rfl⟩]
  have t3 : hI h3 (x + 107 + 65) R.length = nI b := by rw [hh3, hI_sI, if_neg (by omega), hI_sI, if_neg (by omega)]; exact pb
  have at2 : hI h (x + 107) 2 = nI σ.1 := A.2.2.2.1
  have f95 : hI (sI h2 (x + 107) 94 (nI R.length)) (x + 107) 95 = nI o := by rw [hI_sI, if_neg (by omega)]; exact d95
  have s94 : nI (R.length + 1) - 1 = nI R.length := by rw [show nI (R.length + 1) - 1 = nI (R.length + 1 - 1) from pk_sub (b := 1) (by omega)]; rfl
  have s95 : nI o - 1 = nI (o - 1) := pk_sub (b := 1) (by omega)
  have lR : R.length = F.length + R2.length := by rw [hR]; simp
  have step : f_X12_qGoesOn_43 k0 (x + 107) h = if nI b = (20 : Int32) then f_X12_qGoesOn_115 k0 (x + 107) h3 else if nI b = (23 : Int32) then f_X12_qGoesOn_112 k0 (x + 107) (x + 107) 5 h3 else f_X12_qGoesOn_112 k0 (x + 107) (x + 107) 6 h3 := by
    unfold f_X12_qGoesOn_43
    rw [ko_t S.k, at2, show nI σ.1 + 1 = nI (σ.1 + 1) from nI_k _ _, bd_t (show f_X12_qDropsToBracket (x + 107) (sI h (x + 107) 2 (nI (σ.1 + 1))) = _ from e2), ko_t S2.k]
    simp only [nm]
    rw [d94, s94, f95, s95, ← hh3, kr_t S2.r93, ka_t S2.k93, c3, chk_t (inb_nI (by omega) (by omega)), tn_nI (by omega), t3]
    rw [chk_t (inb_nI (by omega) (by omega))]
  have ends : ∀ (E : List Nat) (g : aH), E.length ≤ 1 → QQ g x w (c ++ P ++ E) R (o - 1) bs → RT g x tp n (nS tp n σ) → ∃ g1, f_X12_qGoesOn_115 k0 (x + 107) g = k0 (x + 107) g1 ∧ QQ g1 x w (c ++ P ++ E ++ F) R2 (o - 1 - F.length) bs ∧ QY x g g1 := by
    intro E g lE Qg Tg
    rw [hR] at Qg
    obtain ⟨g1, a1, a2, a3⟩ := m_ends F R2 (c ++ P ++ E) FU (o - 1) g hF hR2 (FU_gt (by omega)) (by omega) (by omega) (by rw [List.length_append, List.length_append]; omega) Tg.2.2.1 Qg
    refine ⟨g1, ?_, a2, a3⟩
    unfold f_X12_qGoesOn_115
    rw [ko_t Tg.1.1.k, bd_t (show f_X12_qEndsPart (x + 107) g = _ from a1)]
  have back : ∀ g, QY x h3 g → QX x h g := fun g yg => (qx_s (by unfold QC; omega)).trans ((y2.trans y3).trans yg).x
  have coded : ∀ m, ∃ g, f_X12_qGoesOn_112 k0 (x + 107) (x + 107) (nI m) h3 = f_X12_qGoesOn_115 k0 (x + 107) g ∧ QQ g x w (c ++ P ++ [m]) R (o - 1) bs ∧ QY x h3 g := by
    intro m
    obtain ⟨g, a1, a2, a3⟩ := m_code Q3 (by rw [List.length_append]; omega) (v := m)
    refine ⟨g, ?_, a2, a3⟩
    unfold f_X12_qGoesOn_112
    rw [ko_t S3.k, bd_t a1]
  rcases hb with rfl | rfl | rfl
  · rw [if_pos (by decide)] at step
    obtain ⟨g1, a1, a2, a3⟩ := ends [] h3 (by simp) (by rw [List.append_nil]; exact Q3) RT3
    exact ⟨g1, step.trans a1, RT3.qy a3, a2, back g1 a3⟩
  · rw [if_neg (by decide), if_pos (by decide)] at step
    obtain ⟨g, b1, b2, b3⟩ := coded 5
    obtain ⟨g1, a1, a2, a3⟩ := ends [5] g (by simp) b2 (RT3.qy b3)
    exact ⟨g1, step.trans (b1.trans a1), (RT3.qy b3).qy a3, a2, back g1 (b3.trans a3)⟩
  · rw [if_neg (by decide), if_neg (by decide)] at step
    obtain ⟨g, b1, b2, b3⟩ := coded 6
    obtain ⟨g1, a1, a2, a3⟩ := ends [6] g (by simp) b2 (RT3.qy b3)
    exact ⟨g1, step.trans (b1.trans a1), (RT3.qy b3).qy a3, a2, back g1 (b3.trans a3)⟩
theorem a_close (T : RQ h x tp n w σ c W o bs) (tb : ∀ j, tp j ≤ 255) (hn : n ≤ 1600) {P R F R2 : List Nat} {b : Nat} (hW : W = P ++ b :: R) (hP : ∀ u ∈ P, isBr u = false) (hb : b = 20 ∨ b = 23 ∨ b = 24) (hbR : bs ≤ R.length) (hR : R = F ++ R2) (hF : ∀ u ∈ F, 60 ≤ u) (hR2 : R2.length = bs ∨ bs < R2.length ∧ ∃ u R', R2 = u :: R' ∧ u < 60) (ho : F.length + 1 ≤ o) (z : isS tp n σ 41 = true) : ∃ h1, PA (k1 + 1) k2 x v h = PA k1 k2 x v h1 ∧ RQ h1 x tp n w (nS tp n σ) (c ++ P ++ brC b ++ F) R2 (o - 1 - F.length) bs ∧ QX x h h1 := by
  obtain ⟨lk, A, Q⟩ := T.a tb hn
  have S := T.2.1.1
  have S1 := A.1.1
  have bad := T.1.2.2.1
  obtain ⟨-, -, lc, o6, lb⟩ := T
  subst hW
  have ib : isBr b = true := by rcases hb with rfl | rfl | rfl <;> rfl
  have st : stopB bs (b :: R) := .inr ⟨by show bs < R.length + 1; omega, b, R, rfl, ib⟩
  have br := m_br hP st Q
  rw [if_neg (by show ¬ R.length + 1 = bs; omega)] at br
  have br : f_X12_qBracket (x + 107) (sI h (x + 107) 2 (nI σ.1)) = some (nI b, sI h (x + 107) 2 (nI σ.1)) := br
  obtain ⟨h1, e1, T1, Q1, y1⟩ := a_43 (f_X12_qGoesOn_0 k1) A tb hn Q hP hb hbR hR hF hR2 ho o6 lc z
  refine ⟨h1, ?_, ⟨T1, Q1, ?_, by omega, ?_⟩, (qx_s (by unfold QC; omega)).trans y1⟩
  · unfold PA
    have : f_X12_qGoesOn_0 (k1 + 1) (x + 107) h = f_X12_qGoesOn_43 (f_X12_qGoesOn_0 k1) (x + 107) (sI h (x + 107) 2 (nI σ.1)) := by
      show b_X12_qGoesOn_0 (f_X12_qGoesOn_0 k1) (x + 107) h = _
      unfold b_X12_qGoesOn_0
      rw [ko_t S.k, bad, if_pos (show nI 0 = (0 : Int32) from rfl), bd_t lk, if_pos (show btT tp n σ = (41 : Int32) by have := btT_eq (n := n) (σ := σ) tb (q := 41) (by omega); rw [show (41 : Int32) = nI 41 from rfl, this]; exact z), ko_t S1.k, bd_t br]
      rcases hb with rfl | rfl | rfl
      · rw [if_pos (show nI 20 = (20 : Int32) from rfl)]
      · rw [if_neg (show ¬ nI 23 = (20 : Int32) by decide), ko_t S1.k, bd_t br, if_pos (show nI 23 = (23 : Int32) from rfl)]
      · rw [if_neg (show ¬ nI 24 = (20 : Int32) by decide), ko_t S1.k, bd_t br, if_neg (show ¬ nI 24 = (23 : Int32) by decide), ko_t S1.k, bd_t br, if_pos (show nI 24 = (24 : Int32) from rfl)]
    rw [this, e1]
  · have ns := (nS_ok z).2
    have l2 := brC_l (b := b)
    have lR : R.length = F.length + R2.length := by rw [hR]; simp
    rw [List.length_append, List.length_cons] at lc
    rw [List.length_append, List.length_append, List.length_append]
    omega
  · rcases hR2 with y | ⟨y, -⟩ <;> omega
theorem m_asksS (T : RA h x tp n σ) (tb : ∀ j, tp j ≤ 255) (hn : n ≤ 1600) {q : Nat} (hq : q ≤ 255) : (isS tp n σ q = true → f_X12_asksSign (x + 107) (nI q) h = some ((), sI h (x + 107) 2 (nI (σ.1 + 1)))) ∧ (isS tp n σ q = false → f_X12_asksSign (x + 107) (nI q) h = some ((), flH h x 1 σ.1)) := by
  have S := T.1.1
  have bad := T.2.2.1
  have at2 := T.2.2.2.1
  obtain ⟨t1, t2⟩ := m_takesS T tb hn hq
  refine ⟨fun z => ?_, fun z => ?_⟩
  · unfold f_X12_asksSign
    rw [ko_t S.k, bad, if_pos (show nI 0 = (0 : Int32) from rfl), bd_t (t1 z), if_neg (show ¬ nI 1 = (0 : Int32) by decide)]
    rfl
  · unfold f_X12_asksSign
    rw [ko_t S.k, bad, if_pos (show nI 0 = (0 : Int32) from rfl), bd_t (t2 z), if_pos (show nI 0 = (0 : Int32) from rfl), ko_t S.k, at2, bd_t (show f_X12_fail (x + 107) 1 (nI σ.1) h = _ from m_fail S bad 1 σ.1)]
    rfl
/-- no operator is here -/
def noOp (tp : Nat → Nat) (n : Nat) (σ : tyT) : Prop := isS tp n σ 42 = false ∧ isS tp n σ 47 = false ∧ isS tp n σ 43 = false ∧ isS tp n σ 45 = false
/-- no operator: the bracket at hand decides -/
theorem a_none (A : RA h x tp n σ) (tb : ∀ j, tp j ≤ 255) (hn : n ≤ 1600) {P R : List Nat} (Q : QQ h x w c (P ++ R) o bs) (hP : ∀ u ∈ P, isBr u = false) (hR : stopB bs R) (no : noOp tp n σ) : f_X12_qGoesOn_122 (x + 107) h = if R.length = bs then some (0, h) else if R.headD 0 = 21 ∨ R.headD 0 = 22 then f_X12_qGoesOn_326 (x + 107) h else some (0, flH h x 1 σ.1) := by
  have S := A.1.1
  have bad := A.2.2.1
  have at2 := A.2.2.2.1
  have br := m_br hP hR Q
  have t42 := (m_takesS A tb hn (q := 42) (by omega)).2 no.1
  have t47 := (m_takesS A tb hn (q := 47) (by omega)).2 no.2.1
  have t43 := (m_takesS A tb hn (q := 43) (by omega)).2 no.2.2.1
  have t45 := (m_takesS A tb hn (q := 45) (by omega)).2 no.2.2.2
  have z0 : nI 0 = (0 : Int32) := rfl
  unfold f_X12_qGoesOn_122
  rw [ko_t S.k, bd_t (show f_X12_takesSign (x + 107) 42 h = _ from t42), if_pos z0, ko_t S.k, bd_t (show f_X12_takesSign (x + 107) 47 h = _ from t47), if_pos z0, ko_t S.k, bd_t (show f_X12_takesSign (x + 107) 43 h = _ from t43), if_pos z0, ko_t S.k, bd_t (show f_X12_takesSign (x + 107) 45 h = _ from t45), if_pos z0, ko_t S.k, bd_t br]
  by_cases y : R.length = bs
  · rw [if_pos y] at br ⊢
    rw [if_pos y, if_neg (show ¬ (-nI 1 : Int32) = 21 by decide), ko_t S.k, bd_t br, if_neg (show ¬ (-nI 1 : Int32) = 22 by decide), ko_t S.k, bd_t br, if_pos (show (-nI 1 : Int32) = -1 from rfl)]
    rfl
  · rw [if_neg y] at br ⊢
    rw [if_neg y]
    rcases hR with u | ⟨-, b, R', rfl, hb⟩
    · exact absurd u y
    have br : f_X12_qBracket (x + 107) h = some (nI b, h) := br
    show (if nI b = (21 : Int32) then _ else _) = if b = 21 ∨ b = 22 then _ else _
    have b20 : 20 ≤ b ∧ b ≤ 24 := by
      unfold isBr at hb
      simpa using hb
    by_cases b1 : b = 21
    · subst b1
      rw [if_pos (show nI 21 = (21 : Int32) from rfl), if_pos (.inl rfl)]
    · by_cases b2 : b = 22
      · subst b2
        rw [if_neg (show ¬ nI 22 = (21 : Int32) by decide), ko_t S.k, bd_t br, if_pos (show nI 22 = (22 : Int32) from rfl), if_pos (.inr rfl)]
      · have n1 : ¬ nI b = (21 : Int32) := fun z => b1 ((nI_eq (b := 21) (by omega) (by omega)).mp z)
        have n2 : ¬ nI b = (22 : Int32) := fun z => b2 ((nI_eq (b := 22) (by omega) (by omega)).mp z)
        have n3 : ¬ nI b = (-1 : Int32) := by
          have : b = 20 ∨ b = 23 ∨ b = 24 := by omega
          rcases this with rfl | rfl | rfl <;> decide
        rw [if_neg n1, ko_t S.k, bd_t br, if_neg n2, ko_t S.k, bd_t br, if_neg n3, ko_t S.k, bad, if_pos z0, at2, bd_t (show f_X12_fail (x + 107) 1 (nI σ.1) h = _ from m_fail S bad 1 σ.1), if_neg (by omega)]
        rfl
/-- behind a part with an open bracket: what comes fits nothing -/
theorem a_fail (T : RQ h x tp n w σ c W o bs) (tb : ∀ j, tp j ≤ 255) (hn : n ≤ 1600) {P R : List Nat} {b : Nat} (hW : W = P ++ b :: R) (hP : ∀ u ∈ P, isBr u = false) (hb : isBr b = true) (hbR : bs ≤ R.length) (no : noOp tp n σ) (nf : if b = 21 ∨ b = 22 then isS tp n σ 44 = false else isS tp n σ 41 = false) (hk1 : 1 ≤ k1) (hk2 : 1 ≤ k2) : PA k1 k2 x v h = some ((), sI (flH (sI h (x + 107) 2 (nI σ.1)) x 1 σ.1) (x + 107) 96 v) := by
  obtain ⟨k1, rfl⟩ : ∃ j, k1 = j + 1 := ⟨k1 - 1, by omega⟩
  obtain ⟨lk, A, Q⟩ := T.a tb hn
  have S1 := A.1.1
  have st : stopB bs (b :: R) := .inr ⟨by show bs < R.length + 1; omega, b, R, rfl, hb⟩
  have s122 := a_122 (k1 := k1) T tb hn hW hP st (fun y => by
    by_cases z : b = 21 ∨ b = 22
    · exact .inr z
    · rw [if_neg z, y] at nf; cases nf)
  rw [hW] at Q
  have s2 := a_none A tb hn Q hP st no
  rw [if_neg (by show ¬ R.length + 1 = bs; omega)] at s2
  have e : f_X12_qGoesOn_122 (x + 107) (sI h (x + 107) 2 (nI σ.1)) = some (0, flH (sI h (x + 107) 2 (nI σ.1)) x 1 σ.1) := by
    by_cases z : b = 21 ∨ b = 22
    · rw [if_pos z] at nf
      rw [s2, if_pos (show (b :: R).headD 0 = 21 ∨ (b :: R).headD 0 = 22 from z)]
      have a := (m_asksS A tb hn (q := 44) (by omega)).2 nf
      have f5 := (fl_5 (h := sI h (x + 107) 2 (nI σ.1)) (x := x) (k := 1) (p := σ.1)).1
      have Sf := (A.1.qx (qx_fl (h := sI h (x + 107) 2 (nI σ.1)) (x := x) (k := 1) (p := σ.1))).1
      unfold f_X12_qGoesOn_326
      rw [ko_t S1.k, bd_t (show f_X12_asksSign (x + 107) 44 (sI h (x + 107) 2 (nI σ.1)) = _ from a), ko_t Sf.k, f5, if_neg (show ¬ nI 1 = (0 : Int32) by decide)]
    · rw [s2, if_neg (show ¬ ((b :: R).headD 0 = 21 ∨ (b :: R).headD 0 = 22) from z)]
  unfold PA
  rw [s122, bd_t e, if_pos rfl]
  exact fin_0 (A.1.qx qx_fl).1 (fl_5).1 (by omega) (by omega) hk2
/-- a comma where one is asked -/
theorem a_comma (T : RQ h x tp n w σ c W o bs) (tb : ∀ j, tp j ≤ 255) (hn : n ≤ 1600) {P R : List Nat} {b : Nat} (hW : W = P ++ b :: R) (hP : ∀ u ∈ P, isBr u = false) (hb : b = 21 ∨ b = 22) (hbR : bs ≤ R.length) (z : isS tp n σ 44 = true) (hk1 : 1 ≤ k1) (hk2 : 1 ≤ k2) : ∃ h1, PA k1 k2 x v h = PE FU (k2 - 1) x v h1 ∧ RQ h1 x tp n w (nS tp n σ) (c ++ P) ((b + 2) :: R) o bs ∧ QX x h h1 := by
  obtain ⟨k1, rfl⟩ : ∃ j, k1 = j + 1 := ⟨k1 - 1, by omega⟩
  obtain ⟨k2, rfl⟩ : ∃ j, k2 = j + 1 := ⟨k2 - 1, by omega⟩
  obtain ⟨q1, q2⟩ := isS_t z
  obtain ⟨lk, A, Q⟩ := T.a tb hn
  have ib : isBr b = true := by rcases hb with rfl | rfl <;> rfl
  have st : stopB bs (b :: R) := .inr ⟨by show bs < R.length + 1; omega, b, R, rfl, ib⟩
  have s122 := a_122 (k1 := k1) T tb hn hW hP st (fun y => by have := (isS_t y).2; omega)
  obtain ⟨-, -, lc, o6, lb⟩ := T
  obtain ⟨h0, hh0⟩ : ∃ h0, h0 = sI h (x + 107) 2 (nI σ.1) := ⟨_, rfl⟩
  rw [← hh0] at lk A Q s122
  have S0 := A.1.1
  subst hW
  have no : noOp tp n σ := ⟨isSS (c := 44) (by omega) z, isSS (c := 44) (by omega) z, isSS (c := 44) (by omega) z, isSS (c := 44) (by omega) z⟩
  have s2 := a_none A tb hn Q hP st no
  rw [if_neg (by show ¬ R.length + 1 = bs; omega), if_pos (show (b :: R).headD 0 = 21 ∨ (b :: R).headD 0 = 22 from hb)] at s2
  have RT1 := A.sg z
  have S1 := RT1.1.1
  have Q1 : QQ (sI h0 (x + 107) 2 (nI (σ.1 + 1))) x w c (P ++ b :: R) o bs := Q.s (by omega) _
  have a := (m_asksS A tb hn (q := 44) (by omega)).1 z
  rw [List.length_append, List.length_cons] at lc
  obtain ⟨h2, e2, Q2, y2⟩ := m_dropsTo P (b :: R) c FU _ hP st (FU_gt (by omega)) (by omega) Q1
  have RT2 := RT1.qy y2
  have S2 := RT2.1.1
  obtain ⟨P2, pb⟩ := Q2.pop
  have d94 : hI h2 (x + 107) 94 = nI (R.length + 1) := Q2.2.2.1.1
  have s94 : nI (R.length + 1) - 1 = nI R.length := by rw [show nI (R.length + 1) - 1 = nI (R.length + 1 - 1) from pk_sub (b := 1) (by omega)]; rfl
  have Q3 : QQ (sI h2 (x + 107 + 65) R.length (nI (b + 2))) x w (c ++ P) ((b + 2) :: R) o bs := by
    obtain ⟨u1, ⟨b1, b2⟩, ⟨t1, t2⟩, u4, u5, u6, u7, u8, u9, u10⟩ := Q2
    refine ⟨u1.of rfl rfl, ⟨by rw [hI_sI, if_neg (by omega)]; exact b1, fun i hi => by rw [hI_sI, if_neg (by omega)]; exact b2 i hi⟩, ⟨by rw [hI_sI, if_neg (by omega)]; exact t1, fun i hi => ?_⟩, by rw [hI_sI, if_neg (by omega)]; exact u4, by rw [hI_sI, if_neg (by omega)]; exact u5, by rw [hI_sI, if_neg (by omega)]; exact u6, u7, u8, u9, fun u hu => ?_⟩
    · have hi : i < R.length + 1 := hi
      rw [hI_sI]
      by_cases y : i = R.length
      · rw [if_pos ⟨rfl, y⟩, y]
        have : ((b + 2) :: R).length - 1 - R.length = 0 := by show R.length + 1 - 1 - R.length = 0; omega
        rw [this]; rfl
      · rw [if_neg (by omega), t2 i hi]
        have : (b :: R).length - 1 - i = (R.length - 1 - i) + 1 := by show R.length + 1 - 1 - i = _; omega
        have t : ((b + 2) :: R).length - 1 - i = (R.length - 1 - i) + 1 := by show R.length + 1 - 1 - i = _; omega
        rw [this, t]; rfl
    · rcases List.mem_cons.mp hu with rfl | hu
      · omega
      · exact u10 u (List.mem_cons_of_mem _ hu)
  have y3 : QY x h2 (sI h2 (x + 107 + 65) R.length (nI (b + 2))) := qy_s (by unfold QD; omega)
  have RT3 := RT2.qy y3
  have e : f_X12_qGoesOn_122 (x + 107) h0 = some (1, sI h2 (x + 107 + 65) R.length (nI (b + 2))) := by
    rw [s2]
    unfold f_X12_qGoesOn_326
    rw [ko_t S0.k, bd_t (show f_X12_asksSign (x + 107) 44 h0 = _ from a), ko_t S1.k, RT1.2.2.1, if_pos (show nI 0 = (0 : Int32) from rfl), bd_t (show f_X12_qDropsToBracket (x + 107) _ = _ from e2), ko_t S2.k, kr_t S2.r93, ka_t S2.k93, d94, s94, chk_t (inb_nI (by omega) (by omega)), tn_nI (by omega), pb, show nI b + 2 = nI (b + 2) from nI_k _ _]
  have ns := (nS_ok z).2
  refine ⟨_, ?_, ⟨RT3, Q3, by rw [List.length_append, List.length_cons]; omega, o6, by show bs ≤ R.length + 1; omega⟩, ?_⟩
  · unfold PA
    rw [s122, bd_t e, if_neg (show ¬ (1 : Int32) = 0 by decide), again RT3.1.1 RT3.2.2.1]
    rfl
  · rw [hh0] at y2
    exact ((qx_s (by unfold QC; omega)).trans (qx_s (by unfold QC; omega))).trans (y2.trans y3).x
/-- the sum ends: what waits is told -/
theorem m_dropsBs : ∀ (P R c : List Nat) (k : Nat) (h : aH), R.length = bs → P.length < k → c.length + P.length ≤ 1650 → hI h (x + 107) 5 = nI 0 → QQ h x w c (P ++ R) o bs → ∃ h1, f_X12_qSums_53 k (x + 107) v h = some ((), sI h1 (x + 107) 96 v) ∧ QQ h1 x w (c ++ P) R o bs ∧ QY x h h1 := by
  intro P
  induction P with
  | nil =>
    intro R c k h hR hk hc bad Q
    obtain ⟨k, rfl⟩ : ∃ j, k = j + 1 := ⟨k - 1, by have : (0 : Nat) < k := hk; omega⟩
    have Q : QQ h x w c R o bs := Q
    have S := Q.1
    have d1 := Q.2.2.1.1
    have a5 := Q.2.2.2.2.1
    have a8 := Q.2.2.2.2.2.2.2.1
    have a9 := Q.2.2.2.2.2.2.2.2.1
    rw [List.append_nil]
    refine ⟨h, ?_, Q, QY.refl⟩
    simp (disch := omega) only [nm, bd_s, ko_K, ka_K, koK_t, kaK_t, kr_s, kn_s, kn_n, hK_sI, hR_sI, hK_sL, hR_sL, hI_sL, hL_sI, hL_sL, hI_sI, hN_sI, hN_sL, ch_G, ch_T, nb_0, nb_1, zb_G, d_T, d_F, d_eT, d_eF, b2i_t, b2i_f, tn_nI, fa_lit, fa_litL, m1_e, nI_add, pk_mul, pk_sub, nI_leI, nI_ltI, nI_eq, le_T, le_F, lt_T, lt_F, eq_T, eq_F, if_pos, if_neg, m1_le, m1_lt', m1_gt, m1_le', m1_eq, m1_qe, b2i_eq0, in_N, in_n, in_I, ↓reduceIte, Bool.true_eq_false, Bool.false_eq_true, reduceCtorEq, decide_eq_true_eq, decide_eq_false_iff_not, Nat.not_lt, Nat.not_le, not_true_eq_false, not_false_eq_true, true_and, and_true, and_self, false_and, and_false, true_or, or_true, false_or, or_false, f_X12_qSums_53, b_X12_qSums_53, f_X12_qSums_78, S.k, bad, d1, a5]
  | cons u P ih =>
    intro R c k h hR hk hc bad Q
    obtain ⟨k, rfl⟩ : ∃ j, k = j + 1 := ⟨k - 1, by have : P.length + 1 < k := hk; omega⟩
    have hk : P.length + 1 < k + 1 := hk
    have hc : c.length + (P.length + 1) ≤ 1650 := hc
    have Q : QQ h x w c (u :: (P ++ R)) o bs := Q
    have S := Q.1
    have d1 : hI h (x + 107) 94 = nI ((P ++ R).length + 1) := Q.2.2.1.1
    have a5 := Q.2.2.2.2.1
    have a8 : (P ++ R).length + 1 ≤ 1650 := Q.2.2.2.2.2.2.2.1
    have a9 := Q.2.2.2.2.2.2.2.2.1
    have lb : bs ≤ (P ++ R).length := by simp; omega
    obtain ⟨h1, e1, Q1, y1⟩ := m_drops Q (by omega)
    have bad1 : hI h1 (x + 107) 5 = nI 0 := by rw [y1.2.2.2.2.2 _ _ (by unfold QD; omega)]; exact bad
    obtain ⟨h2, e2, Q2, y2⟩ := ih R (c ++ [u]) k h1 hR (by omega) (by simp; omega) bad1 Q1
    refine ⟨h2, ?_, by rw [List.append_assoc] at Q2; exact Q2, y1.trans y2⟩
    rw [← e2]
    generalize (P ++ R).length = l at *
    simp (disch := omega) only [nm, bd_s, ko_K, ka_K, koK_t, kaK_t, kr_s, kn_s, kn_n, hK_sI, hR_sI, hK_sL, hR_sL, hI_sL, hL_sI, hL_sL, hI_sI, hN_sI, hN_sL, ch_G, ch_T, nb_0, nb_1, zb_G, d_T, d_F, d_eT, d_eF, b2i_t, b2i_f, tn_nI, fa_lit, fa_litL, m1_e, nI_add, pk_mul, pk_sub, nI_leI, nI_ltI, nI_eq, le_T, le_F, lt_T, lt_F, eq_T, eq_F, if_pos, if_neg, m1_le, m1_lt', m1_gt, m1_le', m1_eq, m1_qe, b2i_eq0, in_N, in_n, in_I, ↓reduceIte, Bool.true_eq_false, Bool.false_eq_true, reduceCtorEq, decide_eq_true_eq, decide_eq_false_iff_not, Nat.not_lt, Nat.not_le, not_true_eq_false, not_false_eq_true, true_and, and_true, and_self, false_and, and_false, true_or, or_true, false_or, or_false, f_X12_qSums_53, b_X12_qSums_53, ↓ko_t S.k, S.k, bad, d1, a5, e1]
theorem a_end (T : RQ h x tp n w σ c W o bs) (tb : ∀ j, tp j ≤ 255) (hn : n ≤ 1600) {P R : List Nat} (hW : W = P ++ R) (hP : ∀ u ∈ P, isBr u = false) (hR : R.length = bs) (no : noOp tp n σ) (hk1 : 1 ≤ k1) (hk2 : 1 ≤ k2) : ∃ h1, PA k1 k2 x v h = some ((), sI h1 (x + 107) 96 v) ∧ RA h1 x tp n σ ∧ QQ h1 x w (c ++ P) R o bs ∧ QX x h h1 := by
  obtain ⟨k1, rfl⟩ : ∃ j, k1 = j + 1 := ⟨k1 - 1, by omega⟩
  obtain ⟨k2, rfl⟩ : ∃ j, k2 = j + 1 := ⟨k2 - 1, by omega⟩
  obtain ⟨lk, A, Q⟩ := T.a tb hn
  have s122 := a_122 (k1 := k1) T tb hn hW hP (.inl hR) (fun _ => .inl hR)
  have sn := T.1.2.1.1
  obtain ⟨-, -, lc, o6, lb⟩ := T
  obtain ⟨h0, hh0⟩ : ∃ h0, h0 = sI h (x + 107) 2 (nI σ.1) := ⟨_, rfl⟩
  rw [← hh0] at lk A Q s122
  subst hW
  have s2 := a_none A tb hn Q hP (.inl hR) no
  rw [if_pos hR] at s2
  rw [List.length_append] at lc
  obtain ⟨h2, e2, Q2, y2⟩ := m_dropsBs (v := v) P R c FU h0 hR (FU_gt (by omega)) (by omega) A.2.2.1 Q
  refine ⟨h2, ?_, A.qy y2, Q2, ?_⟩
  · unfold PA
    rw [s122, bd_t s2, if_pos rfl]
    show f_X12_qSums_15 (k2 + 1) (x + 107) v 0 h0 = _
    show b_X12_qSums_15 (f_X12_qSums_15 k2) (x + 107) v 0 h0 = _
    unfold b_X12_qSums_15
    rw [if_pos rfl, e2]
  · rw [hh0] at y2
    exact (qx_s (by unfold QC; omega)).trans y2.x
end Rv
