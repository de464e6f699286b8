/-! THE TEXTS: the reference's parts -/
/-- it ends with this fault at this place -/
def FLQ (x : Nat) (h : aH) (r : Option (Unit × aH)) (k p : Nat) : Prop := ∃ h1, r = some ((), h1) ∧ hI h1 (x + 107) 5 = nI k ∧ hI h1 (x + 107) 6 = nI p ∧ (1 ≤ k ∧ k ≤ 100) ∧ (∃ m, hI h1 (x + 107) 92 = nI m ∧ m ≤ 1601) ∧ QX x h h1
section Rw
variable {h : aH} {x n w o bs k1 k2 : Nat} {tp : Nat → Nat} {σ : tyT} {c W : List Nat} {v : Int32}
theorem fl_92 {k p : Nat} : hI (flH h x k p) (x + 107) 92 = hI h (x + 107) 92 := by unfold flH; rw [hI_sI, if_neg (by omega), hI_sI, if_neg (by omega)]
theorem nI_n0 {k : Nat} (h1 : 1 ≤ k) (h2 : k ≤ 100) : ¬ nI k = (0 : Int32) := fun z => by have := (nI_eq (b := 0) (by omega) (by omega)).mp z; omega
theorem nI_nm {k : Nat} (h2 : k ≤ 5000) : ¬ nI k = (-1 : Int32) := fun z => by
  have e : nI k = -nI 1 := z
  have b : k < 2 ^ 31 := by omega
  exact (m1_qe k b) ▸ e
theorem p_bad {k : Nat} (S : MS h (x + 107)) (bad : hI h (x + 107) 5 = nI k) (h1 : 1 ≤ k) (h2 : k ≤ 100) : f_X12_qPartTold_2 (k1 + 1) (x + 107) 1 h = some ((), h) := by
  show b_X12_qPartTold_2 (f_X12_qPartTold_2 k1) (x + 107) 1 h = _
  unfold b_X12_qPartTold_2
  rw [if_neg (show ¬ (1 : Int32) = 0 by decide), ko_t S.k, bad, if_neg (nI_n0 h1 h2)]
  unfold f_X12_qPartTold_186
  rw [ko_t S.k, bad, if_neg (nI_n0 h1 h2)]
theorem pe_bad {k p : Nat} {h0 : aH} (S : MS h (x + 107)) (bad : hI h (x + 107) 5 = nI k) (at6 : hI h (x + 107) 6 = nI p) (h1 : 1 ≤ k) (h2 : k ≤ 100) (hk1 : 1 ≤ k1) (hk : 1 ≤ k2) {cl : Nat} (c92 : hI h (x + 107) 92 = nI cl) (hcl : cl ≤ 1601) (q : QX x h0 h) : FLQ x h0 (PE k1 k2 x v h) k p := by
  obtain ⟨k1, rfl⟩ : ∃ j, k1 = j + 1 := ⟨k1 - 1, by omega⟩
  refine ⟨sI h (x + 107) 96 v, ?_, ?_, ?_, ⟨h1, h2⟩, ⟨cl, by rw [hI_sI, if_neg (by omega)]; exact c92, hcl⟩, q.trans (qx_s (by unfold QC; omega))⟩
  · unfold PE
    rw [bd_t (p_bad S bad h1 h2)]
    exact fin_T S bad h1 h2 hk
  · rw [hI_sI, if_neg (by omega)]; exact bad
  · rw [hI_sI, if_neg (by omega)]; exact at6
theorem m_asksB {k : Nat} {q : Int32} (S : MS h (x + 107)) (bad : hI h (x + 107) 5 = nI k) (h1 : 1 ≤ k) (h2 : k ≤ 100) : f_X12_asksSign (x + 107) q h = some ((), h) := by
  unfold f_X12_asksSign
  rw [ko_t S.k, bad, if_neg (nI_n0 h1 h2)]
  rfl
theorem btT_t (tb : ∀ j, tp j ≤ 255) {q : Nat} (hq : q ≤ 255) (z : isS tp n σ q = true) : btT tp n σ = nI q := (btT_eq tb hq).mpr z
theorem btT_f (tb : ∀ j, tp j ≤ 255) {q : Nat} (hq : q ≤ 255) (z : isS tp n σ q = false) : ¬ btT tp n σ = nI q := fun y => by rw [(btT_eq tb hq).mp y] at z; cases z
/-- a bracket opens -/
theorem e_br (T : RQ h x tp n w σ c W o bs) (tb : ∀ j, tp j ≤ 255) (hn : n ≤ 1600) (hw : w < 4) (z : isS tp n σ 40 = true) : (o < 6 → ∃ h1, PE (k1 + 1) k2 x v h = PE k1 k2 x v h1 ∧ RQ h1 x tp n w (nS tp n σ) c (20 :: W) (o + 1) bs ∧ QX x h h1) ∧ (o = 6 → 1 ≤ k1 → 1 ≤ k2 → FLQ x h (PE (k1 + 1) k2 x v h) 4 σ.1) := by
  obtain ⟨lk, A, Q⟩ := T.a tb hn
  have S := T.2.1.1
  have bad := T.1.2.2.1
  have sn := T.1.2.1.1
  obtain ⟨-, -, lc, o6, lb⟩ := T
  obtain ⟨h0, hh0⟩ : ∃ h0, h0 = sI h (x + 107) 2 (nI σ.1) := ⟨_, rfl⟩
  have q0 : QX x h h0 := by rw [hh0]; exact qx_s (by unfold QC; omega)
  rw [← hh0] at lk A Q
  have S0 := A.1.1
  have at0 : hI h0 (x + 107) 2 = nI σ.1 := A.2.2.2.1
  have wo := m_wordOf A tb hn Q.2.2.2.2.2.1 hw (lo := 11) (hi := 13) (by omega) (by omega)
  have st : ∀ r, f_X12_qOpens (x + 107) (nI 20) (nI σ.1) h0 = some ((), r) → MS r (x + 107) → hI r (x + 107) 2 = nI σ.1 → f_X12_qPartTold_2 (k1 + 1) (x + 107) 1 h = f_X12_qPartTold_2 k1 (x + 107) 1 (sI r (x + 107) 2 (nI (σ.1 + 1))) := by
    intro r e Sr er
    show b_X12_qPartTold_2 (f_X12_qPartTold_2 k1) (x + 107) 1 h = _
    unfold b_X12_qPartTold_2
    rw [if_neg (show ¬ (1 : Int32) = 0 by decide), ko_t S.k, bad, if_pos (show nI 0 = (0 : Int32) from rfl), bd_t lk, ko_t S0.k, bd_t (show f_X12_qWordOf (x + 107) 11 13 h0 = _ from wo), if_pos (show btT tp n σ = (40 : Int32) from btT_t tb (q := 40) (by omega) z), ko_t S0.k, at0, bd_t (show f_X12_qOpens (x + 107) 20 (nI σ.1) h0 = _ from e), ko_t Sr.k, er, show nI σ.1 + 1 = nI (σ.1 + 1) from nI_k _ _]
    rfl
  obtain ⟨p1, p2⟩ := m_opens (v := 20) (p := σ.1) Q o6 (by omega) (by omega) A.2.2.1
  refine ⟨fun y => ?_, fun y y1 y2 => ?_⟩
  · obtain ⟨h1, e1, Q1, t1⟩ := p2 y
    have A1 := A.qy t1
    refine ⟨sI h1 (x + 107) 2 (nI (σ.1 + 1)), ?_, ⟨A1.sg z, Q1.s (by omega) _, ?_, by omega, ?_⟩, (q0.trans t1.x).trans (qx_s (by unfold QC; omega))⟩
    · unfold PE
      rw [st h1 e1 A1.1.1 A1.2.2.2.1]
    · have ns := (nS_ok z).2
      rw [List.length_cons]; omega
    · rw [List.length_cons]; omega
  · have M1 := A.1.qx (qx_fl (h := h0) (x := x) (k := 4) (p := σ.1))
    have f2 : hI (flH h0 x 4 σ.1) (x + 107) 2 = nI σ.1 := by unfold flH; rw [hI_sI, if_neg (by omega), hI_sI, if_neg (by omega)]; exact at0
    have f5 := fl_5 (h := h0) (x := x) (k := 4) (p := σ.1)
    have e : PE (k1 + 1) k2 x v h = PE k1 k2 x v (sI (flH h0 x 4 σ.1) (x + 107) 2 (nI (σ.1 + 1))) := by
      unfold PE
      rw [st _ (p1 y) M1.1 f2]
    rw [e]
    exact pe_bad (M1.1.of rfl rfl) (by rw [hI_sI, if_neg (by omega)]; exact f5.1) (by rw [hI_sI, if_neg (by omega)]; exact f5.2) (by omega) (by omega) y1 y2 (cl := c.length) (by rw [hI_sI, if_neg (by omega), fl_92]; exact Q.2.1.1) (by omega) ((q0.trans qx_fl).trans (qx_s (by unfold QC; omega)))
/-- min and max: ahead of the bracket -/
theorem e_78 (K : Nat → Int32 → aH → Option (Unit × aH)) (A : RA h x tp n σ) (tb : ∀ j, tp j ≤ 255) (hn : n ≤ 1600) {i : Nat} (hi : i = 23 ∨ i = 24) (z : isW tp n σ i = true) : f_X12_qPartTold_78 K (x + 107) 1 h = f_X12_qPartTold_101 K (x + 107) 1 (nI (24 - i)) (tkH h x (rn isL tp n σ.1)) := by
  have S := A.1.1
  have r76 : hR h (x + 107) 76 = some (x + 107 + 39 + 10) := (S.aw 10 (by omega)).1
  have r77 : hR h (x + 107) 77 = some (x + 107 + 39 + 11) := (S.aw 11 (by omega)).1
  have k10 := (S.aw 10 (by omega)).2
  have k11 := (S.aw 11 (by omega)).2
  have i10 := m_hereA A tb hn (i := 10) (by omega)
  have i11 := m_hereA A tb hn (i := 11) (by omega)
  have tk := m_takes A hn k10 (by decide) i10
  unfold f_X12_qPartTold_78
  rw [ko_t S.k, kr_t r76]
  rcases hi with rfl | rfl
  · rw [bd_t (tk.1 z), if_neg (show ¬ nI 1 = (0 : Int32) by decide)]
  · have n23 : isW tp n σ 23 = false := by
      cases y : isW tp n σ 23 with
      | false => rfl
      | true => exact absurd (isW_inj (by omega) (by omega) y z) (by omega)
    rw [bd_t (tk.2 n23), if_pos (show nI 0 = (0 : Int32) from rfl), ko_t S.k, kr_t r77, bd_t (m_asks1 A hn k11 (by decide) i11 z)]
theorem e_pair (T : RQ h x tp n w σ c W o bs) (tb : ∀ j, tp j ≤ 255) (hn : n ≤ 1600) (hw : w < 4) {i : Nat} (hi : i = 23 ∨ i = 24) (z : isW tp n σ i = true) (hk1 : 1 ≤ k1) (hk2 : 1 ≤ k2) : (isS tp n (nW tp n σ) 40 = true → o < 6 → ∃ h1, PE (k1 + 1) k2 x v h = PE k1 k2 x v h1 ∧ RQ h1 x tp n w (nS tp n (nW tp n σ)) c ((i - 2) :: W) (o + 1) bs ∧ QX x h h1) ∧ (isS tp n (nW tp n σ) 40 = true → o = 6 → FLQ x h (PE (k1 + 1) k2 x v h) 4 (nW tp n σ).1) ∧ (isS tp n (nW tp n σ) 40 = false → FLQ x h (PE (k1 + 1) k2 x v h) 1 (nW tp n σ).1) := by
  obtain ⟨lk, A, Q⟩ := T.a tb hn
  have S := T.2.1.1
  have bad := T.1.2.2.1
  have sn := T.1.2.1.1
  obtain ⟨-, -, lc, o6, lb⟩ := T
  obtain ⟨h0, hh0⟩ : ∃ h0, h0 = sI h (x + 107) 2 (nI σ.1) := ⟨_, rfl⟩
  have q0 : QX x h h0 := by rw [hh0]; exact qx_s (by unfold QC; omega)
  rw [← hh0] at lk A Q
  have S0 := A.1.1
  have wo := m_wordOf A tb hn Q.2.2.2.2.2.1 hw (lo := 11) (hi := 13) (by omega) (by omega)
  have n40 : isS tp n σ 40 = false := isWS (by decide) z
  obtain ⟨h1, hh1⟩ : ∃ h1, h1 = tkH h0 x (rn isL tp n σ.1) := ⟨_, rfl⟩
  have T1 : RT h1 x tp n (nW tp n σ) := by rw [hh1]; exact A.w z
  have q1 : QX x h0 h1 := by rw [hh1]; exact qx_tk
  have Q1 : QQ h1 x w c W o bs := by rw [hh1]; exact (Q.s (by omega) _).s (by omega) _
  have S1 := T1.1.1
  have nw := (nW_ok z).2
  have st : f_X12_qPartTold_2 (k1 + 1) (x + 107) 1 h = f_X12_qPartTold_101 (f_X12_qPartTold_2 k1) (x + 107) 1 (nI (24 - i)) h1 := by
    have r76 : hR h0 (x + 107) 76 = some (x + 107 + 39 + 10) := (S0.aw 10 (by omega)).1
    have r77 : hR h0 (x + 107) 77 = some (x + 107 + 39 + 11) := (S0.aw 11 (by omega)).1
    have i10 := m_hereA A tb hn (i := 10) (by omega)
    have i11 := m_hereA A tb hn (i := 11) (by omega)
    have e78 := e_78 (f_X12_qPartTold_2 k1) A tb hn hi z
    rw [← hh1] at e78
    rw [← e78]
    show b_X12_qPartTold_2 (f_X12_qPartTold_2 k1) (x + 107) 1 h = _
    unfold b_X12_qPartTold_2
    rw [if_neg (show ¬ (1 : Int32) = 0 by decide), ko_t S.k, bad, if_pos (show nI 0 = (0 : Int32) from rfl), bd_t lk, ko_t S0.k, bd_t (show f_X12_qWordOf (x + 107) 11 13 h0 = _ from wo), if_neg (show ¬ btT tp n σ = (40 : Int32) from btT_f tb (q := 40) (by omega) n40), ko_t S0.k, kr_t r76, bd_t i10]
    rcases hi with rfl | rfl
    · rw [show isW tp n σ (askW 10) = true from z, b2i_t, if_neg (show ¬ nI 1 = (0 : Int32) by decide)]
    · have n23 : isW tp n σ 23 = false := by
        cases y : isW tp n σ 23 with
        | false => rfl
        | true => exact absurd (isW_inj (by omega) (by omega) y z) (by omega)
      rw [show isW tp n σ (askW 10) = false from n23, b2i_f, if_pos (show nI 0 = (0 : Int32) from rfl), ko_t S0.k, kr_t r77, bd_t i11, show isW tp n σ (askW 11) = true from z, b2i_t, if_neg (show ¬ nI 1 = (0 : Int32) by decide)]
  obtain ⟨lk1, A2⟩ := m_look T1 tb hn
  have Q2 : QQ (sI h1 (x + 107) 2 (nI (nW tp n σ).1)) x w c W o bs := Q1.s (by omega) _
  obtain ⟨h2, hh2⟩ : ∃ h2, h2 = sI h1 (x + 107) 2 (nI (nW tp n σ).1) := ⟨_, rfl⟩
  rw [← hh2] at lk1 A2 Q2
  have q2 : QX x h h2 := by rw [hh2]; exact (q0.trans q1).trans (qx_s (by unfold QC; omega))
  have S2 := A2.1.1
  have at2 : hI h2 (x + 107) 2 = nI (nW tp n σ).1 := A2.2.2.2.1
  have sn2 := A2.2.1.1
  have st2 : isS tp n (nW tp n σ) 40 = true → f_X12_qPartTold_2 (k1 + 1) (x + 107) 1 h = f_X12_qPartTold_139 (f_X12_qPartTold_2 k1) (x + 107) 1 (nI (nW tp n σ).1) (x + 107) (nI (i - 2)) h2 := by
    intro y
    rw [st]
    unfold f_X12_qPartTold_101
    rw [ko_t S1.k, bd_t lk1, if_pos (show btT tp n (nW tp n σ) = (40 : Int32) from btT_t tb (q := 40) (by omega) y), ko_t S2.k, at2]
    unfold f_X12_qPartTold_118
    rw [if_neg (nI_nm (by omega))]
    rcases hi with rfl | rfl
    · rw [if_neg (show ¬ nI (24 - 23) = (0 : Int32) by decide)]
      rfl
    · rw [if_pos (show nI (24 - 24) = (0 : Int32) from rfl)]
      rfl
  obtain ⟨p1, p2⟩ := m_opens (v := i - 2) (p := (nW tp n σ).1) Q2 o6 (by omega) (by omega) A2.2.2.1
  refine ⟨fun y y1 => ?_, fun y y1 => ?_, fun y => ?_⟩
  · obtain ⟨h3, e3, Q3, t3⟩ := p2 y1
    have A3 := A2.qy t3
    have S3 := A3.1.1
    refine ⟨sI h3 (x + 107) 2 (nI ((nW tp n σ).1 + 1)), ?_, ⟨A3.sg y, Q3.s (by omega) _, ?_, by omega, ?_⟩, (q2.trans t3.x).trans (qx_s (by unfold QC; omega))⟩
    · unfold PE
      rw [st2 y]
      unfold f_X12_qPartTold_139
      rw [ko_t S2.k, bd_t e3]
      unfold f_X12_qPartTold_144
      rw [ko_t S3.k, bd_t (show f_X12_asksSign (x + 107) 40 h3 = _ from (m_asksS A3 tb hn (q := 40) (by omega)).1 y)]
      rfl
    · have ns := (nS_ok y).2
      rw [List.length_cons]; omega
    · rw [List.length_cons]; omega
  · have M3 := A2.1.qx (qx_fl (h := h2) (x := x) (k := 4) (p := (nW tp n σ).1))
    have f5 := fl_5 (h := h2) (x := x) (k := 4) (p := (nW tp n σ).1)
    have e : PE (k1 + 1) k2 x v h = PE k1 k2 x v (flH h2 x 4 (nW tp n σ).1) := by
      unfold PE
      rw [st2 y]
      unfold f_X12_qPartTold_139
      rw [ko_t S2.k, bd_t (p1 y1)]
      unfold f_X12_qPartTold_144
      rw [ko_t M3.1.k, bd_t (m_asksB M3.1 f5.1 (by omega) (by omega))]
      rfl
    rw [e]
    exact pe_bad M3.1 f5.1 f5.2 (by omega) (by omega) hk1 hk2 (cl := c.length) (by rw [fl_92]; exact Q2.2.1.1) (by omega) (q2.trans qx_fl)
  · have M3 := A2.1.qx (qx_fl (h := h2) (x := x) (k := 1) (p := (nW tp n σ).1))
    have f5 := fl_5 (h := h2) (x := x) (k := 1) (p := (nW tp n σ).1)
    have e : PE (k1 + 1) k2 x v h = PE k1 k2 x v (flH h2 x 1 (nW tp n σ).1) := by
      unfold PE
      rw [st]
      unfold f_X12_qPartTold_101
      rw [ko_t S1.k, bd_t lk1, if_neg (show ¬ btT tp n (nW tp n σ) = (40 : Int32) from btT_f tb (q := 40) (by omega) y)]
      unfold f_X12_qPartTold_118
      rw [if_pos rfl]
      unfold f_X12_qPartTold_144
      rw [ko_t S2.k, bd_t (show f_X12_asksSign (x + 107) 40 h2 = _ from (m_asksS A2 tb hn (q := 40) (by omega)).2 y)]
      rfl
    rw [e]
    exact pe_bad M3.1 f5.1 f5.2 (by omega) (by omega) hk1 hk2 (cl := c.length) (by rw [fl_92]; exact Q2.2.1.1) (by omega) (q2.trans qx_fl)
end Rw
