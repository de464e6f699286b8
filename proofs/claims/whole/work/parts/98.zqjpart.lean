/-! THE TEXTS: the reference's parts: words and numbers -/
section Rx
variable {h : aH} {x n w o bs k1 k2 : Nat} {tp : Nat → Nat} {σ : tyT} {c W : List Nat} {v : Int32}
theorem m_asksWB {k j : Nat} (S : MS h (x + 107)) (bad : hI h (x + 107) 5 = nI k) (h1 : 1 ≤ k) (h2 : k ≤ 100) (hj : j = 11 ∨ j = 12) : f_X12_qAsksWord (x + 107) (nI j) h = some ((), h) := by
  have as : ∀ A, f_X12_asks (x + 107) A h = some ((), h) := by
    intro A
    unfold f_X12_asks
    rw [ko_t S.k, bad, if_neg (nI_n0 h1 h2)]
    rfl
  rcases hj with rfl | rfl
  · simp (disch := omega) only [nm, bd_s, ko_K, ka_K, koK_t, kaK_t, kr_s, kn_s, kn_n, hK_sI, hR_sI, hK_sL, hR_sL, hI_sL, hL_sI, hL_sL, hI_sI, hN_sI, hN_sL, ch_G, ch_T, nb_0, nb_1, zb_G, d_T, d_F, d_eT, d_eF, b2i_t, b2i_f, tn_nI, fa_lit, fa_litL, m1_e, nI_add, pk_mul, pk_sub, nI_leI, nI_ltI, nI_eq, le_T, le_F, lt_T, lt_F, eq_T, eq_F, if_pos, if_neg, m1_le, m1_lt', m1_gt, m1_le', m1_eq, m1_qe, b2i_eq0, in_N, in_n, in_I, ↓reduceIte, Bool.true_eq_false, Bool.false_eq_true, reduceCtorEq, decide_eq_true_eq, decide_eq_false_iff_not, Nat.not_lt, Nat.not_le, not_true_eq_false, not_false_eq_true, true_and, and_true, and_self, false_and, and_false, true_or, or_true, false_or, or_false, f_X12_qAsksWord_204, f_X12_qAsksWord_196, f_X12_qAsksWord, S.k, S.r89, as]
  · simp (disch := omega) only [nm, bd_s, ko_K, ka_K, koK_t, kaK_t, kr_s, kn_s, kn_n, hK_sI, hR_sI, hK_sL, hR_sL, hI_sL, hL_sI, hL_sL, hI_sI, hN_sI, hN_sL, ch_G, ch_T, nb_0, nb_1, zb_G, d_T, d_F, d_eT, d_eF, b2i_t, b2i_f, tn_nI, fa_lit, fa_litL, m1_e, nI_add, pk_mul, pk_sub, nI_leI, nI_ltI, nI_eq, le_T, le_F, lt_T, lt_F, eq_T, eq_F, if_pos, if_neg, m1_le, m1_lt', m1_gt, m1_le', m1_eq, m1_qe, b2i_eq0, in_N, in_n, in_I, ↓reduceIte, Bool.true_eq_false, Bool.false_eq_true, reduceCtorEq, decide_eq_true_eq, decide_eq_false_iff_not, Nat.not_lt, Nat.not_le, not_true_eq_false, not_false_eq_true, true_and, and_true, and_self, false_and, and_false, true_or, or_true, false_or, or_false, f_X12_qAsksWord_204, f_X12_qAsksWord_196, f_X12_qAsksWord, S.k, S.r90, as]
/-- neither a bracket nor min nor max -/
theorem e_rest (T : RQ h x tp n w σ c W o bs) (tb : ∀ j, tp j ≤ 255) (hn : n ≤ 1600) (hw : w < 4) (n40 : isS tp n σ 40 = false) (n23 : isW tp n σ 23 = false) (n24 : isW tp n σ 24 = false) : f_X12_qPartTold_2 (k1 + 1) (x + 107) 1 h = if opI (wB2 tp n w σ 11 13) = (-1 : Int32) then f_X12_qPartTold_2 k1 (x + 107) 0 (sI h (x + 107) 2 (nI σ.1)) else bd (f_X12_qOpens (x + 107) ((60 + opI (wB2 tp n w σ 11 13)) - 11) (nI σ.1) (sI h (x + 107) 2 (nI σ.1))) fun _ h80 => ko h80 (x + 107) 11 <| bd (f_X12_qAsksWord (x + 107) (opI (wB2 tp n w σ 11 13)) h80) fun _ h83 => f_X12_qPartTold_2 k1 (x + 107) 1 h83 := by
  obtain ⟨lk, A, Q⟩ := T.a tb hn
  have S := T.2.1.1
  have bad := T.1.2.2.1
  obtain ⟨h0, hh0⟩ : ∃ h0, h0 = sI h (x + 107) 2 (nI σ.1) := ⟨_, rfl⟩
  rw [← hh0] at lk A Q ⊢
  have S0 := A.1.1
  have at0 : hI h0 (x + 107) 2 = nI σ.1 := A.2.2.2.1
  have wo := m_wordOf A tb hn Q.2.2.2.2.2.1 hw (lo := 11) (hi := 13) (by omega) (by omega)
  have r76 : hR h0 (x + 107) 76 = some (x + 107 + 39 + 10) := (S0.aw 10 (by omega)).1
  have r77 : hR h0 (x + 107) 77 = some (x + 107 + 39 + 11) := (S0.aw 11 (by omega)).1
  have i10 := m_hereA A tb hn (i := 10) (by omega)
  have i11 := m_hereA A tb hn (i := 11) (by omega)
  rw [show isW tp n σ (askW 10) = false from n23, b2i_f] at i10
  rw [show isW tp n σ (askW 11) = false from n24, b2i_f] at i11
  show b_X12_qPartTold_2 (f_X12_qPartTold_2 k1) (x + 107) 1 h = _
  unfold b_X12_qPartTold_2
  rw [if_neg (show ¬ (1 : Int32) = 0 by decide), ko_t S.k, bad, if_pos (show nI 0 = (0 : Int32) from rfl), bd_t lk, ko_t S0.k, bd_t (show f_X12_qWordOf (x + 107) 11 13 h0 = _ from wo), if_neg (show ¬ btT tp n σ = (40 : Int32) from btT_f tb (q := 40) (by omega) n40), ko_t S0.k, kr_t r76, bd_t i10, if_pos (show nI 0 = (0 : Int32) from rfl), ko_t S0.k, kr_t r77, bd_t i11, if_pos (show nI 0 = (0 : Int32) from rfl), ko_t S0.k, at0]
  rfl
theorem wB2_t {lo hi j : Nat} (e : wB2 tp n w σ lo hi = some j) : wJ tp n σ = some j ∧ lo ≤ j ∧ j < hi ∧ alW w j = true := by
  unfold wB2 at e
  cases q : wJ tp n σ with
  | none => rw [q] at e; cases e
  | some i =>
    rw [q] at e
    by_cases z : lo ≤ i ∧ i < hi ∧ alW w i = true
    · have e : (if lo ≤ i ∧ i < hi ∧ alW w i = true then some i else none) = some j := e
      rw [if_pos z] at e
      cases e
      exact ⟨rfl, z⟩
    · have e : (if lo ≤ i ∧ i < hi ∧ alW w i = true then some i else none) = some j := e
      rw [if_neg z] at e
      cases e
/-- a word that speaks of a part -/
theorem e_of (T : RQ h x tp n w σ c W o bs) (tb : ∀ j, tp j ≤ 255) (hn : n ≤ 1600) (hw : w < 4) {j : Nat} (z : wB2 tp n w σ 11 13 = some j) (n23 : isW tp n σ 23 = false) (n24 : isW tp n σ 24 = false) : (o < 6 → ∃ h1, PE (k1 + 1) k2 x v h = PE k1 k2 x v h1 ∧ RQ h1 x tp n w (nW tp n σ) c ((60 + (j - 11)) :: W) (o + 1) bs ∧ QX x h h1) ∧ (o = 6 → 1 ≤ k1 → 1 ≤ k2 → FLQ x h (PE (k1 + 1) k2 x v h) 4 σ.1) := by
  obtain ⟨wj, j1, j2, al⟩ := wB2_t z
  obtain ⟨j13, iw⟩ := wJ_t wj
  have n40 : isS tp n σ 40 = false := isWS (by decide) iw
  have st := e_rest (k1 := k1) T tb hn hw n40 n23 n24
  obtain ⟨lk, A, Q⟩ := T.a tb hn
  have sn := T.1.2.1.1
  obtain ⟨-, -, lc, o6, lb⟩ := T
  obtain ⟨h0, hh0⟩ : ∃ h0, h0 = sI h (x + 107) 2 (nI σ.1) := ⟨_, rfl⟩
  have q0 : QX x h h0 := by rw [hh0]; exact qx_s (by unfold QC; omega)
  rw [← hh0] at lk A Q st
  rw [z, if_neg (show ¬ opI (some j) = (-1 : Int32) from nI_nm (by omega)), show ((60 + opI (some j)) - 11 : Int32) = nI (60 + (j - 11)) by
    show nI 60 + nI j - nI 11 = _
    rw [nI_add, pk_sub (by omega)]
    congr 1; omega] at st
  have nw := (nW_ok iw).2
  obtain ⟨p1, p2⟩ := m_opens (v := 60 + (j - 11)) (p := σ.1) Q o6 (by omega) (by omega) A.2.2.1
  refine ⟨fun y => ?_, fun y y1 y2 => ?_⟩
  · obtain ⟨h1, e1, Q1, t1⟩ := p2 y
    have A1 := A.qy t1
    refine ⟨tkH h1 x (rn isL tp n σ.1), ?_, ⟨A1.w iw, (Q1.s (by omega) _).s (by omega) _, ?_, by omega, ?_⟩, (q0.trans t1.x).trans qx_tk⟩
    · unfold PE
      rw [st, bd_t e1, ko_t A1.1.1.k, bd_t (show f_X12_qAsksWord (x + 107) (opI (some j)) h1 = _ from m_asksW A1 tb hn j13 iw)]
    · rw [List.length_cons]; omega
    · rw [List.length_cons]; omega
  · have M1 := A.1.qx (qx_fl (h := h0) (x := x) (k := 4) (p := σ.1))
    have f5 := fl_5 (h := h0) (x := x) (k := 4) (p := σ.1)
    have e : PE (k1 + 1) k2 x v h = PE k1 k2 x v (flH h0 x 4 σ.1) := by
      unfold PE
      rw [st, bd_t (p1 y), ko_t M1.1.k, bd_t (show f_X12_qAsksWord (x + 107) (opI (some j)) (flH h0 x 4 σ.1) = _ from m_asksWB M1.1 f5.1 (by omega) (by omega) (by omega))]
    rw [e]
    exact pe_bad M1.1 f5.1 f5.2 (by omega) (by omega) y1 y2 (cl := c.length) (by rw [fl_92]; exact Q.2.1.1) (by omega) (q0.trans qx_fl)
/-- a part is told, and those that waited for it -/
theorem e_237 {g : aH} {m : Nat} (T : RT g x tp n σ) {F R2 : List Nat} (Q : QQ g x w c (F ++ R2) o bs) (hF : ∀ u ∈ F, 60 ≤ u) (hR2 : R2.length = bs ∨ bs < R2.length ∧ ∃ u R', R2 = u :: R' ∧ u < 60) (ho : F.length ≤ o) (o6 : o ≤ 6) (lc : c.length + (F ++ R2).length ≤ 1600) : ∃ g1, f_X12_qPartTold_237 (x + 107) (x + 107) (nI m) g = some ((), g1) ∧ RT g1 x tp n σ ∧ QQ g1 x w (c ++ [m] ++ F) R2 (o - F.length) bs ∧ QY x g g1 := by
  rw [List.length_append] at lc
  obtain ⟨g0, a1, a2, a3⟩ := m_code Q (by omega) (v := m)
  have T0 := T.qy a3
  obtain ⟨g1, b1, b2, b3⟩ := m_ends F R2 (c ++ [m]) FU o g0 hF hR2 (FU_gt (by omega)) ho o6 (by rw [List.length_append, List.length_singleton]; omega) T0.2.2.1 a2
  refine ⟨g1, ?_, T0.qy b3, b2, a3.trans b3⟩
  unfold f_X12_qPartTold_237
  rw [ko_t T.1.1.k, bd_t a1, ko_t T0.1.1.k, bd_t (show f_X12_qEndsPart (x + 107) g0 = _ from b1)]
/-- the same with a fault: nothing more is told -/
theorem e_237b {g : aH} {m k : Nat} (M : MX g x tp n) (bad : hI g (x + 107) 5 = nI k) (h1 : 1 ≤ k) (h2 : k ≤ 100) (Q : QQ g x w c W o bs) (lc : c.length < 1650) : ∃ g1, f_X12_qPartTold_237 (x + 107) (x + 107) (nI m) g = some ((), g1) ∧ hI g1 (x + 107) 92 = nI (c.length + 1) ∧ QY x g g1 := by
  obtain ⟨g0, a1, a2, a3⟩ := m_code Q lc (v := m)
  have M0 := M.qx a3.x
  have bad0 : hI g0 (x + 107) 5 = nI k := by rw [a3.2.2.2.2.2 _ _ (by unfold QD; omega)]; exact bad
  have c92 : hI g0 (x + 107) 92 = nI (c ++ [m]).length := a2.2.1.1
  rw [List.length_append, List.length_singleton] at c92
  refine ⟨g0, ?_, c92, a3⟩
  have e : f_X12_qEndsPart (x + 107) g0 = some ((), g0) := by
    obtain ⟨fn, hfn⟩ : ∃ m, FU = m + 1 := ⟨9999, rfl⟩
    unfold f_X12_qEndsPart
    rw [hfn]
    show b_X12_qEndsPart_0 (f_X12_qEndsPart_0 fn) (x + 107) g0 = _
    unfold b_X12_qEndsPart_0
    rw [ko_t M0.1.k, bad0, if_neg (nI_n0 h1 h2)]
    rfl
  unfold f_X12_qPartTold_237
  rw [ko_t M.1.k, bd_t a1, ko_t M0.1.k, bd_t e]
theorem e_186 (T : RQ h x tp n w σ c W o bs) (tb : ∀ j, tp j ≤ 255) (hn : n ≤ 1600) (hw : w < 4) (n40 : isS tp n σ 40 = false) (n23 : isW tp n σ 23 = false) (n24 : isW tp n σ 24 = false) (z : wB2 tp n w σ 11 13 = none) : f_X12_qPartTold_2 (k1 + 2) (x + 107) 1 h = f_X12_qPartTold_186 (x + 107) (sI h (x + 107) 2 (nI σ.1)) := by
  have st := e_rest (k1 := k1 + 1) T tb hn hw n40 n23 n24
  rw [z, if_pos (show opI none = (-1 : Int32) from rfl)] at st
  rw [st]
  show b_X12_qPartTold_2 (f_X12_qPartTold_2 k1) (x + 107) 0 _ = _
  unfold b_X12_qPartTold_2
  rw [if_pos rfl]
/-- a word of a formula -/
theorem e_word (T : RQ h x tp n w σ c W o bs) (tb : ∀ j, tp j ≤ 255) (hn : n ≤ 1600) (hw : w < 4) {j : Nat} (z : wB2 tp n w σ 0 11 = some j) (n23 : isW tp n σ 23 = false) (n24 : isW tp n σ 24 = false) {F R2 : List Nat} (hW : W = F ++ R2) (hF : ∀ u ∈ F, 60 ≤ u) (hR2 : R2.length = bs ∨ bs < R2.length ∧ ∃ u R', R2 = u :: R' ∧ u < 60) (ho : F.length ≤ o) : ∃ h1, PE (k1 + 2) k2 x v h = PA FU k2 x v h1 ∧ RQ h1 x tp n w (nW tp n σ) (c ++ [40 + j] ++ F) R2 (o - F.length) bs ∧ QX x h h1 := by
  obtain ⟨wj, j1, j2, al⟩ := wB2_t z
  obtain ⟨j13, iw⟩ := wJ_t wj
  have n40 : isS tp n σ 40 = false := isWS (by decide) iw
  have z2 : wB2 tp n w σ 11 13 = none := by
    unfold wB2
    rw [wj]
    show (if 11 ≤ j ∧ j < 13 ∧ alW w j = true then some j else none) = none
    rw [if_neg (by omega)]
  have st := e_186 (k1 := k1) T tb hn hw n40 n23 n24 z2
  obtain ⟨lk, A, Q⟩ := T.a tb hn
  have sn := T.1.2.1.1
  obtain ⟨-, -, lc, o6, lb⟩ := T
  obtain ⟨h0, hh0⟩ : ∃ h0, h0 = sI h (x + 107) 2 (nI σ.1) := ⟨_, rfl⟩
  have q0 : QX x h h0 := by rw [hh0]; exact qx_s (by unfold QC; omega)
  rw [← hh0] at lk A Q st
  subst hW
  have wo := m_wordOf A tb hn Q.2.2.2.2.2.1 hw (lo := 0) (hi := 11) (by omega) (by omega)
  rw [z] at wo
  have T1 := A.w iw
  have Q1 : QQ (tkH h0 x (rn isL tp n σ.1)) x w c (F ++ R2) o bs := (Q.s (by omega) _).s (by omega) _
  obtain ⟨g1, e1, T2, Q2, y2⟩ := e_237 (m := 40 + j) T1 Q1 hF hR2 ho o6 (by omega)
  have nw := (nW_ok iw).2
  have e : f_X12_qPartTold_2 (k1 + 2) (x + 107) 1 h = some ((), g1) := by
    rw [st]
    unfold f_X12_qPartTold_186
    rw [ko_t A.1.1.k, A.2.2.1, if_pos (show nI 0 = (0 : Int32) from rfl), bd_t (show f_X12_qWordOf (x + 107) 0 11 h0 = _ from wo), if_neg (show ¬ opI (some j) = (-1 : Int32) from nI_nm (by omega)), ko_t A.1.1.k, bd_t (show f_X12_qAsksWord (x + 107) (opI (some j)) h0 = _ from m_asksW A tb hn j13 iw)]
    unfold f_X12_qPartTold_212
    rw [if_neg (show ¬ opI (some j) = (-1 : Int32) from nI_nm (by omega)), show (40 + opI (some j) : Int32) = nI (40 + j) from nI_add 40 j]
    exact e1
  refine ⟨g1, ?_, ⟨T2, Q2, ?_, by omega, ?_⟩, (q0.trans qx_tk).trans y2.x⟩
  · unfold PE
    rw [bd_t e]
    exact go_T T2.1.1 T2.2.2.1
  · rw [List.length_append] at lc
    rw [List.length_append, List.length_append, List.length_singleton]; omega
  · rcases hR2 with y | ⟨y, -⟩ <;> omega
/-- a number, or what is none -/
theorem e_num (T : RQ h x tp n w σ c W o bs) (tb : ∀ j, tp j ≤ 255) (hn : n ≤ 1600) (hw : w < 4) (n40 : isS tp n σ 40 = false) (n23 : isW tp n σ 23 = false) (n24 : isW tp n σ 24 = false) (z : wB2 tp n w σ 11 13 = none) (z2 : wB2 tp n w σ 0 11 = none) (hk2 : 1 ≤ k2) : (isN tp n σ = true → rn isD tp n σ.1 - σ.1 ≤ 4 → ∀ F R2, W = F ++ R2 → (∀ u ∈ F, 60 ≤ u) → (R2.length = bs ∨ bs < R2.length ∧ ∃ u R', R2 = u :: R' ∧ u < 60) → F.length ≤ o → ∃ h1, PE (k1 + 2) k2 x v h = PA FU k2 x v h1 ∧ RQ h1 x tp n w (nD tp n σ) (c ++ [1000 + nv tp n σ] ++ F) R2 (o - F.length) bs ∧ QX x h h1) ∧ (isN tp n σ = true → ¬ rn isD tp n σ.1 - σ.1 ≤ 4 → FLQ x h (PE (k1 + 2) k2 x v h) 1 (σ.1 + 4)) ∧ (isN tp n σ = false → FLQ x h (PE (k1 + 2) k2 x v h) 1 σ.1) := by
  have st := e_186 (k1 := k1) T tb hn hw n40 n23 n24 z
  obtain ⟨lk, A, Q⟩ := T.a tb hn
  have sn := T.1.2.1.1
  obtain ⟨-, -, lc, o6, lb⟩ := T
  obtain ⟨h0, hh0⟩ : ∃ h0, h0 = sI h (x + 107) 2 (nI σ.1) := ⟨_, rfl⟩
  have q0 : QX x h h0 := by rw [hh0]; exact qx_s (by unfold QC; omega)
  rw [← hh0] at lk A Q st
  have wo := m_wordOf A tb hn Q.2.2.2.2.2.1 hw (lo := 0) (hi := 11) (by omega) (by omega)
  rw [z2] at wo
  have vl := nv_le (tp := tp) (n := n) (σ := σ)
  have st2 : ∀ m g, f_X12_number (x + 107) (nI 0) (nI 9999) h0 = some (nI m, g) → f_X12_qPartTold_2 (k1 + 2) (x + 107) 1 h = f_X12_qPartTold_237 (x + 107) (x + 107) (nI (1000 + m)) g := by
    intro m g e
    rw [st]
    unfold f_X12_qPartTold_186
    rw [ko_t A.1.1.k, A.2.2.1, if_pos (show nI 0 = (0 : Int32) from rfl), bd_t (show f_X12_qWordOf (x + 107) 0 11 h0 = _ from wo), if_pos (show opI none = (-1 : Int32) from rfl)]
    unfold f_X12_qPartTold_212
    rw [if_pos (show opI none = (-1 : Int32) from rfl), ko_t A.1.1.k, bd_t (show f_X12_number (x + 107) 0 9999 h0 = _ from e), show (1000 + nI m : Int32) = nI (1000 + m) from nI_add 1000 m]
  rcases m_num A tb hn (lo := 0) (hi := 9999) (by omega) (by omega) with ⟨a1, a2, a3, a4, e⟩ | ⟨k, p, m, g, e, m9, b5, b6, qg, ng, cs⟩
  · refine ⟨fun _ _ F R2 hW hF hR2 ho => ?_, fun _ y => absurd a2 y, fun y => by rw [a1] at y; cases y⟩
    subst hW
    have T1 := A.nd a1
    have Q1 : QQ (nuH h0 x (rn isD tp n σ.1) σ.1) x w c (F ++ R2) o bs := ((Q.s (by omega) _).s (by omega) _).s (by omega) _
    obtain ⟨g1, e1, T2, Q2, y2⟩ := e_237 (m := 1000 + nv tp n σ) T1 Q1 hF hR2 ho o6 (by omega)
    have nd := (nD_ok a1).2
    refine ⟨g1, ?_, ⟨T2, Q2, ?_, by omega, ?_⟩, (q0.trans qx_nu).trans y2.x⟩
    · unfold PE
      rw [st2 _ _ e, bd_t e1]
      exact go_T T2.1.1 T2.2.2.1
    · rw [List.length_append] at lc
      rw [List.length_append, List.length_append, List.length_singleton]; omega
    · rcases hR2 with y | ⟨y, -⟩ <;> omega
  · have fin : 1 ≤ k → k ≤ 100 → QQ g x w c W o bs → FLQ x h (PE (k1 + 2) k2 x v h) k p := by
      intro k1' k2' Qg
      have Mg := A.1.qx qg
      obtain ⟨g1, e1, c92, y1⟩ := e_237b (m := 1000 + m) Mg b5 k1' k2' Qg (by omega)
      have c5 : hI g1 (x + 107) 5 = nI k := by rw [y1.2.2.2.2.2 _ _ (by unfold QD; omega)]; exact b5
      have c6 : hI g1 (x + 107) 6 = nI p := by rw [y1.2.2.2.2.2 _ _ (by unfold QD; omega)]; exact b6
      refine ⟨sI g1 (x + 107) 96 v, ?_, by rw [hI_sI, if_neg (by omega)]; exact c5, by rw [hI_sI, if_neg (by omega)]; exact c6, ⟨k1', k2'⟩, ⟨c.length + 1, by rw [hI_sI, if_neg (by omega)]; exact c92, by omega⟩, ((q0.trans qg).trans y1.x).trans (qx_s (by unfold QC; omega))⟩
      unfold PE
      rw [st2 _ _ e, bd_t e1]
      exact fin_T (Mg.qx y1.x).1 c5 k1' k2' hk2
    have Qg : QQ g x w c W o bs := Q.fr qg.1 qg.2.1 (fun b j y => ng b j (by omega))
    rcases cs with ⟨c1, c2, c3, -, -⟩ | ⟨c1, c2, rfl, rfl⟩ | ⟨c1, rfl, rfl⟩
    · exact absurd ⟨Nat.zero_le _, vl⟩ c3
    · exact ⟨fun _ y => absurd y c2, fun _ _ => fin (by omega) (by omega) Qg, fun y => by rw [c1] at y; cases y⟩
    · have nn : ¬ isN tp n σ = true := by rw [c1]; exact Bool.false_ne_true
      exact ⟨fun y => absurd y nn, fun y => absurd y nn, fun _ => fin (by omega) (by omega) Qg⟩
end Rx
