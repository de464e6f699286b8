/-! THE TEXTS: what waits, what is coded, in the reference -/
def CDm (h : aH) (x : Nat) (c : List Nat) : Prop := hI h (x + 107) 92 = nI c.length ∧ ∀ i, i < c.length → hI h (x + 107 + 64) i = nI (c.getD i 0)
def SKm (h : aH) (x : Nat) (W : List Nat) : Prop := hI h (x + 107) 94 = nI W.length ∧ ∀ i, i < W.length → hI h (x + 107 + 65) i = nI (W.getD (W.length - 1 - i) 0)
/-- codes, what waits (the latest first), how many are open, where the sum at hand begins, the formula's kind -/
def QQ (h : aH) (x w : Nat) (c W : List Nat) (o bs : Nat) : Prop := MS h (x + 107) ∧ CDm h x c ∧ SKm h x W ∧ hI h (x + 107) 95 = nI o ∧ hI h (x + 107) 96 = nI bs ∧ hI h (x + 107) 46 = nI w ∧ c.length ≤ 1650 ∧ W.length ≤ 1650 ∧ bs ≤ 1650 ∧ ∀ v ∈ W, v ≤ 100
def QD (x b j : Nat) : Prop := b = x + 107 ∧ (j = 92 ∨ j = 94 ∨ j = 95 ∨ j = 96) ∨ b = x + 107 + 64 ∨ b = x + 107 + 65
/-- only codes and what waits have changed -/
def QY (x : Nat) (h h1 : aH) : Prop := hK h1 = hK h ∧ hR h1 = hR h ∧ hL h1 = hL h ∧ hN h1 = hN h ∧ hS h1 = hS h ∧ ∀ b j, ¬ QD x b j → hI h1 b j = hI h b j
theorem QY.refl {x : Nat} {h : aH} : QY x h h := ⟨rfl, rfl, rfl, rfl, rfl, fun _ _ _ => rfl⟩
theorem QY.trans {x : Nat} {h h1 h2 : aH} (p : QY x h h1) (q : QY x h1 h2) : QY x h h2 := ⟨q.1.trans p.1, q.2.1.trans p.2.1, q.2.2.1.trans p.2.2.1, q.2.2.2.1.trans p.2.2.2.1, q.2.2.2.2.1.trans p.2.2.2.2.1, fun b j z => (q.2.2.2.2.2 b j z).trans (p.2.2.2.2.2 b j z)⟩
theorem qy_s {x : Nat} {h : aH} {a i : Nat} {v : Int32} (hp : QD x a i) : QY x h (sI h a i v) := ⟨rfl, rfl, rfl, rfl, rfl, fun b j z => by rw [hI_sI, if_neg]; rintro ⟨rfl, rfl⟩; exact z hp⟩
theorem QY.x {x : Nat} {h h1 : aH} (p : QY x h h1) : QX x h h1 := ⟨p.1, p.2.1, p.2.2.1, p.2.2.2.1, p.2.2.2.2.1, fun b j z => p.2.2.2.2.2 b j (by unfold QC at z; unfold QD; omega)⟩
section Qo
variable {h : aH} {x n w o bs : Nat} {tp : Nat → Nat} {σ : tyT} {c W : List Nat}
theorem RT.qy {h1 : aH} (T : RT h x tp n σ) (q : QY x h h1) : RT h1 x tp n σ := by
  have f := q.2.2.2.2.2
  obtain ⟨M, ok_, bad, p, e2, pl, sp, ed⟩ := T
  refine ⟨M.qx q.x, ok_, by rw [f _ _ (by unfold QD; omega)]; exact bad, p, by rw [f _ _ (by unfold QD; omega)]; exact e2, pl, sp, ?_⟩
  unfold ED at ed ⊢
  rw [f (x + 107) 6 (by unfold QD; omega), f (x + 107) 4 (by unfold QD; omega)]
  exact ed
theorem RA.qy {h1 : aH} (T : RA h x tp n σ) (q : QY x h h1) : RA h1 x tp n σ := by
  have f := q.2.2.2.2.2
  obtain ⟨M, ok_, bad, e2, ed⟩ := T
  refine ⟨M.qx q.x, ok_, by rw [f _ _ (by unfold QD; omega)]; exact bad, by rw [f _ _ (by unfold QD; omega)]; exact e2, ?_⟩
  unfold ED at ed ⊢
  rw [f (x + 107) 6 (by unfold QD; omega), f (x + 107) 4 (by unfold QD; omega)]
  exact ed
/-- what changes elsewhere leaves it -/
theorem QQ.fr {h1 : aH} (Q : QQ h x w c W o bs) (e1 : hK h1 = hK h) (e2 : hR h1 = hR h) (e : ∀ b j, (b = x + 107 ∧ (j = 92 ∨ j = 94 ∨ j = 95 ∨ j = 96 ∨ j = 46) ∨ b = x + 107 + 64 ∨ b = x + 107 + 65) → hI h1 b j = hI h b j) : QQ h1 x w c W o bs := by
  obtain ⟨a1, ⟨b1, b2⟩, ⟨d1, d2⟩, a4, a5, a6, a7⟩ := Q
  exact ⟨a1.of e1 e2, ⟨(e _ _ (by omega)).trans b1, fun i hi => (e _ _ (by omega)).trans (b2 i hi)⟩, ⟨(e _ _ (by omega)).trans d1, fun i hi => (e _ _ (by omega)).trans (d2 i hi)⟩, (e _ _ (by omega)).trans a4, (e _ _ (by omega)).trans a5, (e _ _ (by omega)).trans a6, a7⟩
theorem QQ.s (Q : QQ h x w c W o bs) {i : Nat} (hi : i ≤ 10) (v : Int32) : QQ (sI h (x + 107) i v) x w c W o bs := Q.fr rfl rfl (fun b j z => by rw [hI_sI, if_neg (by omega)])
theorem m_code (Q : QQ h x w c W o bs) (hc : c.length < 1650) {v : Nat} : ∃ h1, f_X12_qCode (x + 107) (nI v) h = some ((), h1) ∧ QQ h1 x w (c ++ [v]) W o bs ∧ QY x h h1 := by
  obtain ⟨S, ⟨b1, b2⟩, ⟨d1, d2⟩, a4, a5, a6, a7, a8, a9, a10⟩ := Q
  refine ⟨sI (sI h (x + 107 + 64) c.length (nI v)) (x + 107) 92 (nI (c.length + 1)), ?_, ⟨S.of rfl rfl, ⟨?_, fun i hi => ?_⟩, ⟨?_, fun i hi => ?_⟩, ?_, ?_, ?_, by simp; omega, a8, a9, a10⟩, (qy_s (by unfold QD; omega)).trans (qy_s (by unfold QD; omega))⟩
  · simp (disch := omega) only [nm, bd_s, ko_K, ka_K, koK_t, kaK_t, kr_s, kn_s, kn_n, hK_sI, hR_sI, hK_sL, hR_sL, hI_sL, hL_sI, hL_sL, hI_sI, hN_sI, hN_sL, ch_G, ch_T, nb_0, nb_1, zb_G, d_T, d_F, d_eT, d_eF, b2i_t, b2i_f, tn_nI, fa_lit, fa_litL, m1_e, nI_add, pk_mul, pk_sub, nI_leI, nI_ltI, nI_eq, le_T, le_F, lt_T, lt_F, eq_T, eq_F, if_pos, if_neg, m1_le, m1_lt', m1_gt, m1_le', m1_eq, m1_qe, b2i_eq0, in_N, in_n, in_I, ↓reduceIte, Bool.true_eq_false, Bool.false_eq_true, reduceCtorEq, decide_eq_true_eq, decide_eq_false_iff_not, Nat.not_lt, Nat.not_le, not_true_eq_false, not_false_eq_true, true_and, and_true, and_self, false_and, and_false, true_or, or_true, false_or, or_false, f_X12_qCode, ↓nm, S.k, S.r91, S.k91, b1]
  · rw [hI_sI, if_pos ⟨rfl, rfl⟩]; simp
  · have hi : i < c.length + 1 := by simpa using hi
    rw [hI_sI, if_neg (by omega), hI_sI]
    by_cases z : i = c.length
    · rw [if_pos ⟨rfl, z⟩, z]; simp
    · rw [if_neg (by omega), b2 i (by omega), List.getD_eq_getElem?_getD, List.getD_eq_getElem?_getD, List.getElem?_append_left (by omega)]
  · rw [hI_sI, if_neg (by omega), hI_sI, if_neg (by omega)]; exact d1
  · rw [hI_sI, if_neg (by omega), hI_sI, if_neg (by omega)]; exact d2 i hi
  · rw [hI_sI, if_neg (by omega), hI_sI, if_neg (by omega)]; exact a4
  · rw [hI_sI, if_neg (by omega), hI_sI, if_neg (by omega)]; exact a5
  · rw [hI_sI, if_neg (by omega), hI_sI, if_neg (by omega)]; exact a6
/-- one waits no more -/
theorem QQ.pop {v : Nat} (Q : QQ h x w c (v :: W) o bs) : QQ (sI h (x + 107) 94 (nI W.length)) x w c W o bs ∧ hI h (x + 107 + 65) W.length = nI v := by
  obtain ⟨S, ⟨b1, b2⟩, ⟨d1, d2⟩, a4, a5, a6, a7, a8, a9, a10⟩ := Q
  have a8 : W.length + 1 ≤ 1650 := a8
  refine ⟨⟨S.of rfl rfl, ⟨?_, fun i hi => ?_⟩, ⟨by rw [hI_sI, if_pos ⟨rfl, rfl⟩], fun i hi => ?_⟩, ?_, ?_, ?_, a7, by omega, a9, fun u hu => a10 u (List.mem_cons_of_mem _ hu)⟩, ?_⟩
  · rw [hI_sI, if_neg (by omega)]; exact b1
  · rw [hI_sI, if_neg (by omega)]; exact b2 i hi
  · rw [hI_sI, if_neg (by omega), d2 i (by show i < W.length + 1; omega)]
    have : (v :: W).length - 1 - i = (W.length - 1 - i) + 1 := by show W.length + 1 - 1 - i = _; omega
    rw [this]
    rfl
  · rw [hI_sI, if_neg (by omega)]; exact a4
  · rw [hI_sI, if_neg (by omega)]; exact a5
  · rw [hI_sI, if_neg (by omega)]; exact a6
  · rw [d2 W.length (by show W.length < W.length + 1; omega)]
    have : (v :: W).length - 1 - W.length = 0 := by show W.length + 1 - 1 - W.length = 0; omega
    rw [this]
    rfl
/-- one waits more -/
theorem QQ.push {v : Nat} (Q : QQ h x w c W o bs) (hW : W.length < 1650) (hv : v ≤ 100) : QQ (sI (sI h (x + 107 + 65) W.length (nI v)) (x + 107) 94 (nI (W.length + 1))) x w c (v :: W) o bs := by
  obtain ⟨S, ⟨b1, b2⟩, ⟨d1, d2⟩, a4, a5, a6, a7, a8, a9, a10⟩ := Q
  refine ⟨S.of rfl rfl, ⟨?_, fun i hi => ?_⟩, ⟨by rw [hI_sI, if_pos ⟨rfl, rfl⟩]; rfl, fun i hi => ?_⟩, ?_, ?_, ?_, a7, by show W.length + 1 ≤ 1650; omega, a9, fun u hu => ?_⟩
  · rw [hI_sI, if_neg (by omega), hI_sI, if_neg (by omega)]; exact b1
  · rw [hI_sI, if_neg (by omega), hI_sI, if_neg (by omega)]; exact b2 i hi
  · have hi : i < W.length + 1 := hi
    rw [hI_sI, if_neg (by omega), hI_sI]
    by_cases z : i = W.length
    · rw [if_pos ⟨rfl, z⟩, z]
      have : (v :: W).length - 1 - W.length = 0 := by show W.length + 1 - 1 - W.length = 0; omega
      rw [this]; rfl
    · rw [if_neg (by omega), d2 i (by omega)]
      have : (v :: W).length - 1 - i = (W.length - 1 - i) + 1 := by show W.length + 1 - 1 - i = _; omega
      rw [this]; rfl
  · rw [hI_sI, if_neg (by omega), hI_sI, if_neg (by omega)]; exact a4
  · rw [hI_sI, if_neg (by omega), hI_sI, if_neg (by omega)]; exact a5
  · rw [hI_sI, if_neg (by omega), hI_sI, if_neg (by omega)]; exact a6
  · rcases List.mem_cons.mp hu with rfl | hu
    · exact hv
    · exact a10 u hu
theorem m_drops {v : Nat} (Q : QQ h x w c (v :: W) o bs) (hc : c.length < 1650) : ∃ h1, f_X12_qDrops (x + 107) h = some ((), h1) ∧ QQ h1 x w (c ++ [v]) W o bs ∧ QY x h h1 := by
  have S := Q.1
  have d1 : hI h (x + 107) 94 = nI (W.length + 1) := Q.2.2.1.1
  have a8 : W.length + 1 ≤ 1650 := Q.2.2.2.2.2.2.2.1
  obtain ⟨Q1, e⟩ := Q.pop
  obtain ⟨h1, e1, Q2, y1⟩ := m_code Q1 hc (v := v)
  refine ⟨h1, ?_, Q2, (qy_s (by unfold QD; omega)).trans y1⟩
  have e2 : W.length + 1 - 1 = W.length := by omega
  have e3 : hI (sI h (x + 107) 94 (nI W.length)) (x + 107 + 65) W.length = nI v := by rw [hI_sI, if_neg (by omega)]; exact e
  have e4 : hI (sI h (x + 107) 94 (nI W.length)) (x + 107) 94 = nI W.length := by rw [hI_sI, if_pos ⟨rfl, rfl⟩]
  have e5 : nI (W.length + 1) - 1 = nI W.length := by rw [show nI (W.length + 1) - 1 = nI (W.length + 1 - 1) from pk_sub (b := 1) (by omega), e2]
  unfold f_X12_qDrops
  rw [ko_t S.k, kr_t S.r93, d1, e5]
  simp only [nm, e4]
  rw [ka_t S.k93, chk_t (inb_nI (by omega) (by omega)), tn_nI (by omega), e3, bd_t e1]
theorem m_isOn (Q : QQ h x w c W o bs) {q : Nat} (hq : q ≤ 100) : f_X12_qIsOn (x + 107) (nI q) h = some (b2i (decide (W.head? = some q)), h) := by
  have S := Q.1
  have d1 := Q.2.2.1.1
  have a8 := Q.2.2.2.2.2.2.2.1
  cases W with
  | nil =>
    have d1 : hI h (x + 107) 94 = nI 0 := d1
    have : decide (([] : List Nat).head? = some q) = false := by simp
    rw [this, b2i_f]
    simp (disch := omega) only [nm, bd_s, ko_K, ka_K, koK_t, kaK_t, kr_s, kn_s, kn_n, hK_sI, hR_sI, hK_sL, hR_sL, hI_sL, hL_sI, hL_sL, hI_sI, hN_sI, hN_sL, ch_G, ch_T, nb_0, nb_1, zb_G, d_T, d_F, d_eT, d_eF, b2i_t, b2i_f, tn_nI, fa_lit, fa_litL, m1_e, nI_add, pk_mul, pk_sub, nI_leI, nI_ltI, nI_eq, le_T, le_F, lt_T, lt_F, eq_T, eq_F, if_pos, if_neg, m1_le, m1_lt', m1_gt, m1_le', m1_eq, m1_qe, b2i_eq0, in_N, in_n, in_I, ↓reduceIte, Bool.true_eq_false, Bool.false_eq_true, reduceCtorEq, decide_eq_true_eq, decide_eq_false_iff_not, Nat.not_lt, Nat.not_le, not_true_eq_false, not_false_eq_true, true_and, and_true, and_self, false_and, and_false, true_or, or_true, false_or, or_false, f_X12_qIsOn_27, f_X12_qIsOn_26, f_X12_qIsOn, S.k, d1]
  | cons v W =>
    have d1 : hI h (x + 107) 94 = nI (W.length + 1) := d1
    have a8 : W.length + 1 ≤ 1650 := a8
    have e := Q.pop.2
    have v1 := Q.2.2.2.2.2.2.2.2.2 v (List.mem_cons_self)
    have e2 : W.length + 1 - 1 = W.length := by omega
    by_cases z : v = q
    · have : decide ((v :: W).head? = some q) = true := by simp [z]
      rw [this, b2i_t]
      rw [z] at e
      generalize W.length = l at *
      simp (disch := omega) only [nm, bd_s, ko_K, ka_K, koK_t, kaK_t, kr_s, kn_s, kn_n, hK_sI, hR_sI, hK_sL, hR_sL, hI_sL, hL_sI, hL_sL, hI_sI, hN_sI, hN_sL, ch_G, ch_T, nb_0, nb_1, zb_G, d_T, d_F, d_eT, d_eF, b2i_t, b2i_f, tn_nI, fa_lit, fa_litL, m1_e, nI_add, pk_mul, pk_sub, nI_leI, nI_ltI, nI_eq, le_T, le_F, lt_T, lt_F, eq_T, eq_F, if_pos, if_neg, m1_le, m1_lt', m1_gt, m1_le', m1_eq, m1_qe, b2i_eq0, in_N, in_n, in_I, ↓reduceIte, Bool.true_eq_false, Bool.false_eq_true, reduceCtorEq, decide_eq_true_eq, decide_eq_false_iff_not, Nat.not_lt, Nat.not_le, not_true_eq_false, not_false_eq_true, true_and, and_true, and_self, false_and, and_false, true_or, or_true, false_or, or_false, f_X12_qIsOn_27, f_X12_qIsOn_26, f_X12_qIsOn, S.k, d1, S.r93, S.k93, e2, e]
    · have : decide ((v :: W).head? = some q) = false := by simp [z]
      rw [this, b2i_f]
      generalize W.length = l at *
      simp (disch := omega) only [nm, bd_s, ko_K, ka_K, koK_t, kaK_t, kr_s, kn_s, kn_n, hK_sI, hR_sI, hK_sL, hR_sL, hI_sL, hL_sI, hL_sL, hI_sI, hN_sI, hN_sL, ch_G, ch_T, nb_0, nb_1, zb_G, d_T, d_F, d_eT, d_eF, b2i_t, b2i_f, tn_nI, fa_lit, fa_litL, m1_e, nI_add, pk_mul, pk_sub, nI_leI, nI_ltI, nI_eq, le_T, le_F, lt_T, lt_F, eq_T, eq_F, if_pos, if_neg, m1_le, m1_lt', m1_gt, m1_le', m1_eq, m1_qe, b2i_eq0, in_N, in_n, in_I, ↓reduceIte, Bool.true_eq_false, Bool.false_eq_true, reduceCtorEq, decide_eq_true_eq, decide_eq_false_iff_not, Nat.not_lt, Nat.not_le, not_true_eq_false, not_false_eq_true, true_and, and_true, and_self, false_and, and_false, true_or, or_true, false_or, or_false, f_X12_qIsOn_27, f_X12_qIsOn_26, f_X12_qIsOn, S.k, d1, S.r93, S.k93, e2, e]
def isBr (v : Nat) : Bool := decide (20 ≤ v) && decide (v ≤ 24)
theorem m_isBr {v : Nat} (hv : v ≤ 100) : f_X12_qIsBracket (nI v) h = some (b2i (isBr v), h) := by
  unfold isBr
  by_cases c1 : 20 ≤ v
  · by_cases c2 : v ≤ 24
    · rw [decide_eq_true c1, decide_eq_true c2]
      simp (disch := omega) only [nm, bd_s, ko_K, ka_K, koK_t, kaK_t, kr_s, kn_s, kn_n, hK_sI, hR_sI, hK_sL, hR_sL, hI_sL, hL_sI, hL_sL, hI_sI, hN_sI, hN_sL, ch_G, ch_T, nb_0, nb_1, zb_G, d_T, d_F, d_eT, d_eF, b2i_t, b2i_f, tn_nI, fa_lit, fa_litL, m1_e, nI_add, pk_mul, pk_sub, nI_leI, nI_ltI, nI_eq, le_T, le_F, lt_T, lt_F, eq_T, eq_F, if_pos, if_neg, m1_le, m1_lt', m1_gt, m1_le', m1_eq, m1_qe, b2i_eq0, in_N, in_n, in_I, ↓reduceIte, Bool.true_eq_false, Bool.false_eq_true, reduceCtorEq, decide_eq_true_eq, decide_eq_false_iff_not, Nat.not_lt, Nat.not_le, not_true_eq_false, not_false_eq_true, true_and, and_true, and_self, false_and, and_false, true_or, or_true, false_or, or_false, f_X12_qIsBracket_17, f_X12_qIsBracket_16, f_X12_qIsBracket]; rfl
    · rw [decide_eq_false c2, Bool.and_false, b2i_f]
      simp (disch := omega) only [nm, bd_s, ko_K, ka_K, koK_t, kaK_t, kr_s, kn_s, kn_n, hK_sI, hR_sI, hK_sL, hR_sL, hI_sL, hL_sI, hL_sL, hI_sI, hN_sI, hN_sL, ch_G, ch_T, nb_0, nb_1, zb_G, d_T, d_F, d_eT, d_eF, b2i_t, b2i_f, tn_nI, fa_lit, fa_litL, m1_e, nI_add, pk_mul, pk_sub, nI_leI, nI_ltI, nI_eq, le_T, le_F, lt_T, lt_F, eq_T, eq_F, if_pos, if_neg, m1_le, m1_lt', m1_gt, m1_le', m1_eq, m1_qe, b2i_eq0, in_N, in_n, in_I, ↓reduceIte, Bool.true_eq_false, Bool.false_eq_true, reduceCtorEq, decide_eq_true_eq, decide_eq_false_iff_not, Nat.not_lt, Nat.not_le, not_true_eq_false, not_false_eq_true, true_and, and_true, and_self, false_and, and_false, true_or, or_true, false_or, or_false, f_X12_qIsBracket_17, f_X12_qIsBracket_16, f_X12_qIsBracket]
  · rw [decide_eq_false c1, Bool.false_and, b2i_f]
    simp (disch := omega) only [nm, bd_s, ko_K, ka_K, koK_t, kaK_t, kr_s, kn_s, kn_n, hK_sI, hR_sI, hK_sL, hR_sL, hI_sL, hL_sI, hL_sL, hI_sI, hN_sI, hN_sL, ch_G, ch_T, nb_0, nb_1, zb_G, d_T, d_F, d_eT, d_eF, b2i_t, b2i_f, tn_nI, fa_lit, fa_litL, m1_e, nI_add, pk_mul, pk_sub, nI_leI, nI_ltI, nI_eq, le_T, le_F, lt_T, lt_F, eq_T, eq_F, if_pos, if_neg, m1_le, m1_lt', m1_gt, m1_le', m1_eq, m1_qe, b2i_eq0, in_N, in_n, in_I, ↓reduceIte, Bool.true_eq_false, Bool.false_eq_true, reduceCtorEq, decide_eq_true_eq, decide_eq_false_iff_not, Nat.not_lt, Nat.not_le, not_true_eq_false, not_false_eq_true, true_and, and_true, and_self, false_and, and_false, true_or, or_true, false_or, or_false, f_X12_qIsBracket_17, f_X12_qIsBracket_16, f_X12_qIsBracket]
/-- what is dropped ahead of a bracket, or of the sum's begin -/
def stopB (bs : Nat) (R : List Nat) : Prop := R.length = bs ∨ bs < R.length ∧ ∃ b R', R = b :: R' ∧ isBr b = true
theorem m_dropsTo : ∀ (P : List Nat) (R c : List Nat) (k : Nat) (h : aH), (∀ v ∈ P, isBr v = false) → stopB bs R → P.length < k → c.length + P.length ≤ 1650 → QQ h x w c (P ++ R) o bs → ∃ h1, f_X12_qDropsToBracket_0 k (x + 107) h = some ((), h1) ∧ QQ h1 x w (c ++ P) R o bs ∧ QY x h h1 := by
  intro P
  induction P with
  | nil =>
    intro R c k h hP hR hk hc Q
    obtain ⟨k, rfl⟩ : ∃ j, k = j + 1 := ⟨k - 1, by have : (0 : Nat) < k := hk; omega⟩
    have Q : QQ h x w c R o bs := Q
    have S := Q.1
    have d1 := Q.2.2.1.1
    have a5 := Q.2.2.2.2.1
    have a8 := Q.2.2.2.2.2.2.2.1
    have a9 := Q.2.2.2.2.2.2.2.2.1
    rw [List.append_nil]
    refine ⟨h, ?_, Q, QY.refl⟩
    rcases hR with hR | ⟨hR, b, R', rfl, hb⟩
    · simp (disch := omega) only [nm, bd_s, ko_K, ka_K, koK_t, kaK_t, kr_s, kn_s, kn_n, hK_sI, hR_sI, hK_sL, hR_sL, hI_sL, hL_sI, hL_sL, hI_sI, hN_sI, hN_sL, ch_G, ch_T, nb_0, nb_1, zb_G, d_T, d_F, d_eT, d_eF, b2i_t, b2i_f, tn_nI, fa_lit, fa_litL, m1_e, nI_add, pk_mul, pk_sub, nI_leI, nI_ltI, nI_eq, le_T, le_F, lt_T, lt_F, eq_T, eq_F, if_pos, if_neg, m1_le, m1_lt', m1_gt, m1_le', m1_eq, m1_qe, b2i_eq0, in_N, in_n, in_I, ↓reduceIte, Bool.true_eq_false, Bool.false_eq_true, reduceCtorEq, decide_eq_true_eq, decide_eq_false_iff_not, Nat.not_lt, Nat.not_le, not_true_eq_false, not_false_eq_true, true_and, and_true, and_self, false_and, and_false, true_or, or_true, false_or, or_false, f_X12_qDropsToBracket_0, b_X12_qDropsToBracket_0, f_X12_qDropsToBracket_35, S.k, d1, a5]
    · have d1 : hI h (x + 107) 94 = nI (R'.length + 1) := d1
      have hR : bs < R'.length + 1 := hR
      have a8 : R'.length + 1 ≤ 1650 := a8
      have e := Q.pop.2
      have v1 := Q.2.2.2.2.2.2.2.2.2 b (List.mem_cons_self)
      have ib := m_isBr (h := h) v1
      rw [hb, b2i_t] at ib
      have e2 : R'.length + 1 - 1 = R'.length := by omega
      generalize R'.length = l at *
      simp (disch := omega) only [nm, bd_s, ko_K, ka_K, koK_t, kaK_t, kr_s, kn_s, kn_n, hK_sI, hR_sI, hK_sL, hR_sL, hI_sL, hL_sI, hL_sL, hI_sI, hN_sI, hN_sL, ch_G, ch_T, nb_0, nb_1, zb_G, d_T, d_F, d_eT, d_eF, b2i_t, b2i_f, tn_nI, fa_lit, fa_litL, m1_e, nI_add, pk_mul, pk_sub, nI_leI, nI_ltI, nI_eq, le_T, le_F, lt_T, lt_F, eq_T, eq_F, if_pos, if_neg, m1_le, m1_lt', m1_gt, m1_le', m1_eq, m1_qe, b2i_eq0, in_N, in_n, in_I, ↓reduceIte, Bool.true_eq_false, Bool.false_eq_true, reduceCtorEq, decide_eq_true_eq, decide_eq_false_iff_not, Nat.not_lt, Nat.not_le, not_true_eq_false, not_false_eq_true, true_and, and_true, and_self, false_and, and_false, true_or, or_true, false_or, or_false, f_X12_qDropsToBracket_0, b_X12_qDropsToBracket_0, f_X12_qDropsToBracket_35, ↓ko_t S.k, S.k, d1, a5, ↓kr_t S.r93, S.r93, ↓ka_t S.k93, S.k93, e2, e, ib]
  | cons v P ih =>
    intro R c k h hP hR hk hc Q
    obtain ⟨k, rfl⟩ : ∃ j, k = j + 1 := ⟨k - 1, by have : P.length + 1 < k := hk; omega⟩
    have hk : P.length + 1 < k + 1 := hk
    have hc : c.length + (P.length + 1) ≤ 1650 := hc
    have Q : QQ h x w c (v :: (P ++ R)) o bs := Q
    have S := Q.1
    have d1 : hI h (x + 107) 94 = nI ((P ++ R).length + 1) := Q.2.2.1.1
    have a5 := Q.2.2.2.2.1
    have a8 : (P ++ R).length + 1 ≤ 1650 := Q.2.2.2.2.2.2.2.1
    have a9 := Q.2.2.2.2.2.2.2.2.1
    have e := Q.pop.2
    have v1 := Q.2.2.2.2.2.2.2.2.2 v (List.mem_cons_self)
    have ib := m_isBr (h := h) v1
    rw [hP v (List.mem_cons_self), b2i_f] at ib
    have lb : bs ≤ (P ++ R).length := by
      have : bs ≤ R.length := by rcases hR with z | ⟨z, -⟩ <;> omega
      simp; omega
    obtain ⟨h1, e1, Q1, y1⟩ := m_drops Q (by omega)
    obtain ⟨h2, e2, Q2, y2⟩ := ih R (c ++ [v]) k h1 (fun u hu => hP u (List.mem_cons_of_mem _ hu)) hR (by omega) (by simp; omega) Q1
    refine ⟨h2, ?_, by rw [List.append_assoc] at Q2; exact Q2, y1.trans y2⟩
    rw [← e2]
    have e3 : (P ++ R).length + 1 - 1 = (P ++ R).length := by omega
    generalize (P ++ R).length = l at *
    simp (disch := omega) only [nm, bd_s, ko_K, ka_K, koK_t, kaK_t, kr_s, kn_s, kn_n, hK_sI, hR_sI, hK_sL, hR_sL, hI_sL, hL_sI, hL_sL, hI_sI, hN_sI, hN_sL, ch_G, ch_T, nb_0, nb_1, zb_G, d_T, d_F, d_eT, d_eF, b2i_t, b2i_f, tn_nI, fa_lit, fa_litL, m1_e, nI_add, pk_mul, pk_sub, nI_leI, nI_ltI, nI_eq, le_T, le_F, lt_T, lt_F, eq_T, eq_F, if_pos, if_neg, m1_le, m1_lt', m1_gt, m1_le', m1_eq, m1_qe, b2i_eq0, in_N, in_n, in_I, ↓reduceIte, Bool.true_eq_false, Bool.false_eq_true, reduceCtorEq, decide_eq_true_eq, decide_eq_false_iff_not, Nat.not_lt, Nat.not_le, not_true_eq_false, not_false_eq_true, true_and, and_true, and_self, false_and, and_false, true_or, or_true, false_or, or_false, f_X12_qDropsToBracket_0, b_X12_qDropsToBracket_0, ↓ko_t S.k, S.k, d1, a5, ↓kr_t S.r93, S.r93, ↓ka_t S.k93, S.k93, e3, e, ib, e1]
end Qo
