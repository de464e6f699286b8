/-! THE TEXTS: the class's words, numbers, next token -/
theorem rn_full {p : Nat → Bool} {tp : Nat → Nat} {n : Nat} (h : ∀ j, j < n → p (tp j) = true) : rn p tp n 0 = n := by
  have a := rn_le (p := p) (tp := tp) (n := n) (q := 0) (by omega)
  have b := rn_end (p := p) (tp := tp) (n := n) 0
  by_cases c : rn p tp n 0 < n
  · exact absurd ⟨c, h _ c⟩ b
  · omega
theorem sub_eq {tp : Nat → Nat} : ∀ (l s : Nat) (A : List Nat), A.length = l → (∀ j, j < l → A.getD j 32 = tp (s + j)) → A = sub tp s l := by
  intro l
  induction l with
  | zero => intro s A ha _; exact List.length_eq_zero_iff.mp ha
  | succ l ih =>
    intro s A ha hj
    cases A with
    | nil => cases ha
    | cons a A =>
      have h0 : a = tp s := hj 0 (by omega)
      show a :: A = tp s :: sub tp (s + 1) l
      rw [h0, ih (s + 1) A (by simpa using ha) (fun j hl => by
        have := hj (j + 1) (by omega)
        rw [show s + (j + 1) = s + 1 + j by omega] at this
        exact this)]
theorem sub_get2 (tp : Nat → Nat) : ∀ k s j, j < k → (sub tp s k).getD j 32 = tp (s + j) := by
  intro k
  induction k with
  | zero => intro s j h; omega
  | succ k ih =>
    intro s j h
    cases j with
    | zero => rfl
    | succ j =>
      show (sub tp (s + 1) k).getD j 32 = _
      rw [ih (s + 1) j (by omega)]
      congr 1; omega
theorem getD_out {A : List Nat} {j d : Nat} (h : A.length ≤ j) : A.getD j d = d := by
  rw [List.getD_eq_getElem?_getD, List.getElem?_eq_none h]; rfl
def one1 (c : Nat) : Bool := decide (c = 1)
def mt (tp : Nat → Nat) (i s j : Nat) : Nat := if (WD i).getD j 32 = tp (s + j) then 1 else 0
theorem mt_1 {tp : Nat → Nat} {i s j : Nat} : one1 (mt tp i s j) = true ↔ (WD i).getD j 32 = tp (s + j) := by
  unfold one1 mt
  by_cases c : (WD i).getD j 32 = tp (s + j)
  · rw [if_pos c]; exact ⟨fun _ => c, fun _ => rfl⟩
  · rw [if_neg c]; exact ⟨fun z => absurd z (by decide), fun z => absurd z c⟩
theorem w_match {tp : Nat → Nat} {i s l : Nat} (hi : i < 31) (hl : l ≤ 8) (hL : ∀ j, j < l → isL (tp (s + j)) = true) : (rn one1 (mt tp i s) l 0 = l ∧ (l = 8 ∨ (WD i).getD l 32 = 32)) ↔ WD i = sub tp s l := by
  obtain ⟨w1, w2⟩ := WD_ok i hi
  have nb : ∀ j, j < l → ¬ tp (s + j) = 32 := fun j hj z => by
    have := hL j hj
    rw [z] at this; cases this
  constructor
  · rintro ⟨a, b⟩
    have m : ∀ j, j < l → (WD i).getD j 32 = tp (s + j) := fun j hj => mt_1.mp (rn_in (p := one1) (tp := mt tp i s) (n := l) (q := 0) (by omega) (by omega))
    refine sub_eq l s (WD i) ?_ m
    have g1 : l ≤ (WD i).length := by
      by_cases c : (WD i).length < l
      · have := m (WD i).length c
        rw [getD_out (Nat.le_refl _)] at this
        exact absurd this.symm (nb _ c)
      · omega
    by_cases c : l < (WD i).length
    · rcases b with b | b
      · omega
      · exact absurd b (w2 l c)
    · omega
  · intro e
    have len : (WD i).length = l := by rw [e, sub_len]
    refine ⟨rn_full (fun j hj => mt_1.mpr (by rw [e]; exact sub_get2 tp l s j hj)), Or.inr (getD_out (by omega))⟩
section Nx
variable {h : aH} {x n : Nat} {tp : Nat → Nat}
theorem c_numberOf (S : XS h x) (hb : ∀ j, j < 1600 → hI h (x + 1) j = (nI (tp j)).toInt8.toInt32) {s l : Nat} (hs : s + l ≤ 1600) (hL : ∀ j, j < l → isL (tp (s + j)) = true) : f_X10_numberOf (x + 1) (nI s) (nI l) h = some (opI (fnd (fun i => decide (WD i = sub tp s l)) 31 0), h) := by
  have e16 : Int32.ofNat 1600 = nI 1600 := rfl
  by_cases c8 : l ≤ 8
  · have tv : ∀ j, j < l → hI h (x + 1) (s + j) = nI (tp (s + j)) ∧ tp (s + j) ≤ 122 := fun j hj => by
      have q := hL j hj
      unfold isL at q
      simp only [Bool.and_eq_true, decide_eq_true_eq] at q
      exact ⟨by rw [hb _ (by omega), sb_lo _ (by omega)], q.2⟩
    -- one word
    have inner : ∀ (i : Nat) (k22 : Nat → Int32 → Int32 → Int32 → aH → Option (Int32 × aH)), i < 31 → ∀ (d j k : Nat), l - j = d → j ≤ l → d < k → f_X10_numberOf_31 k22 k (x + 1) (nI s) (nI l) (nI i) (nI j) h = f_X10_numberOf_64 k22 (x + 1) (nI s) (nI l) (nI i) (nI (rn one1 (mt tp i s) l j)) h := by
      intro i k22 hi d
      induction d with
      | zero =>
        intro j k hd hj hk
        obtain ⟨k, rfl⟩ : ∃ m, k = m + 1 := ⟨k - 1, by omega⟩
        have hj : j = l := by omega
        subst hj
        rw [rn_f (by omega)]
        simp (disch := omega) only [nm, bd_s, ko_K, ka_K, koK_t, kaK_t, kr_s, kn_s, kn_n, hK_sI, hR_sI, hK_sL, hR_sL, hI_sL, hL_sI, hL_sL, hI_sI, hN_sI, hN_sL, ch_G, ch_T, nb_0, nb_1, zb_G, d_T, d_F, d_eT, d_eF, b2i_t, b2i_f, tn_nI, fa_lit, fa_litL, m1_e, nI_add, pk_mul, pk_sub, nI_leI, nI_ltI, nI_eq, le_T, le_F, lt_T, lt_F, eq_T, eq_F, if_pos, if_neg, m1_le, m1_lt', m1_gt, m1_le', m1_eq, m1_qe, b2i_eq0, in_N, in_n, in_I, ↓reduceIte, Bool.true_eq_false, Bool.false_eq_true, reduceCtorEq, decide_eq_true_eq, decide_eq_false_iff_not, Nat.not_lt, Nat.not_le, not_true_eq_false, not_false_eq_true, true_and, and_true, and_self, false_and, and_false, true_or, or_true, false_or, or_false, f_X10_numberOf_31, b_X10_numberOf_31]
      | succ d ih =>
        intro j k hd hj hk
        obtain ⟨k, rfl⟩ : ∃ m, k = m + 1 := ⟨k - 1, by omega⟩
        obtain ⟨t1, t2⟩ := tv j (by omega)
        have w := wch_w i hi j (by omega)
        have wb := WD_b i hi j (by omega)
        have e8 : i * 8 + j = 8 * i + j := by omega
        by_cases c : (WD i).getD j 32 = tp (s + j)
        · rw [rn_t (by omega) (mt_1.mpr c), ← ih (j + 1) k (by omega) (by omega) (by omega)]
          rw [c] at w
          simp (disch := omega) only [nm, bd_s, ko_K, ka_K, koK_t, kaK_t, kr_s, kn_s, kn_n, hK_sI, hR_sI, hK_sL, hR_sL, hI_sL, hL_sI, hL_sL, hI_sI, hN_sI, hN_sL, ch_G, ch_T, nb_0, nb_1, zb_G, d_T, d_F, d_eT, d_eF, b2i_t, b2i_f, tn_nI, fa_lit, fa_litL, m1_e, nI_add, pk_mul, pk_sub, nI_leI, nI_ltI, nI_eq, le_T, le_F, lt_T, lt_F, eq_T, eq_F, if_pos, if_neg, m1_le, m1_lt', m1_gt, m1_le', m1_eq, m1_qe, b2i_eq0, in_N, in_n, in_I, ↓reduceIte, Bool.true_eq_false, Bool.false_eq_true, reduceCtorEq, decide_eq_true_eq, decide_eq_false_iff_not, Nat.not_lt, Nat.not_le, not_true_eq_false, not_false_eq_true, true_and, and_true, and_self, false_and, and_false, true_or, or_true, false_or, or_false, f_X10_numberOf_31, b_X10_numberOf_31, ↓nm, ↓ka_t S.k1, e8, w, t1]
        · rw [rn_f (fun z => c (mt_1.mp z.2))]
          generalize (WD i).getD j 32 = u at *
          generalize tp (s + j) = v at *
          simp (disch := omega) only [nm, bd_s, ko_K, ka_K, koK_t, kaK_t, kr_s, kn_s, kn_n, hK_sI, hR_sI, hK_sL, hR_sL, hI_sL, hL_sI, hL_sL, hI_sI, hN_sI, hN_sL, ch_G, ch_T, nb_0, nb_1, zb_G, d_T, d_F, d_eT, d_eF, b2i_t, b2i_f, tn_nI, fa_lit, fa_litL, m1_e, nI_add, pk_mul, pk_sub, nI_leI, nI_ltI, nI_eq, le_T, le_F, lt_T, lt_F, eq_T, eq_F, if_pos, if_neg, m1_le, m1_lt', m1_gt, m1_le', m1_eq, m1_qe, b2i_eq0, in_N, in_n, in_I, ↓reduceIte, Bool.true_eq_false, Bool.false_eq_true, reduceCtorEq, decide_eq_true_eq, decide_eq_false_iff_not, Nat.not_lt, Nat.not_le, not_true_eq_false, not_false_eq_true, true_and, and_true, and_self, false_and, and_false, true_or, or_true, false_or, or_false, f_X10_numberOf_31, b_X10_numberOf_31, ↓nm, ↓ka_t S.k1, e8, w, t1]
    have L := loop_fnd (fun m i => f_X10_numberOf_22 m (x + 1) (nI s) (nI l) (nI i) h) 31 (fun i => decide (WD i = sub tp s l)) (fun j => (nI j, h)) (-nI 1, h) (fun m i hi => ?_) (fun m => ?_) 31 0 FU (by omega) (FU_gt (by omega))
    · have L2 : f_X10_numberOf_22 FU (x + 1) (nI s) (nI l) (nI 0) h = some (opI (fnd (fun i => decide (WD i = sub tp s l)) 31 0), h) := by
        refine Eq.trans L ?_
        cases fnd (fun i => decide (WD i = sub tp s l)) 31 0 <;> rfl
      simp (disch := omega) only [nm, bd_s, ko_K, ka_K, koK_t, kaK_t, kr_s, kn_s, kn_n, hK_sI, hR_sI, hK_sL, hR_sL, hI_sL, hL_sI, hL_sL, hI_sI, hN_sI, hN_sL, ch_G, ch_T, nb_0, nb_1, zb_G, d_T, d_F, d_eT, d_eF, b2i_t, b2i_f, tn_nI, fa_lit, fa_litL, m1_e, nI_add, pk_mul, pk_sub, nI_leI, nI_ltI, nI_eq, le_T, le_F, lt_T, lt_F, eq_T, eq_F, if_pos, if_neg, m1_le, m1_lt', m1_gt, m1_le', m1_eq, m1_qe, b2i_eq0, in_N, in_n, in_I, ↓reduceIte, Bool.true_eq_false, Bool.false_eq_true, reduceCtorEq, decide_eq_true_eq, decide_eq_false_iff_not, Nat.not_lt, Nat.not_le, not_true_eq_false, not_false_eq_true, true_and, and_true, and_self, false_and, and_false, true_or, or_true, false_or, or_false, f_X10_numberOf, S.k1, e16, L2]
    · have inn := inner i (f_X10_numberOf_22 m) hi l 0 FU (by omega) (by omega) (FU_gt (by omega))
      have wm := w_match (tp := tp) (s := s) hi c8 hL
      have rl := rn_le (p := one1) (tp := mt tp i s) (n := l) (q := 0) (by omega)
      have st : f_X10_numberOf_22 (m + 1) (x + 1) (nI s) (nI l) (nI i) h = f_X10_numberOf_31 (f_X10_numberOf_22 m) FU (x + 1) (nI s) (nI l) (nI i) (nI 0) h := by simp (disch := omega) only [nm, bd_s, ko_K, ka_K, koK_t, kaK_t, kr_s, kn_s, kn_n, hK_sI, hR_sI, hK_sL, hR_sL, hI_sL, hL_sI, hL_sL, hI_sI, hN_sI, hN_sL, ch_G, ch_T, nb_0, nb_1, zb_G, d_T, d_F, d_eT, d_eF, b2i_t, b2i_f, tn_nI, fa_lit, fa_litL, m1_e, nI_add, pk_mul, pk_sub, nI_leI, nI_ltI, nI_eq, le_T, le_F, lt_T, lt_F, eq_T, eq_F, if_pos, if_neg, m1_le, m1_lt', m1_gt, m1_le', m1_eq, m1_qe, b2i_eq0, in_N, in_n, in_I, ↓reduceIte, Bool.true_eq_false, Bool.false_eq_true, reduceCtorEq, decide_eq_true_eq, decide_eq_false_iff_not, Nat.not_lt, Nat.not_le, not_true_eq_false, not_false_eq_true, true_and, and_true, and_self, false_and, and_false, true_or, or_true, false_or, or_false, f_X10_numberOf_22, b_X10_numberOf_22]
      rw [st, inn]
      generalize rn one1 (mt tp i s) l 0 = j at *
      have e8 : i * 8 + j = 8 * i + j := by omega
      by_cases c : WD i = sub tp s l
      · rw [decide_eq_true c, if_pos rfl]
        obtain ⟨a, b⟩ := wm.mpr c
        subst a
        by_cases j8 : j = 8
        · simp (disch := omega) only [nm, bd_s, ko_K, ka_K, koK_t, kaK_t, kr_s, kn_s, kn_n, hK_sI, hR_sI, hK_sL, hR_sL, hI_sL, hL_sI, hL_sL, hI_sI, hN_sI, hN_sL, ch_G, ch_T, nb_0, nb_1, zb_G, d_T, d_F, d_eT, d_eF, b2i_t, b2i_f, tn_nI, fa_lit, fa_litL, m1_e, nI_add, pk_mul, pk_sub, nI_leI, nI_ltI, nI_eq, le_T, le_F, lt_T, lt_F, eq_T, eq_F, if_pos, if_neg, m1_le, m1_lt', m1_gt, m1_le', m1_eq, m1_qe, b2i_eq0, in_N, in_n, in_I, ↓reduceIte, Bool.true_eq_false, Bool.false_eq_true, reduceCtorEq, decide_eq_true_eq, decide_eq_false_iff_not, Nat.not_lt, Nat.not_le, not_true_eq_false, not_false_eq_true, true_and, and_true, and_self, false_and, and_false, true_or, or_true, false_or, or_false, f_X10_numberOf_18, f_X10_numberOf_108, f_X10_numberOf_93, f_X10_numberOf_88, f_X10_numberOf_64, b_X10_numberOf_31, f_X10_numberOf_31, b_X10_numberOf_22, f_X10_numberOf_22, f_X10_numberOf]
        · have b := b.resolve_left j8
          have w := wch_w i hi j (by omega)
          rw [b] at w
          simp (disch := omega) only [nm, bd_s, ko_K, ka_K, koK_t, kaK_t, kr_s, kn_s, kn_n, hK_sI, hR_sI, hK_sL, hR_sL, hI_sL, hL_sI, hL_sL, hI_sI, hN_sI, hN_sL, ch_G, ch_T, nb_0, nb_1, zb_G, d_T, d_F, d_eT, d_eF, b2i_t, b2i_f, tn_nI, fa_lit, fa_litL, m1_e, nI_add, pk_mul, pk_sub, nI_leI, nI_ltI, nI_eq, le_T, le_F, lt_T, lt_F, eq_T, eq_F, if_pos, if_neg, m1_le, m1_lt', m1_gt, m1_le', m1_eq, m1_qe, b2i_eq0, in_N, in_n, in_I, ↓reduceIte, Bool.true_eq_false, Bool.false_eq_true, reduceCtorEq, decide_eq_true_eq, decide_eq_false_iff_not, Nat.not_lt, Nat.not_le, not_true_eq_false, not_false_eq_true, true_and, and_true, and_self, false_and, and_false, true_or, or_true, false_or, or_false, f_X10_numberOf_18, f_X10_numberOf_108, f_X10_numberOf_93, f_X10_numberOf_88, f_X10_numberOf_64, b_X10_numberOf_31, f_X10_numberOf_31, b_X10_numberOf_22, f_X10_numberOf_22, f_X10_numberOf, e8, w]
      · rw [decide_eq_false c, if_neg (by decide)]
        by_cases jl : j = l
        · subst jl
          have nb := fun z => c (wm.mp ⟨rfl, z⟩)
          have j8 : ¬ j = 8 := fun z => nb (Or.inl z)
          have w := wch_w i hi j (by omega)
          have wb := WD_b i hi j (by omega)
          have n32 : ¬ (WD i).getD j 32 = 32 := fun z => nb (Or.inr z)
          generalize (WD i).getD j 32 = u at *
          simp (disch := omega) only [nm, bd_s, ko_K, ka_K, koK_t, kaK_t, kr_s, kn_s, kn_n, hK_sI, hR_sI, hK_sL, hR_sL, hI_sL, hL_sI, hL_sL, hI_sI, hN_sI, hN_sL, ch_G, ch_T, nb_0, nb_1, zb_G, d_T, d_F, d_eT, d_eF, b2i_t, b2i_f, tn_nI, fa_lit, fa_litL, m1_e, nI_add, pk_mul, pk_sub, nI_leI, nI_ltI, nI_eq, le_T, le_F, lt_T, lt_F, eq_T, eq_F, if_pos, if_neg, m1_le, m1_lt', m1_gt, m1_le', m1_eq, m1_qe, b2i_eq0, in_N, in_n, in_I, ↓reduceIte, Bool.true_eq_false, Bool.false_eq_true, reduceCtorEq, decide_eq_true_eq, decide_eq_false_iff_not, Nat.not_lt, Nat.not_le, not_true_eq_false, not_false_eq_true, true_and, and_true, and_self, false_and, and_false, true_or, or_true, false_or, or_false, f_X10_numberOf_64, f_X10_numberOf_88, f_X10_numberOf_93, f_X10_numberOf_108, e8, w]
        · by_cases j8 : j = 8
          · simp (disch := omega) only [nm, bd_s, ko_K, ka_K, koK_t, kaK_t, kr_s, kn_s, kn_n, hK_sI, hR_sI, hK_sL, hR_sL, hI_sL, hL_sI, hL_sL, hI_sI, hN_sI, hN_sL, ch_G, ch_T, nb_0, nb_1, zb_G, d_T, d_F, d_eT, d_eF, b2i_t, b2i_f, tn_nI, fa_lit, fa_litL, m1_e, nI_add, pk_mul, pk_sub, nI_leI, nI_ltI, nI_eq, le_T, le_F, lt_T, lt_F, eq_T, eq_F, if_pos, if_neg, m1_le, m1_lt', m1_gt, m1_le', m1_eq, m1_qe, b2i_eq0, in_N, in_n, in_I, ↓reduceIte, Bool.true_eq_false, Bool.false_eq_true, reduceCtorEq, decide_eq_true_eq, decide_eq_false_iff_not, Nat.not_lt, Nat.not_le, not_true_eq_false, not_false_eq_true, true_and, and_true, and_self, false_and, and_false, true_or, or_true, false_or, or_false, f_X10_numberOf_64, f_X10_numberOf_88, f_X10_numberOf_93, f_X10_numberOf_108]
          · have w := wch_w i hi j (by omega)
            have wb := WD_b i hi j (by omega)
            generalize (WD i).getD j 32 = u at *
            by_cases n32 : u = 32
            · subst n32
              simp (disch := omega) only [nm, bd_s, ko_K, ka_K, koK_t, kaK_t, kr_s, kn_s, kn_n, hK_sI, hR_sI, hK_sL, hR_sL, hI_sL, hL_sI, hL_sL, hI_sI, hN_sI, hN_sL, ch_G, ch_T, nb_0, nb_1, zb_G, d_T, d_F, d_eT, d_eF, b2i_t, b2i_f, tn_nI, fa_lit, fa_litL, m1_e, nI_add, pk_mul, pk_sub, nI_leI, nI_ltI, nI_eq, le_T, le_F, lt_T, lt_F, eq_T, eq_F, if_pos, if_neg, m1_le, m1_lt', m1_gt, m1_le', m1_eq, m1_qe, b2i_eq0, in_N, in_n, in_I, ↓reduceIte, Bool.true_eq_false, Bool.false_eq_true, reduceCtorEq, decide_eq_true_eq, decide_eq_false_iff_not, Nat.not_lt, Nat.not_le, not_true_eq_false, not_false_eq_true, true_and, and_true, and_self, false_and, and_false, true_or, or_true, false_or, or_false, f_X10_numberOf_64, f_X10_numberOf_88, f_X10_numberOf_93, f_X10_numberOf_108, e8, w]
            · simp (disch := omega) only [nm, bd_s, ko_K, ka_K, koK_t, kaK_t, kr_s, kn_s, kn_n, hK_sI, hR_sI, hK_sL, hR_sL, hI_sL, hL_sI, hL_sL, hI_sI, hN_sI, hN_sL, ch_G, ch_T, nb_0, nb_1, zb_G, d_T, d_F, d_eT, d_eF, b2i_t, b2i_f, tn_nI, fa_lit, fa_litL, m1_e, nI_add, pk_mul, pk_sub, nI_leI, nI_ltI, nI_eq, le_T, le_F, lt_T, lt_F, eq_T, eq_F, if_pos, if_neg, m1_le, m1_lt', m1_gt, m1_le', m1_eq, m1_qe, b2i_eq0, in_N, in_n, in_I, ↓reduceIte, Bool.true_eq_false, Bool.false_eq_true, reduceCtorEq, decide_eq_true_eq, decide_eq_false_iff_not, Nat.not_lt, Nat.not_le, not_true_eq_false, not_false_eq_true, true_and, and_true, and_self, false_and, and_false, true_or, or_true, false_or, or_false, f_X10_numberOf_64, f_X10_numberOf_88, f_X10_numberOf_93, f_X10_numberOf_108, e8, w]
    · simp (disch := omega) only [nm, bd_s, ko_K, ka_K, koK_t, kaK_t, kr_s, kn_s, kn_n, hK_sI, hR_sI, hK_sL, hR_sL, hI_sL, hL_sI, hL_sL, hI_sI, hN_sI, hN_sL, ch_G, ch_T, nb_0, nb_1, zb_G, d_T, d_F, d_eT, d_eF, b2i_t, b2i_f, tn_nI, fa_lit, fa_litL, m1_e, nI_add, pk_mul, pk_sub, nI_leI, nI_ltI, nI_eq, le_T, le_F, lt_T, lt_F, eq_T, eq_F, if_pos, if_neg, m1_le, m1_lt', m1_gt, m1_le', m1_eq, m1_qe, b2i_eq0, in_N, in_n, in_I, ↓reduceIte, Bool.true_eq_false, Bool.false_eq_true, reduceCtorEq, decide_eq_true_eq, decide_eq_false_iff_not, Nat.not_lt, Nat.not_le, not_true_eq_false, not_false_eq_true, true_and, and_true, and_self, false_and, and_false, true_or, or_true, false_or, or_false, f_X10_numberOf_22, b_X10_numberOf_22]
  · have no : fnd (fun i => decide (WD i = sub tp s l)) 31 0 = none := by
      cases q : fnd (fun i => decide (WD i = sub tp s l)) 31 0 with
      | none => rfl
      | some i =>
        obtain ⟨a, b, c⟩ := fnd_lt _ _ _ q
        simp only [decide_eq_true_eq] at c
        have := (WD_ok i (by omega)).1
        rw [c, sub_len] at this
        omega
    rw [no]
    show _ = some (-nI 1, h)
    simp (disch := omega) only [nm, bd_s, ko_K, ka_K, koK_t, kaK_t, kr_s, kn_s, kn_n, hK_sI, hR_sI, hK_sL, hR_sL, hI_sL, hL_sI, hL_sL, hI_sI, hN_sI, hN_sL, ch_G, ch_T, nb_0, nb_1, zb_G, d_T, d_F, d_eT, d_eF, b2i_t, b2i_f, tn_nI, fa_lit, fa_litL, m1_e, nI_add, pk_mul, pk_sub, nI_leI, nI_ltI, nI_eq, le_T, le_F, lt_T, lt_F, eq_T, eq_F, if_pos, if_neg, m1_le, m1_lt', m1_gt, m1_le', m1_eq, m1_qe, b2i_eq0, in_N, in_n, in_I, ↓reduceIte, Bool.true_eq_false, Bool.false_eq_true, reduceCtorEq, decide_eq_true_eq, decide_eq_false_iff_not, Nat.not_lt, Nat.not_le, not_true_eq_false, not_false_eq_true, true_and, and_true, and_self, false_and, and_false, true_or, or_true, false_or, or_false, f_X10_numberOf, f_X10_numberOf_18]
theorem c_plainN (T : TX h x tp n) (hn : n ≤ 1600) {s : Nat} (sn : s < n) (hD : isD (tp s) = true) (k2 : hI h (x + 105) 2 = nI 2) (v3 : hI h (x + 105) 3 = nI s) (v4 : hI h (x + 105) 4 = nI (rn isD tp n s)) : f_X7_plainValue (x + 105) h = some (nI (nvF tp (min 4 (rn isD tp n s - s)) s 0), h) := by
  obtain ⟨S, hb, r0, l1⟩ := T
  have rl := rn_le (p := isD) (tp := tp) (n := n) (q := s) (by omega)
  have rg := rn_gt (p := isD) sn hD
  have inD : ∀ j, s ≤ j → j < rn isD tp n s → hI h (x + 1) j = nI (tp j) ∧ 48 ≤ tp j ∧ tp j ≤ 57 := fun j h1 h2 => by
    have q := rn_in (p := isD) (tp := tp) (n := n) h1 h2
    unfold isD at q
    simp only [Bool.and_eq_true, decide_eq_true_eq] at q
    exact ⟨by rw [hb _ (by omega), sb_lo _ (by omega)], q.1, q.2⟩
  generalize rn isD tp n s = e at *
  have L : ∀ (d i k v : Nat), i + d = s + min 4 (e - s) → s ≤ i → d < k → v < 10 ^ (i - s) → f_X7_plainValue_44 k (x + 105) (nI v) (nI i) h = some (nI (nvF tp d i v), h) := by
    intro d
    induction d with
    | zero =>
      intro i k v hi hs hk hv
      obtain ⟨k, rfl⟩ : ∃ m, k = m + 1 := ⟨k - 1, by omega⟩
      show _ = some (nI v, h)
      by_cases c : e ≤ i
      · simp (disch := omega) only [nm, bd_s, ko_K, ka_K, koK_t, kaK_t, kr_s, kn_s, kn_n, hK_sI, hR_sI, hK_sL, hR_sL, hI_sL, hL_sI, hL_sL, hI_sI, hN_sI, hN_sL, ch_G, ch_T, nb_0, nb_1, zb_G, d_T, d_F, d_eT, d_eF, b2i_t, b2i_f, tn_nI, fa_lit, fa_litL, m1_e, nI_add, pk_mul, pk_sub, nI_leI, nI_ltI, nI_eq, le_T, le_F, lt_T, lt_F, eq_T, eq_F, if_pos, if_neg, m1_le, m1_lt', m1_gt, m1_le', m1_eq, m1_qe, b2i_eq0, in_N, in_n, in_I, ↓reduceIte, Bool.true_eq_false, Bool.false_eq_true, reduceCtorEq, decide_eq_true_eq, decide_eq_false_iff_not, Nat.not_lt, Nat.not_le, not_true_eq_false, not_false_eq_true, true_and, and_true, and_self, false_and, and_false, true_or, or_true, false_or, or_false, f_X7_plainValue_44, b_X7_plainValue_44, f_X7_plainValue_83, S.k105, v4]
      · have c2 : s + 4 ≤ i := by omega
        simp (disch := omega) only [nm, bd_s, ko_K, ka_K, koK_t, kaK_t, kr_s, kn_s, kn_n, hK_sI, hR_sI, hK_sL, hR_sL, hI_sL, hL_sI, hL_sL, hI_sI, hN_sI, hN_sL, ch_G, ch_T, nb_0, nb_1, zb_G, d_T, d_F, d_eT, d_eF, b2i_t, b2i_f, tn_nI, fa_lit, fa_litL, m1_e, nI_add, pk_mul, pk_sub, nI_leI, nI_ltI, nI_eq, le_T, le_F, lt_T, lt_F, eq_T, eq_F, if_pos, if_neg, m1_le, m1_lt', m1_gt, m1_le', m1_eq, m1_qe, b2i_eq0, in_N, in_n, in_I, ↓reduceIte, Bool.true_eq_false, Bool.false_eq_true, reduceCtorEq, decide_eq_true_eq, decide_eq_false_iff_not, Nat.not_lt, Nat.not_le, not_true_eq_false, not_false_eq_true, true_and, and_true, and_self, false_and, and_false, true_or, or_true, false_or, or_false, f_X7_plainValue_44, b_X7_plainValue_44, f_X7_plainValue_83, S.k105, v4, v3]
    | succ d ih =>
      intro i k v hi hs hk hv
      obtain ⟨k, rfl⟩ : ∃ m, k = m + 1 := ⟨k - 1, by omega⟩
      obtain ⟨t1, t2, t3⟩ := inD i hs (by omega)
      have p4 : 10 ^ (i - s) ≤ 10 ^ 3 := Nat.pow_le_pow_right (by omega) (by omega)
      have nx := ih (i + 1) k (10 * v + (tp i - 48)) (by omega) (by omega) (by omega) (by
        rw [show i + 1 - s = (i - s) + 1 by omega, Nat.pow_succ]; omega)
      have e1 : 10 * v + tp i - 48 = 10 * v + (tp i - 48) := by omega
      show _ = some (nI (nvF tp d (i + 1) (10 * v + (tp i - 48))), h)
      rw [← nx]
      simp (disch := omega) only [nm, bd_s, ko_K, ka_K, koK_t, kaK_t, kr_s, kn_s, kn_n, hK_sI, hR_sI, hK_sL, hR_sL, hI_sL, hL_sI, hL_sL, hI_sI, hN_sI, hN_sL, ch_G, ch_T, nb_0, nb_1, zb_G, d_T, d_F, d_eT, d_eF, b2i_t, b2i_f, tn_nI, fa_lit, fa_litL, m1_e, nI_add, pk_mul, pk_sub, nI_leI, nI_ltI, nI_eq, le_T, le_F, lt_T, lt_F, eq_T, eq_F, if_pos, if_neg, m1_le, m1_lt', m1_gt, m1_le', m1_eq, m1_qe, b2i_eq0, in_N, in_n, in_I, ↓reduceIte, Bool.true_eq_false, Bool.false_eq_true, reduceCtorEq, decide_eq_true_eq, decide_eq_false_iff_not, Nat.not_lt, Nat.not_le, not_true_eq_false, not_false_eq_true, true_and, and_true, and_self, false_and, and_false, true_or, or_true, false_or, or_false, f_X7_plainValue_44, b_X7_plainValue_44, ↓nm, S.k105, v4, v3, r0, S.k1, t1, e1]
  have L0 := L (min 4 (e - s)) s FU 0 rfl (by omega) (FU_gt (by omega)) (by simp)
  simp (disch := omega) only [nm, bd_s, ko_K, ka_K, koK_t, kaK_t, kr_s, kn_s, kn_n, hK_sI, hR_sI, hK_sL, hR_sL, hI_sL, hL_sI, hL_sL, hI_sI, hN_sI, hN_sL, ch_G, ch_T, nb_0, nb_1, zb_G, d_T, d_F, d_eT, d_eF, b2i_t, b2i_f, tn_nI, fa_lit, fa_litL, m1_e, nI_add, pk_mul, pk_sub, nI_leI, nI_ltI, nI_eq, le_T, le_F, lt_T, lt_F, eq_T, eq_F, if_pos, if_neg, m1_le, m1_lt', m1_gt, m1_le', m1_eq, m1_qe, b2i_eq0, in_N, in_n, in_I, ↓reduceIte, Bool.true_eq_false, Bool.false_eq_true, reduceCtorEq, decide_eq_true_eq, decide_eq_false_iff_not, Nat.not_lt, Nat.not_le, not_true_eq_false, not_false_eq_true, true_and, and_true, and_self, false_and, and_false, true_or, or_true, false_or, or_false, f_X7_plainValue, S.k105, k2, v3, L0]
theorem c_plainS (T : TX h x tp n) (tb : ∀ j, tp j ≤ 255) (hn : n ≤ 1600) {s k : Nat} (sn : s ≤ n) (k2 : hI h (x + 105) 2 = nI k) (hk : k ≤ 5) (hk2 : ¬ k = 2) (v3 : hI h (x + 105) 3 = nI s) : f_X7_plainValue (x + 105) h = some (if s < n then nI (tp s) else -nI 1, h) := by
  obtain ⟨S, hb, r0, l1⟩ := T
  by_cases c : s < n
  · rw [if_pos c]
    have v := hb s (by omega)
    have e := sb_255 (tp s) (by have := tb s; omega)
    rw [← v] at e
    simp (disch := omega) only [nm, bd_s, ko_K, ka_K, koK_t, kaK_t, kr_s, kn_s, kn_n, hK_sI, hR_sI, hK_sL, hR_sL, hI_sL, hL_sI, hL_sL, hI_sI, hN_sI, hN_sL, ch_G, ch_T, nb_0, nb_1, zb_G, d_T, d_F, d_eT, d_eF, b2i_t, b2i_f, tn_nI, fa_lit, fa_litL, m1_e, nI_add, pk_mul, pk_sub, nI_leI, nI_ltI, nI_eq, le_T, le_F, lt_T, lt_F, eq_T, eq_F, if_pos, if_neg, m1_le, m1_lt', m1_gt, m1_le', m1_eq, m1_qe, b2i_eq0, in_N, in_n, in_I, ↓reduceIte, Bool.true_eq_false, Bool.false_eq_true, reduceCtorEq, decide_eq_true_eq, decide_eq_false_iff_not, Nat.not_lt, Nat.not_le, not_true_eq_false, not_false_eq_true, true_and, and_true, and_self, false_and, and_false, true_or, or_true, false_or, or_false, f_X7_plainValue, f_X7_plainValue_36, S.k105, k2, v3, l1, r0, S.k1, e]
  · rw [if_neg c]
    simp (disch := omega) only [nm, bd_s, ko_K, ka_K, koK_t, kaK_t, kr_s, kn_s, kn_n, hK_sI, hR_sI, hK_sL, hR_sL, hI_sL, hL_sI, hL_sL, hI_sI, hN_sI, hN_sL, ch_G, ch_T, nb_0, nb_1, zb_G, d_T, d_F, d_eT, d_eF, b2i_t, b2i_f, tn_nI, fa_lit, fa_litL, m1_e, nI_add, pk_mul, pk_sub, nI_leI, nI_ltI, nI_eq, le_T, le_F, lt_T, lt_F, eq_T, eq_F, if_pos, if_neg, m1_le, m1_lt', m1_gt, m1_le', m1_eq, m1_qe, b2i_eq0, in_N, in_n, in_I, ↓reduceIte, Bool.true_eq_false, Bool.false_eq_true, reduceCtorEq, decide_eq_true_eq, decide_eq_false_iff_not, Nat.not_lt, Nat.not_le, not_true_eq_false, not_false_eq_true, true_and, and_true, and_self, false_and, and_false, true_or, or_true, false_or, or_false, f_X7_plainValue, f_X7_plainValue_36, S.k105, k2, v3, l1]
end Nx
