/-! THE TEXTS: the reference's words, signs, numbers -/
theorem fnd_nn {p : Nat → Bool} : ∀ (k j : Nat), fnd p k j = none → ∀ m, j ≤ m → m < j + k → p m = false := by
  intro k
  induction k with
  | zero => intro j _ m h1 h2; omega
  | succ k ih =>
    intro j hz m h1 h2
    unfold fnd at hz
    split at hz
    · cases hz
    · rename_i pj
      by_cases e : m = j
      · rw [e]; cases y : p j with
        | false => rfl
        | true => exact absurd y pj
      · exact ih (j + 1) hz m (by omega) (by omega)
theorem fnd_na {p : Nat → Bool} : ∀ (k j : Nat), (∀ m, j ≤ m → m < j + k → p m = false) → fnd p k j = none := by
  intro k
  induction k with
  | zero => intro j _; rfl
  | succ k ih =>
    intro j h
    unfold fnd
    rw [h j (by omega) (by omega), if_neg (by decide)]
    exact ih (j + 1) (fun m h1 h2 => h m (by omega) (by omega))
theorem getD_2 {A : List Nat} {j d e : Nat} (h : j < A.length) : A.getD j d = A.getD j e := by
  rw [List.getD_eq_getElem?_getD, List.getD_eq_getElem?_getD, List.getElem?_eq_getElem h]; rfl
theorem w_eq {tp : Nat → Nat} {i s l : Nat} (hl : l = (WD i).length) : (fnd (fun j => decide (¬ tp (s + j) = (WD i).getD j 0)) (WD i).length 0).isNone = decide (WD i = sub tp s l) := by
  by_cases c : WD i = sub tp s l
  · rw [decide_eq_true c, fnd_na _ _ (fun m _ hm => by
      rw [decide_eq_false]
      have := sub_get tp l s m (by omega)
      rw [← c] at this
      simpa using this.symm)]
    rfl
  · rw [decide_eq_false c]
    cases q : fnd (fun j => decide (¬ tp (s + j) = (WD i).getD j 0)) (WD i).length 0 with
    | some j => rfl
    | none =>
      refine absurd (sub_eq l s (WD i) hl.symm (fun j hj => ?_)) c
      have := fnd_nn _ _ q j (by omega) (by omega)
      have := of_decide_eq_false this
      rw [Decidable.not_not] at this
      rw [getD_2 (e := 0) (by omega), this]
section Rg
variable {h : aH} {x n : Nat} {tp : Nat → Nat} {σ : tyT}
theorem m_letter {v : Nat} (hv : v ≤ 255) : f_X12_isLetter (nI v) h = some (b2i (isL v), h) := by
  unfold isL
  by_cases c1 : 97 ≤ v
  · by_cases c2 : v ≤ 122
    · rw [decide_eq_true c1, decide_eq_true c2]
      simp (disch := omega) only [nm, bd_s, ko_K, ka_K, koK_t, kaK_t, kr_s, kn_s, kn_n, hK_sI, hR_sI, hK_sL, hR_sL, hI_sL, hL_sI, hL_sL, hI_sI, hN_sI, hN_sL, ch_G, ch_T, nb_0, nb_1, zb_G, d_T, d_F, d_eT, d_eF, b2i_t, b2i_f, tn_nI, fa_lit, fa_litL, m1_e, nI_add, pk_mul, pk_sub, nI_leI, nI_ltI, nI_eq, le_T, le_F, lt_T, lt_F, eq_T, eq_F, if_pos, if_neg, m1_le, m1_lt', m1_gt, m1_le', m1_eq, m1_qe, b2i_eq0, in_N, in_n, in_I, ↓reduceIte, Bool.true_eq_false, Bool.false_eq_true, reduceCtorEq, decide_eq_true_eq, decide_eq_false_iff_not, Nat.not_lt, Nat.not_le, not_true_eq_false, not_false_eq_true, true_and, and_true, and_self, false_and, and_false, true_or, or_true, false_or, or_false, f_X12_isLetter_17, f_X12_isLetter_16, f_X12_isLetter]; rfl
    · rw [decide_eq_false c2, Bool.and_false, b2i_f]
      simp (disch := omega) only [nm, bd_s, ko_K, ka_K, koK_t, kaK_t, kr_s, kn_s, kn_n, hK_sI, hR_sI, hK_sL, hR_sL, hI_sL, hL_sI, hL_sL, hI_sI, hN_sI, hN_sL, ch_G, ch_T, nb_0, nb_1, zb_G, d_T, d_F, d_eT, d_eF, b2i_t, b2i_f, tn_nI, fa_lit, fa_litL, m1_e, nI_add, pk_mul, pk_sub, nI_leI, nI_ltI, nI_eq, le_T, le_F, lt_T, lt_F, eq_T, eq_F, if_pos, if_neg, m1_le, m1_lt', m1_gt, m1_le', m1_eq, m1_qe, b2i_eq0, in_N, in_n, in_I, ↓reduceIte, Bool.true_eq_false, Bool.false_eq_true, reduceCtorEq, decide_eq_true_eq, decide_eq_false_iff_not, Nat.not_lt, Nat.not_le, not_true_eq_false, not_false_eq_true, true_and, and_true, and_self, false_and, and_false, true_or, or_true, false_or, or_false, f_X12_isLetter_17, f_X12_isLetter_16, f_X12_isLetter]
  · rw [decide_eq_false c1, Bool.false_and, b2i_f]
    simp (disch := omega) only [nm, bd_s, ko_K, ka_K, koK_t, kaK_t, kr_s, kn_s, kn_n, hK_sI, hR_sI, hK_sL, hR_sL, hI_sL, hL_sI, hL_sL, hI_sI, hN_sI, hN_sL, ch_G, ch_T, nb_0, nb_1, zb_G, d_T, d_F, d_eT, d_eF, b2i_t, b2i_f, tn_nI, fa_lit, fa_litL, m1_e, nI_add, pk_mul, pk_sub, nI_leI, nI_ltI, nI_eq, le_T, le_F, lt_T, lt_F, eq_T, eq_F, if_pos, if_neg, m1_le, m1_lt', m1_gt, m1_le', m1_eq, m1_qe, b2i_eq0, in_N, in_n, in_I, ↓reduceIte, Bool.true_eq_false, Bool.false_eq_true, reduceCtorEq, decide_eq_true_eq, decide_eq_false_iff_not, Nat.not_lt, Nat.not_le, not_true_eq_false, not_false_eq_true, true_and, and_true, and_self, false_and, and_false, true_or, or_true, false_or, or_false, f_X12_isLetter_17, f_X12_isLetter_16, f_X12_isLetter]
theorem m_digit {v : Nat} (hv : v ≤ 255) : f_X12_isDigit (nI v) h = some (b2i (isD v), h) := by
  unfold isD
  by_cases c1 : 48 ≤ v
  · by_cases c2 : v ≤ 57
    · rw [decide_eq_true c1, decide_eq_true c2]
      simp (disch := omega) only [nm, bd_s, ko_K, ka_K, koK_t, kaK_t, kr_s, kn_s, kn_n, hK_sI, hR_sI, hK_sL, hR_sL, hI_sL, hL_sI, hL_sL, hI_sI, hN_sI, hN_sL, ch_G, ch_T, nb_0, nb_1, zb_G, d_T, d_F, d_eT, d_eF, b2i_t, b2i_f, tn_nI, fa_lit, fa_litL, m1_e, nI_add, pk_mul, pk_sub, nI_leI, nI_ltI, nI_eq, le_T, le_F, lt_T, lt_F, eq_T, eq_F, if_pos, if_neg, m1_le, m1_lt', m1_gt, m1_le', m1_eq, m1_qe, b2i_eq0, in_N, in_n, in_I, ↓reduceIte, Bool.true_eq_false, Bool.false_eq_true, reduceCtorEq, decide_eq_true_eq, decide_eq_false_iff_not, Nat.not_lt, Nat.not_le, not_true_eq_false, not_false_eq_true, true_and, and_true, and_self, false_and, and_false, true_or, or_true, false_or, or_false, f_X12_isDigit_17, f_X12_isDigit_16, f_X12_isDigit]; rfl
    · rw [decide_eq_false c2, Bool.and_false, b2i_f]
      simp (disch := omega) only [nm, bd_s, ko_K, ka_K, koK_t, kaK_t, kr_s, kn_s, kn_n, hK_sI, hR_sI, hK_sL, hR_sL, hI_sL, hL_sI, hL_sL, hI_sI, hN_sI, hN_sL, ch_G, ch_T, nb_0, nb_1, zb_G, d_T, d_F, d_eT, d_eF, b2i_t, b2i_f, tn_nI, fa_lit, fa_litL, m1_e, nI_add, pk_mul, pk_sub, nI_leI, nI_ltI, nI_eq, le_T, le_F, lt_T, lt_F, eq_T, eq_F, if_pos, if_neg, m1_le, m1_lt', m1_gt, m1_le', m1_eq, m1_qe, b2i_eq0, in_N, in_n, in_I, ↓reduceIte, Bool.true_eq_false, Bool.false_eq_true, reduceCtorEq, decide_eq_true_eq, decide_eq_false_iff_not, Nat.not_lt, Nat.not_le, not_true_eq_false, not_false_eq_true, true_and, and_true, and_self, false_and, and_false, true_or, or_true, false_or, or_false, f_X12_isDigit_17, f_X12_isDigit_16, f_X12_isDigit]
  · rw [decide_eq_false c1, Bool.false_and, b2i_f]
    simp (disch := omega) only [nm, bd_s, ko_K, ka_K, koK_t, kaK_t, kr_s, kn_s, kn_n, hK_sI, hR_sI, hK_sL, hR_sL, hI_sL, hL_sI, hL_sL, hI_sI, hN_sI, hN_sL, ch_G, ch_T, nb_0, nb_1, zb_G, d_T, d_F, d_eT, d_eF, b2i_t, b2i_f, tn_nI, fa_lit, fa_litL, m1_e, nI_add, pk_mul, pk_sub, nI_leI, nI_ltI, nI_eq, le_T, le_F, lt_T, lt_F, eq_T, eq_F, if_pos, if_neg, m1_le, m1_lt', m1_gt, m1_le', m1_eq, m1_qe, b2i_eq0, in_N, in_n, in_I, ↓reduceIte, Bool.true_eq_false, Bool.false_eq_true, reduceCtorEq, decide_eq_true_eq, decide_eq_false_iff_not, Nat.not_lt, Nat.not_le, not_true_eq_false, not_false_eq_true, true_and, and_true, and_self, false_and, and_false, true_or, or_true, false_or, or_false, f_X12_isDigit_17, f_X12_isDigit_16, f_X12_isDigit]
theorem ED.eq (T : RA h x tp n σ) (hn : n ≤ 1600) : (hI h (x + 107) 2 = hI h (x + 107) 4) = (σ.2 = true) := by
  rw [T.2.2.2.1]
  have sn := T.2.1.1
  rcases T.2.2.2.2.2 with ⟨a1, a2⟩ | ⟨a1, a2⟩
  · rw [a2, a1]; simp
  · rw [a1]
    rcases a2 with a2 | ⟨e, b1, b2, b3⟩
    · rw [a2]; exact propext ⟨fun z => by rw [m1_qe σ.1 (by omega)] at z; exact z.elim, fun z => by cases z⟩
    · rw [b1]; exact propext ⟨fun z => absurd ((nI_eq (by omega) (by omega)).mp z).symm b3, fun z => by cases z⟩
theorem m_isHere (T : RA h x tp n σ) (tb : ∀ j, tp j ≤ 255) (hn : n ≤ 1600) {A i : Nat} (kA : hK h A = some (.inr (.char, (WD i).length))) (hi : i < 31) (cA : ∀ j, j < (WD i).length → hI h A j = nI ((WD i).getD j 0)) : f_X12_isHere (x + 107) A h = some (b2i (isW tp n σ i), h) := by
  have lk := m_lookA T tb hn
  have S := T.1.1
  have bad := T.2.2.1
  have v2 := T.2.2.2.1
  have l3 := T.1.2.2.2
  have sn := T.2.1.1
  have eq := ED.eq T hn
  have w8 := (WD_ok i hi).1
  unfold f_X12_isHere
  rw [ko_t S.k, bad, if_pos (show nI 0 = (0 : Int32) from rfl), bd_t lk]
  unfold isW
  by_cases c1 : σ.1 < n
  · rw [decide_eq_true c1, Bool.true_and, show btT tp n σ = nI (tp σ.1) from if_pos c1, bd_t (m_letter (tb _))]
    by_cases c2 : isL (tp σ.1) = true
    · rw [c2, if_neg (show ¬ b2i true = (0 : Int32) by decide), ko_t S.k, Bool.true_and]
      by_cases c3 : σ.2 = true
      · rw [if_pos (by rw [eq]; exact c3), c3]
        rfl
      · rw [if_neg (by rw [eq]; exact c3), show σ.2 = false by cases y : σ.2 with | false => rfl | true => exact absurd y c3, v2]
        simp only [nm, Bool.not_false, Bool.true_and]
        have rg := rn_ge (p := isL) (tp := tp) (n := n) σ.1
        have rl := rn_le (p := isL) (tp := tp) (n := n) (q := σ.1) (by omega)
        -- to the end of the letters
        have run : ∀ (d q k : Nat), n - q = d → q ≤ n → d < k → f_X12_isHere_35 k (x + 107) A (nI q) h = f_X12_isHere_61 (x + 107) A (nI (rn isL tp n q)) h := by
          intro d
          induction d with
          | zero =>
            intro q k hd hq hk
            obtain ⟨k, rfl⟩ : ∃ j, k = j + 1 := ⟨k - 1, by omega⟩
            have hq : q = n := by omega
            subst hq
            rw [rn_f (by omega)]
            simp (disch := omega) only [nm, bd_s, ko_K, ka_K, koK_t, kaK_t, kr_s, kn_s, kn_n, hK_sI, hR_sI, hK_sL, hR_sL, hI_sL, hL_sI, hL_sL, hI_sI, hN_sI, hN_sL, ch_G, ch_T, nb_0, nb_1, zb_G, d_T, d_F, d_eT, d_eF, b2i_t, b2i_f, tn_nI, fa_lit, fa_litL, m1_e, nI_add, pk_mul, pk_sub, nI_leI, nI_ltI, nI_eq, le_T, le_F, lt_T, lt_F, eq_T, eq_F, if_pos, if_neg, m1_le, m1_lt', m1_gt, m1_le', m1_eq, m1_qe, b2i_eq0, in_N, in_n, in_I, ↓reduceIte, Bool.true_eq_false, Bool.false_eq_true, reduceCtorEq, decide_eq_true_eq, decide_eq_false_iff_not, Nat.not_lt, Nat.not_le, not_true_eq_false, not_false_eq_true, true_and, and_true, and_self, false_and, and_false, true_or, or_true, false_or, or_false, f_X12_isHere_35, b_X12_isHere_35, S.k, l3]
          | succ d ih =>
            intro q k hd hq hk
            obtain ⟨k, rfl⟩ : ∃ j, k = j + 1 := ⟨k - 1, by omega⟩
            have b := T.1.2.1 q (by omega)
            have le := m_letter (h := h) (tb q)
            by_cases c : isL (tp q) = true
            · rw [rn_t (by omega) c, ← ih (q + 1) k (by omega) (by omega) (by omega)]
              rw [c, b2i_t] at le
              simp (disch := omega) only [nm, bd_s, ko_K, ka_K, koK_t, kaK_t, kr_s, kn_s, kn_n, hK_sI, hR_sI, hK_sL, hR_sL, hI_sL, hL_sI, hL_sL, hI_sI, hN_sI, hN_sL, ch_G, ch_T, nb_0, nb_1, zb_G, d_T, d_F, d_eT, d_eF, b2i_t, b2i_f, tn_nI, fa_lit, fa_litL, m1_e, nI_add, pk_mul, pk_sub, nI_leI, nI_ltI, nI_eq, le_T, le_F, lt_T, lt_F, eq_T, eq_F, if_pos, if_neg, m1_le, m1_lt', m1_gt, m1_le', m1_eq, m1_qe, b2i_eq0, in_N, in_n, in_I, ↓reduceIte, Bool.true_eq_false, Bool.false_eq_true, reduceCtorEq, decide_eq_true_eq, decide_eq_false_iff_not, Nat.not_lt, Nat.not_le, not_true_eq_false, not_false_eq_true, true_and, and_true, and_self, false_and, and_false, true_or, or_true, false_or, or_false, f_X12_isHere_35, b_X12_isHere_35, ↓nm, ↓ko_t S.k, l3, ↓kr_t S.r0, ↓ka_t S.k0, b, le]
            · rw [rn_f (fun z => c z.2)]
              rw [show isL (tp q) = false by cases y : isL (tp q) with | false => rfl | true => exact absurd y c, b2i_f] at le
              simp (disch := omega) only [nm, bd_s, ko_K, ka_K, koK_t, kaK_t, kr_s, kn_s, kn_n, hK_sI, hR_sI, hK_sL, hR_sL, hI_sL, hL_sI, hL_sL, hI_sI, hN_sI, hN_sL, ch_G, ch_T, nb_0, nb_1, zb_G, d_T, d_F, d_eT, d_eF, b2i_t, b2i_f, tn_nI, fa_lit, fa_litL, m1_e, nI_add, pk_mul, pk_sub, nI_leI, nI_ltI, nI_eq, le_T, le_F, lt_T, lt_F, eq_T, eq_F, if_pos, if_neg, m1_le, m1_lt', m1_gt, m1_le', m1_eq, m1_qe, b2i_eq0, in_N, in_n, in_I, ↓reduceIte, Bool.true_eq_false, Bool.false_eq_true, reduceCtorEq, decide_eq_true_eq, decide_eq_false_iff_not, Nat.not_lt, Nat.not_le, not_true_eq_false, not_false_eq_true, true_and, and_true, and_self, false_and, and_false, true_or, or_true, false_or, or_false, f_X12_isHere_35, b_X12_isHere_35, ↓nm, ↓ko_t S.k, l3, ↓kr_t S.r0, ↓ka_t S.k0, b, le]
        rw [run (n - σ.1) σ.1 FU rfl (by omega) (FU_gt (by omega))]
        unfold f_X12_isHere_61
        rw [ko_t S.k, ka_t kA, v2, pk_sub rg, show Int32.ofNat (WD i).length = nI (WD i).length from rfl]
        by_cases c4 : rn isL tp n σ.1 - σ.1 = (WD i).length
        · rw [if_pos (by rw [c4]), ← w_eq c4]
          have L := loop_fnd (fun m j => f_X12_isHere_76 m (x + 107) A (nI j) h) (WD i).length (fun j => decide (¬ tp (σ.1 + j) = (WD i).getD j 0)) (fun _ => (nI 0, h)) (nI 1, h) (fun m j hj => ?_) (fun m => ?_) (WD i).length 0 FU (by omega) (FU_gt (by omega))
          · refine Eq.trans L ?_
            cases fnd (fun j => decide (¬ tp (σ.1 + j) = (WD i).getD j 0)) (WD i).length 0 <;> rfl
          · have b := T.1.2.1 (σ.1 + j) (by omega)
            have w := cA j hj
            have t := tb (σ.1 + j)
            have wb := WD_b i hi j (by omega)
            rw [getD_2 (e := 0) hj] at wb
            have e1 : Int32.ofNat (WD i).length = nI (WD i).length := rfl
            generalize tp (σ.1 + j) = U at *
            generalize (WD i).getD j 0 = V at *
            by_cases c : U = V
            · rw [decide_eq_false (by simpa using c), if_neg (by decide)]
              rw [c] at b
              simp (disch := omega) only [nm, bd_s, ko_K, ka_K, koK_t, kaK_t, kr_s, kn_s, kn_n, hK_sI, hR_sI, hK_sL, hR_sL, hI_sL, hL_sI, hL_sL, hI_sI, hN_sI, hN_sL, ch_G, ch_T, nb_0, nb_1, zb_G, d_T, d_F, d_eT, d_eF, b2i_t, b2i_f, tn_nI, fa_lit, fa_litL, m1_e, nI_add, pk_mul, pk_sub, nI_leI, nI_ltI, nI_eq, le_T, le_F, lt_T, lt_F, eq_T, eq_F, if_pos, if_neg, m1_le, m1_lt', m1_gt, m1_le', m1_eq, m1_qe, b2i_eq0, in_N, in_n, in_I, ↓reduceIte, Bool.true_eq_false, Bool.false_eq_true, reduceCtorEq, decide_eq_true_eq, decide_eq_false_iff_not, Nat.not_lt, Nat.not_le, not_true_eq_false, not_false_eq_true, true_and, and_true, and_self, false_and, and_false, true_or, or_true, false_or, or_false, f_X12_isHere_76, b_X12_isHere_76, ↓nm, ↓ka_t kA, e1, ↓ko_t S.k, ↓kr_t S.r0, ↓ka_t S.k0, v2, b, w]
            · rw [decide_eq_true c, if_pos rfl]
              simp (disch := omega) only [nm, bd_s, ko_K, ka_K, koK_t, kaK_t, kr_s, kn_s, kn_n, hK_sI, hR_sI, hK_sL, hR_sL, hI_sL, hL_sI, hL_sL, hI_sI, hN_sI, hN_sL, ch_G, ch_T, nb_0, nb_1, zb_G, d_T, d_F, d_eT, d_eF, b2i_t, b2i_f, tn_nI, fa_lit, fa_litL, m1_e, nI_add, pk_mul, pk_sub, nI_leI, nI_ltI, nI_eq, le_T, le_F, lt_T, lt_F, eq_T, eq_F, if_pos, if_neg, m1_le, m1_lt', m1_gt, m1_le', m1_eq, m1_qe, b2i_eq0, in_N, in_n, in_I, ↓reduceIte, Bool.true_eq_false, Bool.false_eq_true, reduceCtorEq, decide_eq_true_eq, decide_eq_false_iff_not, Nat.not_lt, Nat.not_le, not_true_eq_false, not_false_eq_true, true_and, and_true, and_self, false_and, and_false, true_or, or_true, false_or, or_false, f_X12_isHere_76, b_X12_isHere_76, ↓nm, ↓ka_t kA, e1, ↓ko_t S.k, ↓kr_t S.r0, ↓ka_t S.k0, v2, b, w]
          · have e1 : Int32.ofNat (WD i).length = nI (WD i).length := rfl
            simp (disch := omega) only [nm, bd_s, ko_K, ka_K, koK_t, kaK_t, kr_s, kn_s, kn_n, hK_sI, hR_sI, hK_sL, hR_sL, hI_sL, hL_sI, hL_sL, hI_sI, hN_sI, hN_sL, ch_G, ch_T, nb_0, nb_1, zb_G, d_T, d_F, d_eT, d_eF, b2i_t, b2i_f, tn_nI, fa_lit, fa_litL, m1_e, nI_add, pk_mul, pk_sub, nI_leI, nI_ltI, nI_eq, le_T, le_F, lt_T, lt_F, eq_T, eq_F, if_pos, if_neg, m1_le, m1_lt', m1_gt, m1_le', m1_eq, m1_qe, b2i_eq0, in_N, in_n, in_I, ↓reduceIte, Bool.true_eq_false, Bool.false_eq_true, reduceCtorEq, decide_eq_true_eq, decide_eq_false_iff_not, Nat.not_lt, Nat.not_le, not_true_eq_false, not_false_eq_true, true_and, and_true, and_self, false_and, and_false, true_or, or_true, false_or, or_false, f_X12_isHere_76, b_X12_isHere_76, ↓ka_t kA, e1]
        · rw [if_neg (fun z => c4 ((nI_eq (by omega) (by omega)).mp z)), decide_eq_false (fun z => c4 (by rw [z, sub_len]))]
          rfl
    · rw [show isL (tp σ.1) = false by cases y : isL (tp σ.1) with | false => rfl | true => exact absurd y c2, if_pos (show b2i false = (0 : Int32) by decide)]
      rfl
  · rw [decide_eq_false c1, show btT tp n σ = -nI 1 from if_neg c1]
    have le : f_X12_isLetter (-nI 1) h = some (nI 0, h) := by simp (disch := omega) only [nm, bd_s, ko_K, ka_K, koK_t, kaK_t, kr_s, kn_s, kn_n, hK_sI, hR_sI, hK_sL, hR_sL, hI_sL, hL_sI, hL_sL, hI_sI, hN_sI, hN_sL, ch_G, ch_T, nb_0, nb_1, zb_G, d_T, d_F, d_eT, d_eF, b2i_t, b2i_f, tn_nI, fa_lit, fa_litL, m1_e, nI_add, pk_mul, pk_sub, nI_leI, nI_ltI, nI_eq, le_T, le_F, lt_T, lt_F, eq_T, eq_F, if_pos, if_neg, m1_le, m1_lt', m1_gt, m1_le', m1_eq, m1_qe, b2i_eq0, in_N, in_n, in_I, ↓reduceIte, Bool.true_eq_false, Bool.false_eq_true, reduceCtorEq, decide_eq_true_eq, decide_eq_false_iff_not, Nat.not_lt, Nat.not_le, not_true_eq_false, not_false_eq_true, true_and, and_true, and_self, false_and, and_false, true_or, or_true, false_or, or_false, f_X12_isLetter_17, f_X12_isLetter_16, f_X12_isLetter]
    rw [bd_t le, if_pos (show nI 0 = (0 : Int32) from rfl)]
    rfl
/-- the words of machines, of questions -/
theorem m_hereM (T : RA h x tp n σ) (tb : ∀ j, tp j ≤ 255) (hn : n ≤ 1600) {i : Nat} (hi : i < 25) : f_X12_isHere (x + 107) (x + 107 + 3 + i) h = some (b2i (isW tp n σ i), h) :=
  m_isHere T tb hn (T.1.1.mw i hi).2 (by omega) (T.1.2.2.1 i hi).1
theorem askW_lt : ∀ i, i < 25 → askW i < 31 := by decide
theorem m_hereA (T : RA h x tp n σ) (tb : ∀ j, tp j ≤ 255) (hn : n ≤ 1600) {i : Nat} (hi : i < 25) : f_X12_isHere (x + 107) (x + 107 + 39 + i) h = some (b2i (isW tp n σ (askW i)), h) :=
  m_isHere T tb hn (T.1.1.aw i hi).2 (askW_lt i hi) (T.1.2.2.1 i hi).2
/-- a word is taken -/
def tkH (h : aH) (x e : Nat) : aH := sI (sI h (x + 107) 2 (nI e)) (x + 107) 4 (nI e)
theorem RA.w {i : Nat} (T : RA h x tp n σ) (z : isW tp n σ i = true) : RT (tkH h x (rn isL tp n σ.1)) x tp n (nW tp n σ) := by
  obtain ⟨q1, q2, q3, q4⟩ := isW_t z
  have rl := rn_le (p := isL) (tp := tp) (n := n) (q := σ.1) (by omega)
  refine ⟨(T.1.s (by omega) _).s (by omega) _, (nW_ok z).1, ?_, rn isL tp n σ.1, ?_, rn_ge _, rfl, ?_⟩
  · unfold tkH; rw [hI_sI, if_neg (by omega), hI_sI, if_neg (by omega)]; exact T.2.2.1
  · unfold tkH; rw [hI_sI, if_neg (by omega), hI_sI, if_pos ⟨rfl, rfl⟩]
  · refine ⟨by unfold tkH; rw [hI_sI, if_neg (by omega), hI_sI, if_neg (by omega)]; exact T.2.2.2.2.1, ?_⟩
    have v4 : hI (tkH h x (rn isL tp n σ.1)) (x + 107) 4 = nI (rn isL tp n σ.1) := by unfold tkH; rw [hI_sI, if_pos ⟨rfl, rfl⟩]
    by_cases c : sk tp n (rn isL tp n σ.1) = rn isL tp n σ.1
    · refine Or.inl ⟨decide_eq_true c, ?_⟩
      rw [v4]; show _ = nI (sk tp n (rn isL tp n σ.1)); rw [c]
    · exact Or.inr ⟨decide_eq_false c, Or.inr ⟨_, v4, Nat.le_refl _, fun y => c y.symm⟩⟩
theorem qx_tk {e : Nat} : QX x h (tkH h x e) := (qx_s (by unfold QC; omega)).trans (qx_s (by unfold QC; omega))
theorem m_takes (T : RA h x tp n σ) (hn : n ≤ 1600) {A i : Nat} (kA : hK h A = some (.inr (.char, (WD i).length))) (hi : i < 31) (is : f_X12_isHere (x + 107) A h = some (b2i (isW tp n σ i), h)) : (isW tp n σ i = true → f_X12_takes (x + 107) A h = some (nI 1, tkH h x (rn isL tp n σ.1))) ∧ (isW tp n σ i = false → f_X12_takes (x + 107) A h = some (nI 0, h)) := by
  have S := T.1.1
  have v2 := T.2.2.2.1
  have sn := T.2.1.1
  refine ⟨fun z => ?_, fun z => ?_⟩
  · obtain ⟨q1, q2, q3, q4⟩ := isW_t z
    have rg := rn_ge (p := isL) (tp := tp) (n := n) σ.1
    have rl := rn_le (p := isL) (tp := tp) (n := n) (q := σ.1) (by omega)
    have len : (WD i).length = rn isL tp n σ.1 - σ.1 := by rw [q4, sub_len]
    rw [z, b2i_t] at is
    have e1 : Int32.ofNat (WD i).length = nI (WD i).length := rfl
    have e2 : σ.1 + (WD i).length = rn isL tp n σ.1 := by omega
    unfold tkH
    rw [← e2]
    generalize (WD i).length = l at *
    simp (disch := omega) only [nm, bd_s, ko_K, ka_K, koK_t, kaK_t, kr_s, kn_s, kn_n, hK_sI, hR_sI, hK_sL, hR_sL, hI_sL, hL_sI, hL_sL, hI_sI, hN_sI, hN_sL, ch_G, ch_T, nb_0, nb_1, zb_G, d_T, d_F, d_eT, d_eF, b2i_t, b2i_f, tn_nI, fa_lit, fa_litL, m1_e, nI_add, pk_mul, pk_sub, nI_leI, nI_ltI, nI_eq, le_T, le_F, lt_T, lt_F, eq_T, eq_F, if_pos, if_neg, m1_le, m1_lt', m1_gt, m1_le', m1_eq, m1_qe, b2i_eq0, in_N, in_n, in_I, ↓reduceIte, Bool.true_eq_false, Bool.false_eq_true, reduceCtorEq, decide_eq_true_eq, decide_eq_false_iff_not, Nat.not_lt, Nat.not_le, not_true_eq_false, not_false_eq_true, true_and, and_true, and_self, false_and, and_false, true_or, or_true, false_or, or_false, f_X12_takes, ↓nm, S.k, is, kA, v2, e1]
  · rw [z, b2i_f] at is
    simp (disch := omega) only [nm, bd_s, ko_K, ka_K, koK_t, kaK_t, kr_s, kn_s, kn_n, hK_sI, hR_sI, hK_sL, hR_sL, hI_sL, hL_sI, hL_sL, hI_sI, hN_sI, hN_sL, ch_G, ch_T, nb_0, nb_1, zb_G, d_T, d_F, d_eT, d_eF, b2i_t, b2i_f, tn_nI, fa_lit, fa_litL, m1_e, nI_add, pk_mul, pk_sub, nI_leI, nI_ltI, nI_eq, le_T, le_F, lt_T, lt_F, eq_T, eq_F, if_pos, if_neg, m1_le, m1_lt', m1_gt, m1_le', m1_eq, m1_qe, b2i_eq0, in_N, in_n, in_I, ↓reduceIte, Bool.true_eq_false, Bool.false_eq_true, reduceCtorEq, decide_eq_true_eq, decide_eq_false_iff_not, Nat.not_lt, Nat.not_le, not_true_eq_false, not_false_eq_true, true_and, and_true, and_self, false_and, and_false, true_or, or_true, false_or, or_false, f_X12_takes, S.k, is]
theorem m_fail (S : MS h (x + 107)) (bad : hI h (x + 107) 5 = nI 0) (k p : Nat) : f_X12_fail (x + 107) (nI k) (nI p) h = some ((), sI (sI h (x + 107) 5 (nI k)) (x + 107) 6 (nI p)) := by
  simp (disch := omega) only [nm, bd_s, ko_K, ka_K, koK_t, kaK_t, kr_s, kn_s, kn_n, hK_sI, hR_sI, hK_sL, hR_sL, hI_sL, hL_sI, hL_sL, hI_sI, hN_sI, hN_sL, ch_G, ch_T, nb_0, nb_1, zb_G, d_T, d_F, d_eT, d_eF, b2i_t, b2i_f, tn_nI, fa_lit, fa_litL, m1_e, nI_add, pk_mul, pk_sub, nI_leI, nI_ltI, nI_eq, le_T, le_F, lt_T, lt_F, eq_T, eq_F, if_pos, if_neg, m1_le, m1_lt', m1_gt, m1_le', m1_eq, m1_qe, b2i_eq0, in_N, in_n, in_I, ↓reduceIte, Bool.true_eq_false, Bool.false_eq_true, reduceCtorEq, decide_eq_true_eq, decide_eq_false_iff_not, Nat.not_lt, Nat.not_le, not_true_eq_false, not_false_eq_true, true_and, and_true, and_self, false_and, and_false, true_or, or_true, false_or, or_false, f_X12_fail, S.k, bad]
/-- a sign is taken -/
theorem RA.sg {q : Nat} (T : RA h x tp n σ) (z : isS tp n σ q = true) : RT (sI h (x + 107) 2 (nI (σ.1 + 1))) x tp n (nS tp n σ) := by
  obtain ⟨q1, q2⟩ := isS_t z
  have g := rn_ge (p := isB) (tp := tp) (n := n) (σ.1 + 1)
  have ns : (nS tp n σ).1 = rn isB tp n (σ.1 + 1) := rfl
  refine ⟨T.1.s (by omega) _, (nS_ok z).1, by rw [hI_sI, if_neg (by omega)]; exact T.2.2.1, σ.1 + 1, by rw [hI_sI, if_pos ⟨rfl, rfl⟩], g, rfl, ⟨by rw [hI_sI, if_neg (by omega)]; exact T.2.2.2.2.1, Or.inr ⟨rfl, ?_⟩⟩⟩
  rcases T.2.2.2.2.2 with ⟨a1, a2⟩ | ⟨a1, a2⟩
  · exact Or.inr ⟨σ.1, by rw [hI_sI, if_neg (by omega)]; exact a2, by omega, by omega⟩
  · rcases a2 with a2 | ⟨e, b1, b2, b3⟩
    · exact Or.inl (by rw [hI_sI, if_neg (by omega)]; exact a2)
    · exact Or.inr ⟨e, by rw [hI_sI, if_neg (by omega)]; exact b1, by omega, by omega⟩
theorem btT_eq (tb : ∀ j, tp j ≤ 255) {q : Nat} (hq : q ≤ 255) : (btT tp n σ = nI q) = (isS tp n σ q = true) := by
  unfold btT isS
  have t := tb σ.1
  by_cases c : σ.1 < n
  · rw [if_pos c, nI_eq (by omega) (by omega)]; simp [c]
  · rw [if_neg c, m1_eq q (by omega)]; simp [c]
theorem m_takesS (T : RA h x tp n σ) (tb : ∀ j, tp j ≤ 255) (hn : n ≤ 1600) {q : Nat} (hq : q ≤ 255) : (isS tp n σ q = true → f_X12_takesSign (x + 107) (nI q) h = some (nI 1, sI h (x + 107) 2 (nI (σ.1 + 1)))) ∧ (isS tp n σ q = false → f_X12_takesSign (x + 107) (nI q) h = some (nI 0, h)) := by
  have S := T.1.1
  have v2 := T.2.2.2.1
  have bad := T.2.2.1
  have sn := T.2.1.1
  have lk := m_lookA T tb hn
  have be := btT_eq (n := n) (σ := σ) tb hq
  generalize btT tp n σ = B at *
  refine ⟨fun z => ?_, fun z => ?_⟩
  · have be := be.trans (eq_true z)
    simp (disch := omega) only [nm, bd_s, ko_K, ka_K, koK_t, kaK_t, kr_s, kn_s, kn_n, hK_sI, hR_sI, hK_sL, hR_sL, hI_sL, hL_sI, hL_sL, hI_sI, hN_sI, hN_sL, ch_G, ch_T, nb_0, nb_1, zb_G, d_T, d_F, d_eT, d_eF, b2i_t, b2i_f, tn_nI, fa_lit, fa_litL, m1_e, nI_add, pk_mul, pk_sub, nI_leI, nI_ltI, nI_eq, le_T, le_F, lt_T, lt_F, eq_T, eq_F, if_pos, if_neg, m1_le, m1_lt', m1_gt, m1_le', m1_eq, m1_qe, b2i_eq0, in_N, in_n, in_I, ↓reduceIte, Bool.true_eq_false, Bool.false_eq_true, reduceCtorEq, decide_eq_true_eq, decide_eq_false_iff_not, Nat.not_lt, Nat.not_le, not_true_eq_false, not_false_eq_true, true_and, and_true, and_self, false_and, and_false, true_or, or_true, false_or, or_false, f_X12_takesSign_15, f_X12_takesSign, S.k, bad, lk, be, v2]
  · have be := be.trans (eq_false (by rw [z]; decide))
    simp (disch := omega) only [nm, bd_s, ko_K, ka_K, koK_t, kaK_t, kr_s, kn_s, kn_n, hK_sI, hR_sI, hK_sL, hR_sL, hI_sL, hL_sI, hL_sL, hI_sI, hN_sI, hN_sL, ch_G, ch_T, nb_0, nb_1, zb_G, d_T, d_F, d_eT, d_eF, b2i_t, b2i_f, tn_nI, fa_lit, fa_litL, m1_e, nI_add, pk_mul, pk_sub, nI_leI, nI_ltI, nI_eq, le_T, le_F, lt_T, lt_F, eq_T, eq_F, if_pos, if_neg, m1_le, m1_lt', m1_gt, m1_le', m1_eq, m1_qe, b2i_eq0, in_N, in_n, in_I, ↓reduceIte, Bool.true_eq_false, Bool.false_eq_true, reduceCtorEq, decide_eq_true_eq, decide_eq_false_iff_not, Nat.not_lt, Nat.not_le, not_true_eq_false, not_false_eq_true, true_and, and_true, and_self, false_and, and_false, true_or, or_true, false_or, or_false, f_X12_takesSign_15, f_X12_takesSign, S.k, bad, lk, be]
end Rg
