/-! THE TEXTS: what the class's parser does at a token -/
def mk (w : Nat) : Nat := if w = 0 then 896 else if w = 1 then 128 else if w = 2 then 15360 else 523272
def CD (h : aH) (a u : Nat) (c : List Nat) : Prop := hI h a 9 = nI (u + c.length) ∧ ∀ i, i < c.length → hI h (a + 3) (u + i) = ccI (c.getD i 0)
/-- which words are allowed; no fault so far -/
def M4 (h : aH) (x w : Nat) : Prop := hI h (x + 104) 4 = nI (mk w) ∧ hI h (x + 104) 0 = nI 0 ∧ hI h (x + 104) 1 = -nI 1
theorem M4.of {h h1 : aH} {x w : Nat} (m : M4 h x w) (e : ∀ j, (j = 0 ∨ j = 1 ∨ j = 4) → hI h1 (x + 104) j = hI h (x + 104) j) : M4 h1 x w := ⟨(e 4 (by omega)).trans m.1, (e 0 (by omega)).trans m.2.1, (e 1 (by omega)).trans m.2.2⟩
/-- the parser at a token, codes told so far -/
def ST (h : aH) (x a : Nat) (tp : Nat → Nat) (n w u : Nat) (c : List Nat) (σ : tyT) : Prop := TS h x tp n σ ∧ okS tp n σ ∧ hR h (x + 104) 3 = some a ∧ (a = x + 92 ∨ a = x + 98) ∧ M4 h x w ∧ CD h a u c ∧ u + c.length ≤ σ.1
def PZ (x a u b j : Nat) : Prop := b = x + 104 ∧ j < 2 ∨ b = x + 105 ∧ 2 ≤ j ∨ b = a ∧ j = 9 ∨ b = a + 3 ∧ u ≤ j
def PX (x a u : Nat) (h h1 : aH) : Prop := FX x (PZ x a u) h h1 ∧ hR h1 = hR h ∧ hL h1 = hL h
theorem PX.refl {x a u : Nat} {h : aH} : PX x a u h h := ⟨FX.refl _ _ _, rfl, rfl⟩
theorem PX.trans {x a u : Nat} {h h1 h2 : aH} (p : PX x a u h h1) (q : PX x a u h1 h2) : PX x a u h h2 := ⟨p.1.trans q.1, q.2.1.trans p.2.1, q.2.2.trans p.2.2⟩
theorem px_pc {x a u : Nat} {h h1 : aH} (f : FX x (PC x) h h1) (r : hR h1 = hR h) (l : hL h1 = hL h) : PX x a u h h1 := ⟨f.mono (fun b j q => by unfold PC at q; unfold PZ; omega), r, l⟩
section Op
variable {h : aH} {x a n w u : Nat} {tp : Nat → Nat} {c : List Nat} {σ : tyT}
theorem wv_iff {i : Nat} (hi : i < 31) : wv tp n σ = some i ↔ WD i = sub tp σ.1 (rn isL tp n σ.1 - σ.1) := by
  unfold wv
  constructor
  · intro z
    have := (fnd_lt _ _ _ z).2.2
    simpa using this
  · intro z
    cases q : fnd (fun i => decide (WD i = sub tp σ.1 (rn isL tp n σ.1 - σ.1))) 31 0 with
    | none =>
      have none_all : ∀ (p : Nat → Bool) (k j : Nat), fnd p k j = none → ∀ m, j ≤ m → m < j + k → p m = false := by
        intro p k
        induction k with
        | zero => intro j _ m h1 h2; omega
        | succ k ih =>
          intro j hz m h1 h2
          unfold fnd at hz
          split at hz
          · cases hz
          · rename_i pj
            by_cases e : m = j
            · rw [e]; cases y : p j with
              | false => rfl
              | true => exact absurd y pj
            · exact ih (j + 1) hz m (by omega) (by omega)
      have := none_all _ _ _ q i (by omega) (by omega)
      simp [z] at this
    | some j =>
      have := (fnd_lt _ _ _ q)
      have e : WD j = sub tp σ.1 (rn isL tp n σ.1 - σ.1) := by simpa using this.2.2
      rw [WD_inj j (by omega) i hi (e.trans z.symm)]
theorem opI_eq {o : Option Nat} {i : Nat} (hi : i < 2 ^ 31) (ho : ∀ j, o = some j → j < 2 ^ 31) : (opI o = nI i) = (o = some i) := by
  cases o with
  | none => exact propext ⟨fun z => by rw [show opI none = -nI 1 from rfl, m1_eq i hi] at z; exact absurd z (fun y => y), fun z => by cases z⟩
  | some j =>
    show (nI j = nI i) = _
    rw [nI_eq (ho j rfl) hi]
    exact propext ⟨fun z => by rw [z], fun z => by cases z; rfl⟩
theorem wv_lt {j : Nat} (h : wv tp n σ = some j) : j < 31 := by have := fnd_lt _ _ _ h; omega
theorem c_isW (T : TS h x tp n σ) {i : Nat} (hi : i < 31) : f_X7_isWord (x + 105) (nI i) h = some (b2i (isW tp n σ i), h) := by
  obtain ⟨T0, k2, v3, v4, v5⟩ := T
  have S := T0.1
  have kb : tkK tp n σ ≤ 4 := by unfold tkK; split <;> (try split) <;> (try split) <;> (try split) <;> omega
  unfold isW
  by_cases c1 : σ.1 < n
  · rw [decide_eq_true c1, Bool.true_and]
    by_cases c2 : isL (tp σ.1) = true
    · rw [c2, Bool.true_and]
      have e5 : tkV tp n σ = opI (wv tp n σ) := by unfold tkV; rw [if_pos c1, if_pos c2]
      have ek : tkK tp n σ = if σ.2 = true then 4 else 1 := by unfold tkK; rw [if_pos c1, if_pos c2]
      rw [e5] at v5
      cases c3 : σ.2 with
      | true =>
        rw [ek, c3, if_pos rfl] at k2
        simp only [Bool.not_true, Bool.false_and]
        rw [b2i_f]
        simp (disch := omega) only [nm, bd_s, ko_K, ka_K, koK_t, kaK_t, kr_s, kn_s, kn_n, hK_sI, hR_sI, hK_sL, hR_sL, hI_sL, hL_sI, hL_sL, hI_sI, hN_sI, hN_sL, ch_G, ch_T, nb_0, nb_1, zb_G, d_T, d_F, d_eT, d_eF, b2i_t, b2i_f, tn_nI, fa_lit, fa_litL, m1_e, nI_add, pk_mul, pk_sub, nI_leI, nI_ltI, nI_eq, le_T, le_F, lt_T, lt_F, eq_T, eq_F, if_pos, if_neg, m1_le, m1_lt', m1_gt, m1_le', m1_eq, m1_qe, b2i_eq0, in_N, in_n, in_I, ↓reduceIte, Bool.true_eq_false, Bool.false_eq_true, reduceCtorEq, decide_eq_true_eq, decide_eq_false_iff_not, Nat.not_lt, Nat.not_le, not_true_eq_false, not_false_eq_true, true_and, and_true, and_self, false_and, and_false, true_or, or_true, false_or, or_false, f_X7_isWord_21, f_X7_isWord_20, f_X7_isWord, S.k105, k2]
      | false =>
        rw [ek, c3, if_neg (by decide)] at k2
        simp only [Bool.not_false, Bool.true_and]
        have oe := opI_eq (o := wv tp n σ) (i := i) (by omega) (fun j hj => by have := wv_lt hj; omega)
        by_cases c4 : WD i = sub tp σ.1 (rn isL tp n σ.1 - σ.1)
        · rw [decide_eq_true c4, b2i_t]
          have oe := oe.trans (eq_true ((wv_iff hi).mpr c4))
          generalize opI (wv tp n σ) = V at *
          simp (disch := omega) only [nm, bd_s, ko_K, ka_K, koK_t, kaK_t, kr_s, kn_s, kn_n, hK_sI, hR_sI, hK_sL, hR_sL, hI_sL, hL_sI, hL_sL, hI_sI, hN_sI, hN_sL, ch_G, ch_T, nb_0, nb_1, zb_G, d_T, d_F, d_eT, d_eF, b2i_t, b2i_f, tn_nI, fa_lit, fa_litL, m1_e, nI_add, pk_mul, pk_sub, nI_leI, nI_ltI, nI_eq, le_T, le_F, lt_T, lt_F, eq_T, eq_F, if_pos, if_neg, m1_le, m1_lt', m1_gt, m1_le', m1_eq, m1_qe, b2i_eq0, in_N, in_n, in_I, ↓reduceIte, Bool.true_eq_false, Bool.false_eq_true, reduceCtorEq, decide_eq_true_eq, decide_eq_false_iff_not, Nat.not_lt, Nat.not_le, not_true_eq_false, not_false_eq_true, true_and, and_true, and_self, false_and, and_false, true_or, or_true, false_or, or_false, f_X7_isWord_21, f_X7_isWord_20, f_X7_isWord, S.k105, k2, v5, oe]
        · rw [decide_eq_false c4, b2i_f]
          have oe := oe.trans (eq_false (fun z => c4 ((wv_iff hi).mp z)))
          generalize opI (wv tp n σ) = V at *
          simp (disch := omega) only [nm, bd_s, ko_K, ka_K, koK_t, kaK_t, kr_s, kn_s, kn_n, hK_sI, hR_sI, hK_sL, hR_sL, hI_sL, hL_sI, hL_sL, hI_sI, hN_sI, hN_sL, ch_G, ch_T, nb_0, nb_1, zb_G, d_T, d_F, d_eT, d_eF, b2i_t, b2i_f, tn_nI, fa_lit, fa_litL, m1_e, nI_add, pk_mul, pk_sub, nI_leI, nI_ltI, nI_eq, le_T, le_F, lt_T, lt_F, eq_T, eq_F, if_pos, if_neg, m1_le, m1_lt', m1_gt, m1_le', m1_eq, m1_qe, b2i_eq0, in_N, in_n, in_I, ↓reduceIte, Bool.true_eq_false, Bool.false_eq_true, reduceCtorEq, decide_eq_true_eq, decide_eq_false_iff_not, Nat.not_lt, Nat.not_le, not_true_eq_false, not_false_eq_true, true_and, and_true, and_self, false_and, and_false, true_or, or_true, false_or, or_false, f_X7_isWord_21, f_X7_isWord_20, f_X7_isWord, S.k105, k2, v5, oe]
    · have ek : ¬ tkK tp n σ = 1 := by unfold tkK; rw [if_pos c1, if_neg c2]; split <;> (try split) <;> omega
      rw [show isL (tp σ.1) = false by cases q : isL (tp σ.1) with | false => rfl | true => exact absurd q c2, Bool.false_and, Bool.false_and, b2i_f]
      generalize tkK tp n σ = K at *
      simp (disch := omega) only [nm, bd_s, ko_K, ka_K, koK_t, kaK_t, kr_s, kn_s, kn_n, hK_sI, hR_sI, hK_sL, hR_sL, hI_sL, hL_sI, hL_sL, hI_sI, hN_sI, hN_sL, ch_G, ch_T, nb_0, nb_1, zb_G, d_T, d_F, d_eT, d_eF, b2i_t, b2i_f, tn_nI, fa_lit, fa_litL, m1_e, nI_add, pk_mul, pk_sub, nI_leI, nI_ltI, nI_eq, le_T, le_F, lt_T, lt_F, eq_T, eq_F, if_pos, if_neg, m1_le, m1_lt', m1_gt, m1_le', m1_eq, m1_qe, b2i_eq0, in_N, in_n, in_I, ↓reduceIte, Bool.true_eq_false, Bool.false_eq_true, reduceCtorEq, decide_eq_true_eq, decide_eq_false_iff_not, Nat.not_lt, Nat.not_le, not_true_eq_false, not_false_eq_true, true_and, and_true, and_self, false_and, and_false, true_or, or_true, false_or, or_false, f_X7_isWord_21, f_X7_isWord_20, f_X7_isWord, S.k105, k2]
  · have ek : tkK tp n σ = 0 := by unfold tkK; rw [if_neg c1]
    rw [decide_eq_false c1, Bool.false_and, Bool.false_and, Bool.false_and, b2i_f]
    rw [ek] at k2
    simp (disch := omega) only [nm, bd_s, ko_K, ka_K, koK_t, kaK_t, kr_s, kn_s, kn_n, hK_sI, hR_sI, hK_sL, hR_sL, hI_sL, hL_sI, hL_sL, hI_sI, hN_sI, hN_sL, ch_G, ch_T, nb_0, nb_1, zb_G, d_T, d_F, d_eT, d_eF, b2i_t, b2i_f, tn_nI, fa_lit, fa_litL, m1_e, nI_add, pk_mul, pk_sub, nI_leI, nI_ltI, nI_eq, le_T, le_F, lt_T, lt_F, eq_T, eq_F, if_pos, if_neg, m1_le, m1_lt', m1_gt, m1_le', m1_eq, m1_qe, b2i_eq0, in_N, in_n, in_I, ↓reduceIte, Bool.true_eq_false, Bool.false_eq_true, reduceCtorEq, decide_eq_true_eq, decide_eq_false_iff_not, Nat.not_lt, Nat.not_le, not_true_eq_false, not_false_eq_true, true_and, and_true, and_self, false_and, and_false, true_or, or_true, false_or, or_false, f_X7_isWord_21, f_X7_isWord_20, f_X7_isWord, S.k105, k2]
theorem c_isS (T : TS h x tp n σ) (tb : ∀ j, tp j ≤ 255) {q : Nat} (hL : isL q = false) (hD : isD q = false) (hq : q ≤ 255) : f_X7_isSign (x + 105) (nI q) h = some (b2i (isS tp n σ q), h) := by
  obtain ⟨T0, k2, v3, v4, v5⟩ := T
  have S := T0.1
  have kb : tkK tp n σ ≤ 4 := by unfold tkK; split <;> (try split) <;> (try split) <;> (try split) <;> omega
  have t := tb σ.1
  unfold isS
  by_cases c1 : σ.1 < n
  · rw [decide_eq_true c1, Bool.true_and]
    by_cases c2 : isL (tp σ.1) = true ∨ isD (tp σ.1) = true
    · have ek : ¬ tkK tp n σ = 3 := by
        unfold tkK; rw [if_pos c1]
        by_cases y : isL (tp σ.1) = true
        · rw [if_pos y]; split <;> omega
        · rw [if_neg y, if_pos (c2.resolve_left y)]; split <;> omega
      rw [decide_eq_false (by rintro rfl; rcases c2 with z | z; rw [z] at hL; cases hL; rw [z] at hD; cases hD), b2i_f]
      generalize tkK tp n σ = K at *
      simp (disch := omega) only [nm, bd_s, ko_K, ka_K, koK_t, kaK_t, kr_s, kn_s, kn_n, hK_sI, hR_sI, hK_sL, hR_sL, hI_sL, hL_sI, hL_sL, hI_sI, hN_sI, hN_sL, ch_G, ch_T, nb_0, nb_1, zb_G, d_T, d_F, d_eT, d_eF, b2i_t, b2i_f, tn_nI, fa_lit, fa_litL, m1_e, nI_add, pk_mul, pk_sub, nI_leI, nI_ltI, nI_eq, le_T, le_F, lt_T, lt_F, eq_T, eq_F, if_pos, if_neg, m1_le, m1_lt', m1_gt, m1_le', m1_eq, m1_qe, b2i_eq0, in_N, in_n, in_I, ↓reduceIte, Bool.true_eq_false, Bool.false_eq_true, reduceCtorEq, decide_eq_true_eq, decide_eq_false_iff_not, Nat.not_lt, Nat.not_le, not_true_eq_false, not_false_eq_true, true_and, and_true, and_self, false_and, and_false, true_or, or_true, false_or, or_false, f_X7_isSign_21, f_X7_isSign_20, f_X7_isSign, S.k105, k2]
    · have y1 : ¬ isL (tp σ.1) = true := fun z => c2 (Or.inl z)
      have y2 : ¬ isD (tp σ.1) = true := fun z => c2 (Or.inr z)
      have ek : tkK tp n σ = 3 := by unfold tkK; rw [if_pos c1, if_neg y1, if_neg y2]
      have e5 : tkV tp n σ = nI (tp σ.1) := by unfold tkV; rw [if_pos c1, if_neg y1, if_neg y2]
      rw [ek] at k2
      rw [e5] at v5
      generalize tp σ.1 = V at *
      by_cases c4 : V = q
      · rw [decide_eq_true c4, b2i_t]
        simp (disch := omega) only [nm, bd_s, ko_K, ka_K, koK_t, kaK_t, kr_s, kn_s, kn_n, hK_sI, hR_sI, hK_sL, hR_sL, hI_sL, hL_sI, hL_sL, hI_sI, hN_sI, hN_sL, ch_G, ch_T, nb_0, nb_1, zb_G, d_T, d_F, d_eT, d_eF, b2i_t, b2i_f, tn_nI, fa_lit, fa_litL, m1_e, nI_add, pk_mul, pk_sub, nI_leI, nI_ltI, nI_eq, le_T, le_F, lt_T, lt_F, eq_T, eq_F, if_pos, if_neg, m1_le, m1_lt', m1_gt, m1_le', m1_eq, m1_qe, b2i_eq0, in_N, in_n, in_I, ↓reduceIte, Bool.true_eq_false, Bool.false_eq_true, reduceCtorEq, decide_eq_true_eq, decide_eq_false_iff_not, Nat.not_lt, Nat.not_le, not_true_eq_false, not_false_eq_true, true_and, and_true, and_self, false_and, and_false, true_or, or_true, false_or, or_false, f_X7_isSign_21, f_X7_isSign_20, f_X7_isSign, S.k105, k2, v5]
      · rw [decide_eq_false c4, b2i_f]
        simp (disch := omega) only [nm, bd_s, ko_K, ka_K, koK_t, kaK_t, kr_s, kn_s, kn_n, hK_sI, hR_sI, hK_sL, hR_sL, hI_sL, hL_sI, hL_sL, hI_sI, hN_sI, hN_sL, ch_G, ch_T, nb_0, nb_1, zb_G, d_T, d_F, d_eT, d_eF, b2i_t, b2i_f, tn_nI, fa_lit, fa_litL, m1_e, nI_add, pk_mul, pk_sub, nI_leI, nI_ltI, nI_eq, le_T, le_F, lt_T, lt_F, eq_T, eq_F, if_pos, if_neg, m1_le, m1_lt', m1_gt, m1_le', m1_eq, m1_qe, b2i_eq0, in_N, in_n, in_I, ↓reduceIte, Bool.true_eq_false, Bool.false_eq_true, reduceCtorEq, decide_eq_true_eq, decide_eq_false_iff_not, Nat.not_lt, Nat.not_le, not_true_eq_false, not_false_eq_true, true_and, and_true, and_self, false_and, and_false, true_or, or_true, false_or, or_false, f_X7_isSign_21, f_X7_isSign_20, f_X7_isSign, S.k105, k2, v5]
  · have ek : tkK tp n σ = 0 := by unfold tkK; rw [if_neg c1]
    rw [decide_eq_false c1, Bool.false_and, b2i_f]
    rw [ek] at k2
    simp (disch := omega) only [nm, bd_s, ko_K, ka_K, koK_t, kaK_t, kr_s, kn_s, kn_n, hK_sI, hR_sI, hK_sL, hR_sL, hI_sL, hL_sI, hL_sL, hI_sI, hN_sI, hN_sL, ch_G, ch_T, nb_0, nb_1, zb_G, d_T, d_F, d_eT, d_eF, b2i_t, b2i_f, tn_nI, fa_lit, fa_litL, m1_e, nI_add, pk_mul, pk_sub, nI_leI, nI_ltI, nI_eq, le_T, le_F, lt_T, lt_F, eq_T, eq_F, if_pos, if_neg, m1_le, m1_lt', m1_gt, m1_le', m1_eq, m1_qe, b2i_eq0, in_N, in_n, in_I, ↓reduceIte, Bool.true_eq_false, Bool.false_eq_true, reduceCtorEq, decide_eq_true_eq, decide_eq_false_iff_not, Nat.not_lt, Nat.not_le, not_true_eq_false, not_false_eq_true, true_and, and_true, and_self, false_and, and_false, true_or, or_true, false_or, or_false, f_X7_isSign_21, f_X7_isSign_20, f_X7_isSign, S.k105, k2]
/-- the next token -/
theorem c_nx (T : ST h x a tp n w u c σ) (tb : ∀ j, tp j ≤ 255) (hn : n ≤ 1600) {σ' : tyT} (h4 : ¬ tkK tp n σ = 4) (e1 : σ' = (sk tp n (tkE tp n σ), decide ((tkK tp n σ = 1 ∨ tkK tp n σ = 2) ∧ sk tp n (tkE tp n σ) = tkE tp n σ))) : ∃ h1, f_X7_next (x + 105) h = some ((), h1) ∧ ST h1 x a tp n w u c σ' ∧ PX x a u h h1 := by
  obtain ⟨⟨T0, k2, v3, v4, v5⟩, o, i3, ha, i4, cd, le⟩ := T
  have kb : tkK tp n σ ≤ 5 := by unfold tkK; split <;> (try split) <;> (try split) <;> (try split) <;> omega
  have ge : σ.1 ≤ tkE tp n σ ∧ tkE tp n σ ≤ n := by
    have := o.1
    have g1 := rn_ge (p := isL) (tp := tp) (n := n) σ.1
    have g2 := rn_ge (p := isD) (tp := tp) (n := n) σ.1
    have g3 := rn_le (p := isL) (tp := tp) this
    have g4 := rn_le (p := isD) (tp := tp) this
    unfold tkE; split <;> (try split) <;> (try split) <;> omega
  obtain ⟨h1, e2, T1, f1, r1, l1⟩ := c_next0 T0 tb hn ge.2 kb k2 v4
  rw [← e1] at T1
  have sg := rn_ge (p := isB) (tp := tp) (n := n) (tkE tp n σ)
  have p1 : PX x a u h h1 := px_pc f1 r1 l1
  have fI := f1.2.2.2.2.1
  refine ⟨h1, e2, ⟨T1, by rw [e1]; exact okS.sk ge.2 _, by rw [r1]; exact i3, ha, i4.of (fun j hj => fI _ _ (by unfold PC; omega)), ⟨by rw [fI _ _ (by unfold PC; omega)]; exact cd.1, fun i hi => by rw [fI _ _ (by unfold PC; omega)]; exact cd.2 i hi⟩, ?_⟩, p1⟩
  rw [e1]
  show u + c.length ≤ rn isB tp n (tkE tp n σ)
  omega
theorem c_nxW (T : ST h x a tp n w u c σ) (tb : ∀ j, tp j ≤ 255) (hn : n ≤ 1600) {i : Nat} (q : isW tp n σ i = true) : ∃ h1, f_X7_next (x + 105) h = some ((), h1) ∧ ST h1 x a tp n w u c (nW tp n σ) ∧ PX x a u h h1 := by
  obtain ⟨q1, q2, q3, q4⟩ := isW_t q
  have ek : tkK tp n σ = 1 := by unfold tkK; rw [if_pos q1, if_pos q2, q3, if_neg (by decide)]
  have ee : tkE tp n σ = rn isL tp n σ.1 := by unfold tkE; rw [if_pos q1, if_pos q2]
  refine c_nx T tb hn (by omega) ?_
  unfold nW
  rw [ee, ek]
  simp
theorem c_nxS (T : ST h x a tp n w u c σ) (tb : ∀ j, tp j ≤ 255) (hn : n ≤ 1600) {q : Nat} (hL : isL q = false) (hD : isD q = false) (hq : isS tp n σ q = true) : ∃ h1, f_X7_next (x + 105) h = some ((), h1) ∧ ST h1 x a tp n w u c (nS tp n σ) ∧ PX x a u h h1 := by
  obtain ⟨q1, q2⟩ := isS_t hq
  have y1 : ¬ isL (tp σ.1) = true := by rw [q2, hL]; decide
  have y2 : ¬ isD (tp σ.1) = true := by rw [q2, hD]; decide
  have ek : tkK tp n σ = 3 := by unfold tkK; rw [if_pos q1, if_neg y1, if_neg y2]
  have ee : tkE tp n σ = σ.1 + 1 := by unfold tkE; rw [if_pos q1, if_neg y1, if_neg y2]
  refine c_nx T tb hn (by omega) ?_
  unfold nS
  rw [ee, ek]
  simp
theorem c_nxN (T : ST h x a tp n w u c σ) (tb : ∀ j, tp j ≤ 255) (hn : n ≤ 1600) (hq : isN tp n σ = true) : ∃ h1, f_X7_next (x + 105) h = some ((), h1) ∧ ST h1 x a tp n w u c (nD tp n σ) ∧ PX x a u h h1 := by
  obtain ⟨q1, q2, q3⟩ := isN_t hq
  have y1 : ¬ isL (tp σ.1) = true := by
    intro z
    unfold isL at z; unfold isD at q2
    simp only [Bool.and_eq_true, decide_eq_true_eq] at z q2
    omega
  have ek : tkK tp n σ = 2 := by unfold tkK; rw [if_pos q1, if_neg y1, if_pos q2, q3, if_neg (by decide)]
  have ee : tkE tp n σ = rn isD tp n σ.1 := by unfold tkE; rw [if_pos q1, if_neg y1, if_pos q2]
  refine c_nx T tb hn (by omega) ?_
  unfold nD
  rw [ee, ek]
  simp
/-- a code more -/
theorem c_addN (T : ST h x a tp n w u c σ) (hn : u + c.length < 1600) {q : Nat} (hs : u + c.length < σ.1 ∨ True) {v : Int32} (hv : v = ccI q) : ∃ h1, f_X4_addNumber a v h = some ((), h1) ∧ (u + c.length < σ.1 → ST h1 x a tp n w u (c ++ [q]) σ) ∧ TS h1 x tp n σ ∧ hR h1 (x + 104) 3 = some a ∧ M4 h1 x w ∧ CD h1 a u (c ++ [q]) ∧ PX x a u h h1 := by
  obtain ⟨⟨T0, k2, v3, v4, v5⟩, o, i3, ha, i4, cd, le⟩ := T
  have A := T0.1.ma ha
  have e16 : Int32.ofNat 1600 = nI 1600 := rfl
  have c9 := cd.1
  obtain ⟨g, hg⟩ : ∃ g, g = sI (sI h (a + 3) (u + c.length) v) a 9 (nI (u + c.length + 1)) := ⟨_, rfl⟩
  have oth : ∀ b j, ¬ (b = a + 3 ∧ j = u + c.length) → ¬ (b = a ∧ j = 9) → hI g b j = hI h b j := fun b j z1 z2 => by rw [hg, hI_sI, if_neg z2, hI_sI, if_neg z1]
  have eK : hK g = hK h := by rw [hg]; rfl
  have eR : hR g = hR h := by rw [hg]; rfl
  have T1 : TS g x tp n σ := ⟨T0.fr eK eR (fun j => oth _ _ (by omega) (by omega)) (oth _ _ (by omega) (by omega)), by rw [oth _ _ (by omega) (by omega)]; exact k2, by rw [oth _ _ (by omega) (by omega)]; exact v3, by rw [oth _ _ (by omega) (by omega)]; exact v4, by rw [oth _ _ (by omega) (by omega)]; exact v5⟩
  have cd1 : CD g a u (c ++ [q]) := by
    refine ⟨by rw [hg, hI_sI, if_pos ⟨rfl, rfl⟩]; simp [Nat.add_assoc], fun i hi => ?_⟩
    have hi : i < c.length + 1 := by simpa using hi
    by_cases z : i = c.length
    · subst z
      rw [hg, hI_sI, if_neg (by omega), hI_sI, if_pos ⟨rfl, rfl⟩, hv]
      simp
    · rw [oth _ _ (by omega) (by omega), cd.2 i (by omega)]
      congr 1
      rw [List.getD_eq_getElem?_getD, List.getD_eq_getElem?_getD, List.getElem?_append_left (by omega)]
  have i3' : hR g (x + 104) 3 = some a := by rw [eR]; exact i3
  have i4' : M4 g x w := i4.of (fun j hj => oth _ _ (by omega) (by omega))
  refine ⟨g, ?_, fun z => ⟨T1, o, i3', ha, i4', cd1, by simp; omega⟩, T1, i3', i4', cd1, ?_⟩
  · rw [hg]
    simp (disch := omega) only [nm, bd_s, ko_K, ka_K, koK_t, kaK_t, kr_s, kn_s, kn_n, hK_sI, hR_sI, hK_sL, hR_sL, hI_sL, hL_sI, hL_sL, hI_sI, hN_sI, hN_sL, ch_G, ch_T, nb_0, nb_1, zb_G, d_T, d_F, d_eT, d_eF, b2i_t, b2i_f, tn_nI, fa_lit, fa_litL, m1_e, nI_add, pk_mul, pk_sub, nI_leI, nI_ltI, nI_eq, le_T, le_F, lt_T, lt_F, eq_T, eq_F, if_pos, if_neg, m1_le, m1_lt', m1_gt, m1_le', m1_eq, m1_qe, b2i_eq0, in_N, in_n, in_I, ↓reduceIte, Bool.true_eq_false, Bool.false_eq_true, reduceCtorEq, decide_eq_true_eq, decide_eq_false_iff_not, Nat.not_lt, Nat.not_le, not_true_eq_false, not_false_eq_true, true_and, and_true, and_self, false_and, and_false, true_or, or_true, false_or, or_false, f_X4_addNumber_32, f_X4_addNumber, A.k, A.r6, A.k3, e16, c9]
  · rw [hg]
    exact ⟨(FX.sI (by unfold PZ; omega)).trans (FX.sI (by unfold PZ; omega)), rfl, rfl⟩
theorem c_addO (T : ST h x a tp n w u c σ) (hn : u + c.length < σ.1) (h16 : n ≤ 1600) {q : Nat} {v : Int32} (hv : -1 - v = ccI q) : ∃ h1, f_X4_addOperation a v h = some ((), h1) ∧ ST h1 x a tp n w u (c ++ [q]) σ ∧ PX x a u h h1 := by
  have sn := T.2.1.1
  have A := T.1.1.1.ma T.2.2.2.1
  obtain ⟨h1, e1, t1, -, -, -, -, p1⟩ := c_addN T (q := q) (by omega) (Or.inr trivial) hv
  refine ⟨h1, ?_, t1 hn, p1⟩
  unfold f_X4_addOperation
  rw [ko_t A.k, bd_t e1]
theorem c_failX (S : XS h x) {k p : Nat} : f_X5_fail (x + 104) (nI k) (nI p) h = some (nI 0, sI (sI h (x + 104) 0 (nI k)) (x + 104) 1 (nI p)) := by
  simp (disch := omega) only [nm, bd_s, ko_K, ka_K, koK_t, kaK_t, kr_s, kn_s, kn_n, hK_sI, hR_sI, hK_sL, hR_sL, hI_sL, hL_sI, hL_sL, hI_sI, hN_sI, hN_sL, ch_G, ch_T, nb_0, nb_1, zb_G, d_T, d_F, d_eT, d_eF, b2i_t, b2i_f, tn_nI, fa_lit, fa_litL, m1_e, nI_add, pk_mul, pk_sub, nI_leI, nI_ltI, nI_eq, le_T, le_F, lt_T, lt_F, eq_T, eq_F, if_pos, if_neg, m1_le, m1_lt', m1_gt, m1_le', m1_eq, m1_qe, b2i_eq0, in_N, in_n, in_I, ↓reduceIte, Bool.true_eq_false, Bool.false_eq_true, reduceCtorEq, decide_eq_true_eq, decide_eq_false_iff_not, Nat.not_lt, Nat.not_le, not_true_eq_false, not_false_eq_true, true_and, and_true, and_self, false_and, and_false, true_or, or_true, false_or, or_false, f_X5_fail, S.k104]
end Op
