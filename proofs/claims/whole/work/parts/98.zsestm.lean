/-! A MACHINE'S TEXT: the class's shelf statement -/
section Es
variable {h h1 : aH} {x a n u : Nat} {tp : Nat → Nat} {σ : tyT} {B : tyB}
theorem ltr_get (k : Nat) : (ltr tp n σ).getD k 0 = if k < rn isL tp n σ.1 - σ.1 then tp (σ.1 + k) - 96 else 0 := by
  have l : (ltr tp n σ).length = rn isL tp n σ.1 - σ.1 := by unfold ltr; rw [List.length_map, sub_len]
  by_cases c : k < rn isL tp n σ.1 - σ.1
  · rw [if_pos c]
    have e := sub_get tp (rn isL tp n σ.1 - σ.1) σ.1 k c
    rw [List.getD_eq_getElem?_getD, List.getElem?_eq_getElem (by rw [sub_len]; exact c)] at e
    unfold ltr
    rw [List.getD_eq_getElem?_getD, List.getElem?_map, List.getElem?_eq_getElem (by rw [sub_len]; exact c)]
    have e : (sub tp σ.1 (rn isL tp n σ.1 - σ.1))[k]'(by rw [sub_len]; exact c) = tp (σ.1 + k) := e
    rw [e]
    rfl
  · rw [if_neg c, List.getD_eq_getElem?_getD, List.getElem?_eq_none (by omega)]
    rfl
theorem nm_43 (T : CT h x a tp n σ) : f_X5_name_43 (x + 104) h = some (nI 0, flX h x 1 σ.1) := by
  have S := T.xs
  unfold f_X5_name_43
  rw [ko_t S.k104, kr_t S.r104_2, ko_t S.k105, T.v3]
  exact fl_b S
/-- what a name leaves -/
def NmR (x a : Nat) (tp : Nat → Nat) (n : Nat) (σ : tyT) (B : tyB) (r : tyF (List Nat × tyT)) (h : aH) (s : Option (Int32 × aH)) : Prop := match r with
  | .inl e => s = some (nI 0, flX h x e.1 e.2)
  | .inr q => (tws B q.1 = true → ∃ g, s = some (nI 0, flX g x 3 σ.1) ∧ PM x a h g) ∧ (tws B q.1 = false → ∃ h1, s = some (nI 1, h1) ∧ CT h1 x a tp n q.2 ∧ PM x a h h1 ∧ (∀ b j, a ≤ b → b < a + 6 → ¬ (b = a + 1 ∧ 6 * B.2.2.1 ≤ j ∧ j < 6 * B.2.2.1 + 6) → hI h1 b j = hI h b j) ∧ ∀ k, k < 6 → hI h1 (a + 1) (6 * B.2.2.1 + k) = nI (q.1.getD k 0))
theorem c_name (T : CT h x a tp n σ) (tb : ∀ j, tp j ≤ 255) (hn : n ≤ 1600) (M : MN h a u B) (o : okQ B) (hs : B.2.2.1 < 4) : NmR x a tp n σ B (pNm tp n σ) h (f_X5_name (x + 104) a h) := by
  have S := T.xs
  have ha := T.2.2.2.1
  have A := S.ma ha
  have k2 := T.1.2.1
  have v4 := T.1.2.2.2.1
  have v5 := T.1.2.2.2.2
  have kl := tkK_le (tp := tp) (n := n) (σ := σ)
  unfold pNm
  by_cases z : isNm tp n σ = true
  · obtain ⟨q1, q2, q3, q4⟩ := isNm_t z
    have ek : tkK tp n σ = 1 := by unfold tkK; rw [if_pos q1, if_pos q2, q3, if_neg (by decide)]
    have ee : tkE tp n σ = rn isL tp n σ.1 := by unfold tkE; rw [if_pos q1, if_pos q2]
    have ev : tkV tp n σ = opI (wv tp n σ) := by unfold tkV; rw [if_pos q1, if_pos q2]
    rw [ek] at k2
    rw [ee] at v4
    rw [ev] at v5
    have rg := rn_gt (p := isL) (tp := tp) (n := n) q1 q2
    have rl := rn_le (p := isL) (tp := tp) (n := n) (q := σ.1) (by omega)
    have st : f_X5_name (x + 104) a h = f_X5_name_27 (x + 104) a 0 h := by
      unfold f_X5_name f_X5_name_26
      rw [ko_t S.k104, kr_t S.r104_2, ko_t S.k105]
      by_cases c1 : hI h (x + 105) 5 < 0
      · rw [if_pos c1]
      · rw [if_neg c1]
        by_cases c2 : (25 : Int32) ≤ hI h (x + 105) 5
        · rw [if_pos c2]
        · exfalso
          cases e : wv tp n σ with
          | none =>
            rw [v5, e] at c1
            exact c1 (by decide)
          | some j =>
            have j31 := wv_lt e
            rw [v5, e] at c2
            have j25 : j < 25 := by
              apply Nat.lt_of_not_le
              intro y
              apply c2
              show nI 25 ≤ nI j
              rw [nI_leI (by omega) (by omega)]
              exact y
            have iw := (ct_isW T j31).mpr ⟨k2, by rw [v5, e]; rfl⟩
            rw [q4 j j25] at iw
            cases iw
    have dl : hI h (x + 105) 4 - hI h (x + 105) 3 = nI (rn isL tp n σ.1 - σ.1) := by rw [v4, T.v3, pk_sub (by omega)]
    rw [if_pos z, st]
    unfold f_X5_name_27
    dsimp only [nm]
    rw [ko_t S.k104, kr_t S.r104_2, ko_t S.k105, if_pos (show hI h (x + 105) 2 = 1 from k2), if_pos rfl, dl]
    by_cases c6 : rn isL tp n σ.1 - σ.1 ≤ 6
    · rw [if_pos c6, if_pos (show nI (rn isL tp n σ.1 - σ.1) ≤ (6 : Int32) by rw [show (6 : Int32) = nI 6 from rfl, nI_leI (by omega) (by omega)]; exact c6)]
      have lt := ltr_ok (tp := tp) (n := n) q1 q2
      have hp : ∀ k, k < rn isL tp n σ.1 - σ.1 → σ.1 + k < 1600 ∧ 97 ≤ tp (σ.1 + k) ∧ tp (σ.1 + k) ≤ 122 := by
        intro k hk
        have r := rn_in (p := isL) (tp := tp) (n := n) (q := σ.1) (j := σ.1 + k) (by omega) (by omega)
        unfold isL at r
        simp only [Bool.and_eq_true, decide_eq_true_eq] at r
        omega
      obtain ⟨h1, e1, ⟨k1, r1, l1, n1, s1⟩, f1, v1⟩ := c_setN (s := B.2.2.1) (l := rn isL tp n σ.1 - σ.1) (σ := σ) (tp := tp) (a := a) hs c6 ha hp (by omega) 6 0 FU h rfl (FU_gt (by omega)) S T.1.1.2.1
      have S1 : XS h1 x := S.of k1 r1
      have rows : ∀ t k, t < B.2.2.1 → k < 6 → hI h1 (a + 1) (6 * t + k) = nI ((B.2.2.2.1 t).getD k 0) := fun t k ht hk => by rw [f1 _ _ (by omega)]; exact M.2.2.2.1 t k ht (by omega) hk
      have row : ∀ k, k < 6 → hI h1 (a + 1) (6 * B.2.2.1 + k) = nI ((ltr tp n σ).getD k 0) := fun k hk => by rw [v1 k (by omega) hk, ltr_get]
      have tw := c_twice (s := B.2.2.1) (ns := B.2.2.2.1) (l := ltr tp n σ) S1 ha hs rows row (fun t ht => (o.2.2.2.2.2.1 t ht).2) ⟨by omega, lt.2.2⟩ B.2.2.1 0 FU (Nat.zero_add _) (FU_gt (by omega))
      have tw : f_X4_hasNameTwice a (nI B.2.2.1) h1 = some (b2i (tws B (ltr tp n σ)), h1) := tw
      have m3 : hI h1 a 3 = nI B.2.2.1 := by rw [f1 _ _ (by omega)]; exact M.2.2.1
      have p1 : PM x a h h1 := ⟨⟨k1, fun b j _ => by rw [l1], n1, s1, fun b j y => f1 b j (fun w => y (by unfold PMc; omega)), fun b j _ => by rw [r1]⟩, r1, l1⟩
      have T1 : CT h1 x a tp n σ := T.fr k1 r1 (fun b j y => f1 b j (by omega))
      rw [ko_t A.k, kr_t T.1.1.2.2.1, M.2.2.1, T.v3, bd_t (show f_X4_setName a (nI B.2.2.1) (x + 1) (nI σ.1) (nI (rn isL tp n σ.1 - σ.1)) h = _ from e1), ko_t (S1.ma ha).k, m3, bd_t tw]
      refine ⟨fun y => ⟨h1, ?_, p1⟩, fun y => ?_⟩
      · rw [show tws B (ltr tp n σ) = true from y, if_neg (show ¬ b2i true = (0 : Int32) by decide), ko_t S1.k104, kr_t S1.r104_2, ko_t S1.k105, T1.v3]
        exact fl_b S1
      · obtain ⟨h2, e2, T2, p2⟩ := ct_nxL T1 tb hn q1 q2 q3
        refine ⟨h2, ?_, T2, p1.trans p2.pm, fun b j b1 b2 y => by rw [p2.i (by omega), f1 b j (by omega)], fun k hk => by rw [p2.i (by omega), row k hk]⟩
        rw [show tws B (ltr tp n σ) = false from y, if_pos (show b2i false = (0 : Int32) by decide), ko_t S1.k104, kr_t S1.r104_2, ko_t S1.k105, bd_t e2]
        rfl
    · rw [if_neg c6, if_neg (show ¬ nI (rn isL tp n σ.1 - σ.1) ≤ (6 : Int32) by rw [show (6 : Int32) = nI 6 from rfl, nI_leI (by omega) (by omega)]; exact c6), T.v3, show nI σ.1 + 6 = nI (σ.1 + 6) from nI_add _ 6]
      exact fl_b S
  · rw [if_neg z]
    show f_X5_name (x + 104) a h = some (nI 0, flX h x 1 σ.1)
    unfold f_X5_name f_X5_name_26
    rw [ko_t S.k104, kr_t S.r104_2, ko_t S.k105]
    by_cases c1 : hI h (x + 105) 2 = 1
    · have e1 : tkK tp n σ = 1 := (nI_eq (b := 1) (by omega) (by omega)).mp (k2.symm.trans c1)
      rcases isNm_f z with y | ⟨i, hi, iw⟩
      · exact absurd (tkK_1 e1) y
      · have v := ((ct_isW T (show i < 31 by omega)).mp iw).2
        rw [v, if_neg (show ¬ nI i < (0 : Int32) by rw [show (0 : Int32) = nI 0 from rfl, nI_ltI (by omega) (by omega)]; omega), if_neg (show ¬ (25 : Int32) ≤ nI i by rw [show (25 : Int32) = nI 25 from rfl, nI_leI (by omega) (by omega)]; omega)]
        unfold f_X5_name_27
        rw [ko_t S.k104, kr_t S.r104_2, ko_t S.k105, if_pos c1, if_neg (show ¬ (1 : Int32) = 0 by decide)]
        exact nm_43 T
    · have all : ∀ s0 : Int32, f_X5_name_27 (x + 104) a s0 h = some (nI 0, flX h x 1 σ.1) := by
        intro s0
        unfold f_X5_name_27
        rw [ko_t S.k104, kr_t S.r104_2, ko_t S.k105, if_neg c1]
        exact nm_43 T
      rw [all, all]
      split <;> (try split) <;> rfl
theorem MN.fr (M : MN h a u B) (e : ∀ b j, a ≤ b → b < a + 6 → ¬ (b = a ∧ j = 0) → hI h1 b j = hI h b j) : MN h1 a u B := by
  obtain ⟨m1, m2, m3, m4, m5, m6, m7⟩ := M
  refine ⟨(e _ _ (by omega) (by omega) (by omega)).trans m1, (e _ _ (by omega) (by omega) (by omega)).trans m2, (e _ _ (by omega) (by omega) (by omega)).trans m3, fun s k h1 h2 h3 => (e _ _ (by omega) (by omega) (by omega)).trans (m4 s k h1 h2 h3), fun s h1 h2 => (e _ _ (by omega) (by omega) (by omega)).trans (m5 s h1 h2), fun w hw => ?_, (e _ _ (by omega) (by omega) (by omega)).trans m7⟩
  obtain ⟨f, f1, f2, f3, f4, f5⟩ := m6 w hw
  exact ⟨f, f1, (e _ _ (by omega) (by omega) (by omega)).trans f2, (e _ _ (by omega) (by omega) (by omega)).trans f3, f4, fun i hi => (e _ _ (by omega) (by omega) (by omega)).trans (f5 i hi)⟩
theorem c_shelf (C : CS h x a tp n u B σ) (tb : ∀ j, tp j ≤ 255) (hn : n ≤ 1600) (o : okQ B) (iw : isW tp n σ 2 = true) : CsR x a tp n (pShf tp n B σ) h (f_X5_shelfStatement (x + 104) a h) := by
  obtain ⟨T, M, ul⟩ := C
  have S := T.xs
  have ha := T.2.2.2.1
  have A := S.ma ha
  have sh5 := o.2.2.2.2.1
  unfold pShf f_X5_shelfStatement
  rw [ko_t A.k, M.2.2.1]
  by_cases c4 : B.2.2.1 < 4
  · obtain ⟨h1, e1, T1, p1⟩ := ct_nxW T tb hn iw
    have M1 : MN h1 a u B := M.fr (fun b j b1 b2 _ => p1.i (by omega))
    rw [if_pos c4, if_pos (show nI B.2.2.1 < (4 : Int32) by rw [show (4 : Int32) = nI 4 from rfl, nI_ltI (by omega) (by omega)]; exact c4), ko_t S.k104, kr_t S.r104_2, ko_t S.k105, bd_t e1, ko_t T1.xs.k104]
    have nm := c_name T1 tb hn M1 o c4
    have nok := nW_ok iw
    revert nm
    cases en : pNm tp n (nW tp n σ) with
    | inl e =>
      intro nm
      rw [bF_l]
      refine cs_fl p1.pm ?_
      rw [bd_t (show f_X5_name (x + 104) a h1 = _ from nm), if_pos (show nI 0 = (0 : Int32) from rfl)]
      rfl
    | inr q =>
      rintro ⟨nt, nf⟩
      rw [bF_r]
      by_cases tw : tws B q.1 = true
      · obtain ⟨g, eg, pg⟩ := nt tw
        rw [if_pos tw]
        refine cs_fl (e := (3, (nW tp n σ).1)) (p1.pm.trans pg) ?_
        rw [bd_t eg, if_pos (show nI 0 = (0 : Int32) from rfl)]
        rfl
      have tw' : tws B q.1 = false := by cases y : tws B q.1 with | false => rfl | true => exact absurd y tw
      obtain ⟨h2, e2, T2, p2, f2, row⟩ := nf tw'
      rw [if_neg tw, bd_t e2, if_neg (show ¬ nI 1 = (0 : Int32) by decide), ko_t T2.xs.k104]
      have w3 := ct_word T2 tb hn (i := 3) (by omega)
      have ql : σ.1 < q.2.1 := by
        unfold pNm at en
        by_cases y : isNm tp n (nW tp n σ) = true
        · rw [if_pos y] at en
          by_cases y6 : rn isL tp n (nW tp n σ).1 - (nW tp n σ).1 ≤ 6
          · rw [if_pos y6] at en
            obtain ⟨y1, y2, -⟩ := isNm_t y
            have := nWL_ok (tp := tp) (n := n) y1 y2
            cases en
            show σ.1 < (nW tp n (nW tp n σ)).1
            omega
          · rw [if_neg y6] at en; cases en
        · rw [if_neg y] at en; cases en
      revert w3
      cases ew : pWd tp n 3 q.2 with
      | inl e =>
        intro w3
        rw [bF_l]
        refine cs_fl (p1.pm.trans p2) ?_
        rw [bd_t (show f_X5_word (x + 104) 3 h2 = _ from w3), if_pos (show nI 0 = (0 : Int32) from rfl)]
        rfl
      | inr σ3 =>
        rintro ⟨h3, e3, T3, p3⟩
        rw [bF_r, bd_t (show f_X5_word (x + 104) 3 h2 = _ from e3), if_neg (show ¬ nI 1 = (0 : Int32) by decide), ko_t T3.xs.k104]
        have l3 : q.2.1 < σ3.1 := by
          unfold pWd at ew
          by_cases y : isW tp n q.2 3 = true
          · rw [if_pos y] at ew
            cases ew
            exact (nW_ok y).2
          · rw [if_neg y] at ew; cases ew
        rcases ct_num T3 hn (lo := 1) (hi := 7) (by omega) (by omega) with ⟨e, pe, ne⟩ | ⟨z, lo, pe, ne, v⟩
        · rw [pe, bF_l]
          refine cs_fl ((p1.pm.trans p2).trans p3.pm) ?_
          rw [bd_t (show f_X5_number (x + 104) 1 7 h3 = _ from ne), if_pos (show nI 0 = (0 : Int32) from rfl)]
          rfl
        have A3 := T3.xs.ma ha
        have m3 : hI h3 a 3 = nI B.2.2.1 := by rw [p3.i (by omega), f2 _ _ (by omega) (by omega) (by omega)]; exact M1.2.2.1
        obtain ⟨h4, hh4⟩ : ∃ h4, h4 = sI (sI h3 (a + 2) B.2.2.1 (nI (nv tp n σ3))) a 3 (nI (B.2.2.1 + 1)) := ⟨_, rfl⟩
        have g4 : ∀ b j, ¬ (b = a + 2 ∧ j = B.2.2.1 ∨ b = a ∧ j = 3) → hI h4 b j = hI h3 b j := fun b j y => by rw [hh4, hI_sI, if_neg (by omega), hI_sI, if_neg (by omega)]
        have T4 : CT h4 x a tp n σ3 := T3.fr (by rw [hh4]; rfl) (by rw [hh4]; rfl) (fun b j y => g4 b j (by omega))
        have p4 : PM x a h3 h4 := by rw [hh4]; exact (pm_s (by unfold PMc; omega)).trans (pm_s (by unfold PMc; omega))
        obtain ⟨h5, e5, T5, p5⟩ := ct_nxN T4 tb hn z
        have nd := (nD_ok z).2
        rw [pe, bF_r, bd_t (show f_X5_number (x + 104) 1 7 h3 = _ from ne), if_neg (show ¬ nI 1 = (0 : Int32) by decide), ko_t A3.k, kr_t A3.r5, ko_t T3.xs.k104, kr_t T3.xs.r104_2, ko_t T3.xs.k105, ka_t A3.k2, m3, chk_t (inb_nI (show B.2.2.1 < 4 from c4) (by omega)), tn_nI (by omega), v]
        dsimp only [nm]
        have v31 : hI (sI h3 (a + 2) B.2.2.1 (nI (nv tp n σ3))) a 3 = nI B.2.2.1 := by rw [hI_sI, if_neg (by omega)]; exact m3
        rw [v31, show nI B.2.2.1 + 1 = nI (B.2.2.1 + 1) from nI_add _ 1, ← hh4, bd_t e5]
        have eI : ∀ b j, a ≤ b → b < a + 6 → ¬ (b = a + 2 ∧ j = B.2.2.1 ∨ b = a ∧ j = 3 ∨ b = a + 1 ∧ 6 * B.2.2.1 ≤ j ∧ j < 6 * B.2.2.1 + 6) → hI h5 b j = hI h b j := by
          intro b j b1 b2 y
          rw [p5.i (by omega), g4 b j (by omega), p3.i (by omega), f2 b j b1 b2 (by omega), p1.i (by omega)]
        obtain ⟨m1, m2, -, m4, m5, m6, m7⟩ := M
        refine ⟨h5, u, rfl, ⟨T5, ⟨?_, ?_, ?_, ?_, ?_, ?_, ?_⟩, ?_⟩, (((p1.pm.trans p2).trans p3.pm).trans p4).trans p5.pm, eI _ _ (by omega) (by omega) (by omega)⟩
        · exact (eI _ _ (by omega) (by omega) (by omega)).trans m1
        · exact (eI _ _ (by omega) (by omega) (by omega)).trans m2
        · rw [p5.i (by omega), hh4, hI_sI, if_pos ⟨rfl, rfl⟩]; rfl
        · intro s k hs hs4 hk
          show hI h5 (a + 1) (6 * s + k) = nI ((updA B.2.2.2.1 B.2.2.1 q.1 s).getD k 0)
          unfold updA
          by_cases y : s = B.2.2.1
          · rw [if_pos y, y, p5.i (by omega), g4 _ _ (by omega), p3.i (by omega), row k hk]
          · have hs' : s < B.2.2.1 + 1 := hs
            rw [if_neg y, eI _ _ (by omega) (by omega) (by omega)]
            exact m4 s k (by omega) hs4 hk
        · intro s hs hs4
          show hI h5 (a + 2) s = nI (updA B.2.2.2.2.1 B.2.2.1 (nv tp n σ3) s)
          unfold updA
          by_cases y : s = B.2.2.1
          · rw [if_pos y, y, p5.i (by omega), hh4, hI_sI, if_neg (by omega), hI_sI, if_pos ⟨rfl, rfl⟩]
          · have hs' : s < B.2.2.1 + 1 := hs
            rw [if_neg y, eI _ _ (by omega) (by omega) (by omega)]
            exact m5 s (by omega) hs4
        · intro w hw
          obtain ⟨f, f1, f2, f3, f4, f5⟩ := m6 w hw
          exact ⟨f, f1, (eI _ _ (by omega) (by omega) (by omega)).trans f2, (eI _ _ (by omega) (by omega) (by omega)).trans f3, f4, fun i hi => (eI _ _ (by omega) (by omega) (by omega)).trans (f5 i hi)⟩
        · exact (eI _ _ (by omega) (by omega) (by omega)).trans m7
        · show u ≤ (nD tp n σ3).1
          omega
  · rw [if_neg c4, if_neg (show ¬ nI B.2.2.1 < (4 : Int32) by rw [show (4 : Int32) = nI 4 from rfl, nI_ltI (by omega) (by omega)]; exact c4), ko_t S.k104, kr_t S.r104_2, ko_t S.k105, T.v3]
    exact cs_fl (e := (5, σ.1)) PM.refl (fl_b S)
end Es
