/-! THE TEXTS: the reference's facts that are no tests in brackets -/
def FctR (x : Nat) (tp : Nat → Nat) (n w s0 : Nat) (r : tyR) (h : aH) (c W : List Nat) (o bs : Nat) (s : Option (Unit × aH)) : Prop := match r with
  | none => True
  | some (.inl e) => FLT x h s e.1 e.2
  | some (.inr q) => ∃ h1, s = some ((), h1) ∧ RQ h1 x tp n w q.2 (c ++ q.1) W o bs ∧ s0 < q.2.1 ∧ QX x h h1
section Tg
variable {h : aH} {x n w o bs k1 k2 : Nat} {tp : Nat → Nat} {σ : tyT} {c W : List Nat}
theorem FLT.of {h1 : aH} {r r' : Option (Unit × aH)} {k p : Nat} (f : FLT x h1 r k p) (e : r' = r) (q : QX x h h1) : FLT x h r' k p := by
  obtain ⟨g, e1, b5, b6, b7, y⟩ := f
  exact ⟨g, e.trans e1, b5, b6, b7, q.trans y⟩
/-- a code where a fault stands -/
theorem m_codeB {g : aH} {m q : Nat} (S : MS g (x + 107)) (e : hI g (x + 107) 92 = nI m) (hm : m ≤ 1601) : f_X12_qFact_102 (x + 107) (nI q) g = some ((), sI (sI g (x + 107 + 64) m (nI q)) (x + 107) 92 (nI (m + 1))) := by
  have e1 : f_X12_qCode (x + 107) (nI q) g = some ((), sI (sI g (x + 107 + 64) m (nI q)) (x + 107) 92 (nI (m + 1))) := by
    simp (disch := omega) only [nm, bd_s, ko_K, ka_K, koK_t, kaK_t, kr_s, kn_s, kn_n, hK_sI, hR_sI, hK_sL, hR_sL, hI_sL, hL_sI, hL_sL, hI_sI, hN_sI, hN_sL, ch_G, ch_T, nb_0, nb_1, zb_G, d_T, d_F, d_eT, d_eF, b2i_t, b2i_f, tn_nI, fa_lit, fa_litL, m1_e, nI_add, pk_mul, pk_sub, nI_leI, nI_ltI, nI_eq, le_T, le_F, lt_T, lt_F, eq_T, eq_F, if_pos, if_neg, m1_le, m1_lt', m1_gt, m1_le', m1_eq, m1_qe, b2i_eq0, in_N, in_n, in_I, ↓reduceIte, Bool.true_eq_false, Bool.false_eq_true, reduceCtorEq, decide_eq_true_eq, decide_eq_false_iff_not, Nat.not_lt, Nat.not_le, not_true_eq_false, not_false_eq_true, true_and, and_true, and_self, false_and, and_false, true_or, or_true, false_or, or_false, f_X12_qCode, ↓nm, S.k, S.r91, S.k91, e]
  unfold f_X12_qFact_102
  rw [ko_t S.k, bd_t e1]
theorem m_cmp (A : RA h x tp n σ) (T : RQ h x tp n w σ c W o bs) (tb : ∀ j, tp j ≤ 255) (hn : n ≤ 1600) (hw : w < 4) (hd : ∀ u, W.head? = some u → 5 ≤ u) (f : Nat) (hf : 3 + 8 * (6 - o) < f) {s q : Nat} (hs : s = 60 ∧ q = 7 ∨ s = 62 ∧ q = 8 ∨ s = 61 ∧ q = 9) (z : isS tp n σ s = true) (c1 c0 : List Nat) (hc : c = c0 ++ c1) : FctR x tp n w σ.1 (pCmp tp n (pD tp n w f) o c1 σ q) h c0 W o bs (f_X12_qFact_63 (x + 107) (nI s) h) := by
  have S := A.1.1
  have sn := A.2.1.1
  have at0 : hI h (x + 107) 2 = nI σ.1 := A.2.2.2.1
  have ns := nS_ok z
  obtain ⟨-, Q, lc, o6, lb⟩ := T
  have T1 : RQ (sI h (x + 107) 2 (nI (σ.1 + 1))) x tp n w (nS tp n σ) c W o bs := ⟨A.sg z, Q.s (by omega) _, by omega, o6, lb⟩
  have q0 : QX x h (sI h (x + 107) 2 (nI (σ.1 + 1))) := qx_s (by unfold QC; omega)
  have sm := m_sums T1 tb hn hw hd f
  have st : ∀ g, f_X12_qSums (x + 107) (sI h (x + 107) 2 (nI (σ.1 + 1))) = some ((), g) → f_X12_qFact_63 (x + 107) (nI s) h = f_X12_qFact_102 (x + 107) (nI q) g := by
    intro g e
    unfold f_X12_qFact_63
    rw [ko_t S.k, at0, show nI σ.1 + 1 = nI (σ.1 + 1) from nI_k _ _, bd_t e]
    rcases hs with ⟨rfl, rfl⟩ | ⟨rfl, rfl⟩ | ⟨rfl, rfl⟩
    · rw [if_pos (show nI 60 = (60 : Int32) from rfl)]; rfl
    · rw [if_neg (show ¬ nI 62 = (60 : Int32) by decide), if_pos (show nI 62 = (62 : Int32) from rfl)]; rfl
    · rw [if_neg (show ¬ nI 61 = (60 : Int32) by decide), if_neg (show ¬ nI 61 = (62 : Int32) by decide)]; rfl
  unfold pCmp
  revert sm
  have gd := pD_good (w := w) f 3 o (nS tp n σ) (by omega) o6 ns.1 (by omega) hf
  revert gd
  cases pD tp n w f 3 o (nS tp n σ) with
  | none => intro _ _; exact trivial
  | some r =>
    cases r with
    | inl e =>
      intro _
      rintro ⟨g, e1, b5, b6, b7, ⟨m, e92, hm⟩, q1⟩
      have Sg := (T1.1.1.qx q1).1
      refine ⟨_, (st g e1).trans (m_codeB Sg e92 hm), ?_, ?_, b7, ((q0.trans q1).trans (qx_s (by unfold QC; omega))).trans (qx_s (by unfold QC; omega))⟩
      · rw [hI_sI, if_neg (by omega), hI_sI, if_neg (by omega)]; exact b5
      · rw [hI_sI, if_neg (by omega), hI_sI, if_neg (by omega)]; exact b6
    | inr r =>
      intro gd
      have gl : r.1.length + (nS tp n σ).1 ≤ r.2.1 := gd.2.2.1
      rintro ⟨g, e1, Ag, Tg, pg, q1⟩
      have lg := Tg.2.2.1
      have sg := Ag.2.1.1
      obtain ⟨g2, e2, Q2, y2⟩ := m_code Tg.2.1 (by omega) (v := q)
      have e3 : f_X12_qFact_102 (x + 107) (nI q) g = some ((), g2) := by
        unfold f_X12_qFact_102
        rw [ko_t Ag.1.1.k, bd_t e2]
      refine ⟨g2, (st g e1).trans e3, ⟨Tg.1.qy y2, ?_, ?_, o6, lb⟩, by show σ.1 < r.2.1; omega, (q0.trans q1).trans y2.x⟩
      · show QQ g2 x w (c0 ++ (c1 ++ r.1 ++ [q])) W o bs
        rw [hc] at Q2
        rw [show c0 ++ (c1 ++ r.1 ++ [q]) = c0 ++ c1 ++ r.1 ++ [q] by simp]
        exact Q2
      · show (c0 ++ (c1 ++ r.1 ++ [q])).length + W.length ≤ r.2.1
        simp only [List.length_append, List.length_singleton] at lg ⊢
        rw [hc] at lc
        simp only [List.length_append] at lc
        omega
/-- a comparison, or true: what qFact does -/
theorem m_fact (A : RA h x tp n σ) (T : RQ h x tp n w σ c W o bs) (tb : ∀ j, tp j ≤ 255) (hn : n ≤ 1600) (hw : w < 4) (hd : ∀ u, W.head? = some u → 5 ≤ u) (f : Nat) (hf : 3 + 8 * (6 - o) < f) (n21 : isW tp n σ 21 = false) (n91 : isS tp n σ 91 = false) : FctR x tp n w σ.1 (pFact tp n (pD tp n w f) o σ) h c W o bs (f_X12_qFact (x + 107) h) := by
  have S := A.1.1
  have sn := A.2.1.1
  have r75 : hR h (x + 107) 75 = some (x + 107 + 39 + 9) := (S.aw 9 (by omega)).1
  have k9 := (S.aw 9 (by omega)).2
  have tk := m_takes A hn k9 (by decide) (m_hereA A tb hn (i := 9) (by omega))
  unfold pFact
  by_cases z1 : isW tp n σ 22 = true
  · rw [if_pos z1]
    obtain ⟨-, Q, lc, o6, lb⟩ := T
    have nw := (nW_ok z1).2
    have Q1 : QQ (tkH h x (rn isL tp n σ.1)) x w c W o bs := (Q.s (by omega) _).s (by omega) _
    have T1 := A.w z1
    obtain ⟨g, e, Qg, yg⟩ := m_code Q1 (by omega) (v := 13)
    refine ⟨g, ?_, ⟨T1.qy yg, Qg, ?_, o6, lb⟩, nw, qx_tk.trans yg.x⟩
    · unfold f_X12_qFact
      rw [ko_t S.k, kr_t r75, bd_t (tk.1 z1), if_neg (show ¬ nI 1 = (0 : Int32) by decide), ko_t T1.1.1.k, bd_t (show f_X12_qCode (x + 107) 13 _ = _ from e)]
    · show (c ++ [13]).length + W.length ≤ (nW tp n σ).1
      rw [List.length_append, List.length_singleton]; omega
  · rw [if_neg z1, if_neg (show ¬ isW tp n σ 21 = true by rw [n21]; exact Bool.false_ne_true), if_neg (show ¬ isS tp n σ 91 = true by rw [n91]; exact Bool.false_ne_true)]
    have z1 : isW tp n σ 22 = false := by cases y : isW tp n σ 22 with | false => rfl | true => exact absurd y z1
    have s1 := m_sums T tb hn hw hd f
    revert s1
    cases pD tp n w f 3 o σ with
    | none => intro _; exact trivial
    | some r =>
      cases r with
      | inl e =>
        rintro ⟨h1, e1, b5, b6, b7, -, q1⟩
        refine ⟨h1, ?_, b5, b6, b7, q1⟩
        unfold f_X12_qFact
        rw [ko_t S.k, kr_t r75, bd_t (tk.2 z1), if_pos (show nI 0 = (0 : Int32) from rfl), ko_t S.k, bd_t e1, ko_t (A.1.qx q1).1.k, b5, if_neg (nI_n0 b7.1 b7.2)]
      | inr q =>
        rintro ⟨h1, e1, A1, T1, pg, q1⟩
        have S1 := A1.1.1
        have lk1 := m_lookA A1 tb hn
        have at1 : hI h1 (x + 107) 2 = nI q.2.1 := A1.2.2.2.1
        have st : f_X12_qFact (x + 107) h = if btT tp n q.2 = 60 then f_X12_qFact_63 (x + 107) (btT tp n q.2) h1 else if btT tp n q.2 = 62 then f_X12_qFact_63 (x + 107) (btT tp n q.2) h1 else if btT tp n q.2 = 61 then f_X12_qFact_63 (x + 107) (btT tp n q.2) h1 else some ((), flH h1 x 1 q.2.1) := by
          unfold f_X12_qFact
          rw [ko_t S.k, kr_t r75, bd_t (tk.2 z1), if_pos (show nI 0 = (0 : Int32) from rfl), ko_t S.k, bd_t e1, ko_t S1.k, A1.2.2.1, if_pos (show nI 0 = (0 : Int32) from rfl), bd_t lk1, ko_t S1.k, at1, bd_t (show f_X12_fail (x + 107) 1 (nI q.2.1) h1 = _ from m_fail S1 A1.2.2.1 1 q.2.1)]
          rfl
        show FctR x tp n w σ.1 (if isS tp n q.2 60 = true then pCmp tp n (pD tp n w f) o q.1 q.2 7 else if isS tp n q.2 62 = true then pCmp tp n (pD tp n w f) o q.1 q.2 8 else if isS tp n q.2 61 = true then pCmp tp n (pD tp n w f) o q.1 q.2 9 else fl 1 q.2.1) h c W o bs (f_X12_qFact (x + 107) h)
        have go : ∀ s q', (s = 60 ∧ q' = 7 ∨ s = 62 ∧ q' = 8 ∨ s = 61 ∧ q' = 9) → isS tp n q.2 s = true → f_X12_qFact (x + 107) h = f_X12_qFact_63 (x + 107) (nI s) h1 → FctR x tp n w σ.1 (pCmp tp n (pD tp n w f) o q.1 q.2 q') h c W o bs (f_X12_qFact (x + 107) h) := by
          intro s q' hs z e
          have i := m_cmp A1 T1 tb hn hw hd f hf hs z q.1 c rfl
          revert i
          cases pCmp tp n (pD tp n w f) o q.1 q.2 q' with
          | none => intro _; exact trivial
          | some t =>
            cases t with
            | inl t => intro i; exact FLT.of i e q1
            | inr t =>
              rintro ⟨h2, e2, T2, p2, q2⟩
              exact ⟨h2, e.trans e2, T2, by omega, q1.trans q2⟩
        by_cases y1 : isS tp n q.2 60 = true
        · rw [if_pos y1]
          have b := btT_t (n := n) (σ := q.2) tb (q := 60) (by omega) y1
          exact go 60 7 (by omega) y1 (by rw [st, b, if_pos (show nI 60 = (60 : Int32) from rfl)])
        · rw [if_neg y1]
          have b1 := btT_f (n := n) (σ := q.2) tb (q := 60) (by omega) (isS_f y1)
          by_cases y2 : isS tp n q.2 62 = true
          · rw [if_pos y2]
            have b := btT_t (n := n) (σ := q.2) tb (q := 62) (by omega) y2
            exact go 62 8 (by omega) y2 (by rw [st, b, if_neg (show ¬ nI 62 = (60 : Int32) by decide), if_pos (show nI 62 = (62 : Int32) from rfl)])
          · rw [if_neg y2]
            have b2 := btT_f (n := n) (σ := q.2) tb (q := 62) (by omega) (isS_f y2)
            by_cases y3 : isS tp n q.2 61 = true
            · rw [if_pos y3]
              have b := btT_t (n := n) (σ := q.2) tb (q := 61) (by omega) y3
              exact go 61 9 (by omega) y3 (by rw [st, b, if_neg (show ¬ nI 61 = (60 : Int32) by decide), if_neg (show ¬ nI 61 = (62 : Int32) by decide), if_pos (show nI 61 = (61 : Int32) from rfl)])
            · rw [if_neg y3]
              have b3 := btT_f (n := n) (σ := q.2) tb (q := 61) (by omega) (isS_f y3)
              have f5 := fl_5 (h := h1) (x := x) (k := 1) (p := q.2.1)
              exact ⟨flH h1 x 1 q.2.1, by rw [st, if_neg (show ¬ btT tp n q.2 = (60 : Int32) from b1), if_neg (show ¬ btT tp n q.2 = (62 : Int32) from b2), if_neg (show ¬ btT tp n q.2 = (61 : Int32) from b3)], f5.1, f5.2, ⟨by omega, by omega⟩, q1.trans qx_fl⟩
end Tg
