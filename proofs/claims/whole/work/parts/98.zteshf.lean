/-! A MACHINE'S TEXT: the reference's shelf statement -/
section Es
variable {h h1 : aH} {x n u : Nat} {tp : Nat → Nat} {σ : tyT} {B : tyB}
/-- any number laid elsewhere -/
theorem RT.fr (T : RT h x tp n σ) (K : hK h1 = hK h) (R : hR h1 = hR h) (e : ∀ b j, x + 107 < b ∧ b < x + 107 + 28 ∨ x + 107 + 39 ≤ b ∧ b < x + 107 + 64 ∨ b = x + 107 ∧ j < 7 → hI h1 b j = hI h b j) : RT h1 x tp n σ := by
  obtain ⟨⟨S, tx, w, n3⟩, o, b5, p, e2, pl, sp, ed⟩ := T
  refine ⟨⟨S.of K R, fun j hj => (e _ _ (by omega)).trans (tx j hj), w.fr (fun b j q => e b j (by omega)), (e _ _ (by omega)).trans n3⟩, o, (e _ _ (by omega)).trans b5, p, (e _ _ (by omega)).trans e2, pl, sp, ?_⟩
  unfold ED at ed ⊢
  rw [e _ 6 (by omega), e _ 4 (by omega)]
  exact ed
theorem m_shelf (T : RT h x tp n (nW tp n σ)) (D : DFm h x u B) (ul : u ≤ σ.1) (o : okQ B) (tb : ∀ j, tp j ≤ 255) (hn : n ≤ 1600) (iw : isW tp n σ 2 = true) : RsR x tp n (pShf tp n B σ) h (f_X12_shelfTold (x + 107) (nI σ.1) h) := by
  have S := T.1.1
  have sh5 := o.2.2.2.2.1
  have bad := T.2.2.1
  have nok := nW_ok iw
  have st : ∀ g, MS g (x + 107) → f_X12_shelfTold_23 (x + 107) g = bd (f_X12_name (x + 107) g) fun v47 h48 => f_X12_shelfTold_31 FU (x + 107) v47 (nI 0) h48 := by
    intro g Sg
    unfold f_X12_shelfTold_23
    rw [ko_t Sg.k]
    rfl
  unfold pShf f_X12_shelfTold
  rw [ko_t S.k, bad, if_pos (show nI 0 = (0 : Int32) from rfl), kr_t S.r37, ka_t S.k37, chk_t (show inb (2 : Int32) 6 = true by decide), t2_, D.2.2.1]
  by_cases c4 : B.2.2.1 < 4
  · rw [if_pos c4, if_neg (show ¬ nI B.2.2.1 = (4 : Int32) from nI_q (b := 4) (by omega) (by omega) (by omega)), st h S]
    have nm := m_name T tb hn
    revert nm
    cases en : pNm tp n (nW tp n σ) with
    | inl e =>
      rintro ⟨v, h1, e1, b1, q1⟩
      rw [bF_l, bd_t e1]
      exact ⟨h1, sh_bad b1 (s := B.2.2.1) (by omega) (D.qn q1).2.2.1 v B.2.2.1 0 FU (by omega) (FU_gt (by omega)), b1, q1.rx⟩
    | inr q =>
      rintro ⟨h1, e1, T1, q1, e36⟩
      have D1 := D.qn q1
      have S1 := T1.1.1
      have okl := pNm_inv en
      have sc := sh_scan T1 D1 o ⟨okl.2.1, okl.2.2⟩ e36 B.2.2.1 0 FU (by omega) (FU_gt (by omega))
      rw [bF_r, bd_t e1]
      by_cases tw : tws B q.1 = true
      · rw [if_pos tw]
        exact ⟨_, sc.1 tw, BDm.fl S1 (by omega) (by omega), q1.rx.trans qx_fl.qn.rx⟩
      have tw' : tws B q.1 = false := by cases y : tws B q.1 with | false => rfl | true => exact absurd y tw
      obtain ⟨f2, e2⟩ := sc.2 tw'
      have ql : σ.1 < q.2.1 := by
        unfold pNm at en
        by_cases y : isNm tp n (nW tp n σ) = true
        · rw [if_pos y] at en
          by_cases y6 : rn isL tp n (nW tp n σ).1 - (nW tp n σ).1 ≤ 6
          · rw [if_pos y6] at en
            obtain ⟨y1, y2, -⟩ := isNm_t y
            have := nWL_ok (tp := tp) (n := n) y1 y2
            cases en
            show σ.1 < (nW tp n (nW tp n σ)).1
            omega
          · rw [if_neg y6] at en; cases en
        · rw [if_neg y] at en; cases en
      rw [if_neg tw, e2]
      show RsR x tp n _ h (b_X12_shelfTold_31 (f_X12_shelfTold_31 f2) (x + 107) (lN (nmL q.1)) (nI B.2.2.1) h1)
      unfold b_X12_shelfTold_31
      rw [ko_t S1.k, kr_t S1.r37, ka_t S1.k37, chk_t (show inb (2 : Int32) 6 = true by decide), t2_, D1.2.2.1, if_pos (Int32.le_refl _), kr_t (show hR h1 (x + 107) 14 = some (x + 107 + 3 + 3) from S1.r14)]
      have w3 := mt_word T1 tb hn (i := 3) (by omega)
      revert w3
      cases ew : pWd tp n 3 q.2 with
      | inl e =>
        rintro ⟨h3, e3, b3, q3⟩
        rw [bF_l]
        refine ⟨h3, ?_, b3, q1.rx.trans q3.rx⟩
        rw [bd_t e3, ko_t b3.1.k, bd_t (bd_num b3), ko_t b3.1.k, b3.2.1, if_neg (nI_n0 b3.2.2.2.1 b3.2.2.2.2)]
      | inr σ3 =>
        rintro ⟨h3, e3, T3, q3⟩
        have l3 : q.2.1 < σ3.1 := by
          unfold pWd at ew
          by_cases y : isW tp n q.2 3 = true
          · rw [if_pos y] at ew
            cases ew
            exact (nW_ok y).2
          · rw [if_neg y] at ew; cases ew
        rw [bF_r, bd_t e3, ko_t T3.1.1.k]
        rcases mt_num T3 tb hn (lo := 1) (hi := 7) (by omega) (by omega) with ⟨e, v, h4, pe, ne, b4, q4⟩ | ⟨h4, z, lo, pe, ne, T4, q4⟩
        · rw [pe, bF_l]
          refine ⟨h4, ?_, b4, (q1.rx.trans q3.rx).trans q4.rx⟩
          rw [bd_t (show f_X12_number (x + 107) 1 7 h3 = _ from ne), ko_t b4.1.k, b4.2.1, if_neg (nI_n0 b4.2.2.2.1 b4.2.2.2.2)]
        have S4 := T4.1.1
        have D4 := (D1.qn q3).qn q4
        have nd := (nD_ok z).2
        obtain ⟨m1, m2, m3, m4, m5, m6, m7⟩ := D4
        obtain ⟨h5, hh5⟩ : ∃ h5, h5 = sL h4 (x + 107 + 29) B.2.2.1 (lN (nmL q.1)) := ⟨_, rfl⟩
        obtain ⟨h6, hh6⟩ : ∃ h6, h6 = sI h5 (x + 107 + 30) B.2.2.1 (nI (nv tp n σ3)) := ⟨_, rfl⟩
        obtain ⟨h7, hh7⟩ : ∃ h7, h7 = sI h6 (x + 107 + 28) 2 (nI (B.2.2.1 + 1)) := ⟨_, rfl⟩
        have i5 : ∀ b j, hI h5 b j = hI h4 b j := fun b j => by rw [hh5]; rfl
        have i6 : ∀ b j, ¬ (b = x + 107 + 30 ∧ j = B.2.2.1) → hI h6 b j = hI h4 b j := fun b j y => by rw [hh6, hI_sI, if_neg y, i5]
        have i7 : ∀ b j, ¬ (b = x + 107 + 30 ∧ j = B.2.2.1 ∨ b = x + 107 + 28 ∧ j = 2) → hI h7 b j = hI h4 b j := fun b j y => by rw [hh7, hI_sI, if_neg (by omega), i6 b j (by omega)]
        have l7 : ∀ b j, ¬ (b = x + 107 + 29 ∧ j = B.2.2.1) → hL h7 b j = hL h4 b j := fun b j y => by rw [hh7, hL_sI, hh6, hL_sI, hh5, hL_sL, if_neg y]
        have T7 : RT h7 x tp n (nD tp n σ3) := T4.fr (by rw [hh7, hh6, hh5]; rfl) (by rw [hh7, hh6, hh5]; rfl) (fun b j y => i7 b j (by omega))
        have r7 : RX x h4 h7 := by
          rw [hh7, hh6, hh5]
          exact ((rx_l c4).trans (rx_s (by unfold RC; omega))).trans (rx_s (by unfold RC; omega))
        have v44 : hI h7 (x + 107) 44 = hI h (x + 107) 44 := by
          rw [i7 _ _ (by omega), q4.2.2.2.2.2 _ _ (by unfold QC; omega), q3.2.2.2.2.2 _ _ (by unfold QC; omega), q1.2.2.2.2.2 _ _ (by unfold QC; omega)]
        rw [pe, bF_r]
        refine ⟨h7, u, ?_, T7, ⟨?_, ?_, ?_, ?_, ?_, ?_, ?_⟩, ?_, ((q1.rx.trans q3.rx).trans q4.rx).trans r7, v44⟩
        · rw [bd_t (show f_X12_number (x + 107) 1 7 h3 = _ from ne), ko_t S4.k, T4.2.2.1, if_pos (show nI 0 = (0 : Int32) from rfl), kr_t S4.r38, kr_t S4.r37, ka_t S4.k37, chk_t (show inb (2 : Int32) 6 = true by decide), ka_t S4.k38, m3, chk_t (inb_nI (show B.2.2.1 < 8 by omega) (by omega)), kr_t S4.r39, tn_nI (show B.2.2.1 < 2 ^ 31 by omega), ← hh5]
          dsimp only [nm]
          rw [i5, m3, ka_t S4.k39, chk_t (inb_nI (show B.2.2.1 < 8 by omega) (by omega)), tn_nI (show B.2.2.1 < 2 ^ 31 by omega), ← hh6, i6 _ _ (by omega), m3, show nI B.2.2.1 + 1 = nI (B.2.2.1 + 1) from nI_k _ 1, ← hh7]
        · exact (i7 _ _ (by omega)).trans m1
        · exact (i7 _ _ (by omega)).trans m2
        · rw [hh7, hI_sI, if_pos ⟨rfl, rfl⟩]; rfl
        · intro s hs hs4
          show hL h7 (x + 107 + 29) s = lN (nmL (updA B.2.2.2.1 B.2.2.1 q.1 s))
          unfold updA
          by_cases y : s = B.2.2.1
          · rw [if_pos y, y, hh7, hL_sI, hh6, hL_sI, hh5, hL_sL, if_pos ⟨rfl, rfl⟩]
          · have hs' : s < B.2.2.1 + 1 := hs
            rw [if_neg y, l7 _ _ (by omega)]
            exact m4 s (by omega) hs4
        · intro s hs hs4
          show hI h7 (x + 107 + 30) s = nI (updA B.2.2.2.2.1 B.2.2.1 (nv tp n σ3) s)
          unfold updA
          by_cases y : s = B.2.2.1
          · rw [if_pos y, y, hh7, hI_sI, if_neg (by omega), hh6, hI_sI, if_pos ⟨rfl, rfl⟩]
          · have hs' : s < B.2.2.1 + 1 := hs
            rw [if_neg y, i7 _ _ (by omega)]
            exact m5 s (by omega) hs4
        · intro w hw
          rcases m6 w hw with ⟨a1, a2⟩ | ⟨a1, f, f1, f2, f3, f4⟩
          · exact Or.inl ⟨a1, (i7 _ _ (by omega)).trans a2⟩
          · exact Or.inr ⟨a1, f, f1, (i7 _ _ (by omega)).trans f2, (i7 _ _ (by omega)).trans f3, fun i hi => (i7 _ _ (by omega)).trans (f4 i hi)⟩
        · exact (i7 _ _ (by omega)).trans m7
        · show u ≤ (nD tp n σ3).1
          omega
  · have s4 : B.2.2.1 = 4 := by omega
    have b := BDm.fl (x := x) (p := σ.1) S (k := 5) (by omega) (by omega)
    rw [if_neg c4, if_pos (show nI B.2.2.1 = (4 : Int32) by rw [s4]; rfl), bd_t (show f_X12_fail (x + 107) 5 (nI σ.1) h = _ from m_fail S bad 5 σ.1)]
    refine ⟨flH h x 5 σ.1, ?_, b, qx_fl.qn.rx⟩
    show f_X12_shelfTold_23 (x + 107) (flH h x 5 σ.1) = _
    rw [st _ b.1, bd_t (bd_name b)]
    exact sh_bad b (s := B.2.2.1) (by omega) (by unfold flH; rw [hI_sI, if_neg (by omega), hI_sI, if_neg (by omega)]; exact D.2.2.1) _ B.2.2.1 0 FU (by omega) (FU_gt (by omega))
end Es
