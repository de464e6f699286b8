/-! A MACHINE'S TEXT: the reference's statements -/
def ReR (x : Nat) (tp : Nat → Nat) (n k : Nat) (r : tyF (tyB × tyT)) (h : aH) (s : Option (Unit × aH)) : Prop := match r with
  | .inl e => ∃ h1, s = some ((), h1) ∧ BDm h1 x e ∧ RX x h h1
  | .inr q => ∃ h1 u, s = some ((), h1) ∧ RT h1 x tp n q.2 ∧ DFm h1 x u q.1 ∧ u ≤ q.2.1 ∧ RX x h h1 ∧ hI h1 (x + 107) 44 = nI k
section Gs
variable {h h1 : aH} {x n u : Nat} {tp : Nat → Nat} {σ : tyT} {e : Nat × Nat} {B : tyB}
theorem rs_pre {h0 : aH} {r : tyF (tyB × tyT)} {s : Option (Unit × aH)} (k : RsR x tp n r h s) (p : RX x h0 h) (e44 : hI h (x + 107) 44 = hI h0 (x + 107) 44) : RsR x tp n r h0 s := by
  cases r with
  | inl y =>
    obtain ⟨h1, e1, b, q⟩ := k
    exact ⟨h1, e1, b, p.trans q⟩
  | inr y =>
    obtain ⟨h1, u, e1, T, D, ul, q, z⟩ := k
    exact ⟨h1, u, e1, T, D, ul, p.trans q, z.trans e44⟩
theorem DFm.s44 (D : DFm h x u B) {v : Int32} : DFm (sI h (x + 107) 44 v) x u B := D.fr (fun b j y => by rw [hI_sI, if_neg (by omega)]) (fun _ => rfl)
theorem m_94 {k : Nat} {r : tyF (tyB × tyT)} {s : Option (Unit × aH)} (tb : ∀ j, tp j ≤ 255) (hn : n ≤ 1600) (e44 : hI h (x + 107) 44 = nI k) (rs : RsR x tp n r h s) : ReR x tp n (k + 1) (pEnd tp n r) h (bd s fun _ g => f_X12_statementTold_94 (x + 107) g) := by
  cases r with
  | inl e =>
    obtain ⟨h1, e1, b, q⟩ := rs
    refine ⟨sI h1 (x + 107) 44 (hI h1 (x + 107) 44 + 1), ?_, b.fr rfl rfl (by rw [hI_sI, if_neg (by omega)]) (by rw [hI_sI, if_neg (by omega)]), q.trans (rx_s (by unfold RC; omega))⟩
    rw [bd_t e1]
    unfold f_X12_statementTold_94
    rw [ko_t b.1.k, bd_t (bd_sign b), ko_t b.1.k]
  | inr q =>
    obtain ⟨h1, u, e1, T, D, ul, rx, z⟩ := rs
    have S := T.1.1
    have sg := mt_sign T tb hn (q := 59) (by omega)
    have eP : pEnd tp n (.inr q) = bF (pSg tp n 59 q.2) fun σ => .inr (q.1, σ) := rfl
    rw [eP, bd_t e1]
    unfold f_X12_statementTold_94
    rw [ko_t S.k]
    revert sg
    cases es : pSg tp n 59 q.2 with
    | inl e =>
      rintro ⟨h2, e2, b, q2⟩
      refine ⟨sI h2 (x + 107) 44 (hI h2 (x + 107) 44 + 1), ?_, b.fr rfl rfl (by rw [hI_sI, if_neg (by omega)]) (by rw [hI_sI, if_neg (by omega)]), (rx.trans q2.rx).trans (rx_s (by unfold RC; omega))⟩
      rw [bd_t (show f_X12_asksSign (x + 107) 59 h1 = _ from e2), ko_t b.1.k]
    | inr σ2 =>
      rintro ⟨h2, e2, T2, q2⟩
      have l2 : u ≤ σ2.1 := by
        unfold pSg at es
        by_cases y : isS tp n q.2 59 = true
        · rw [if_pos y] at es
          cases es
          have := (nS_ok y).2
          omega
        · rw [if_neg y] at es; cases es
      have v44 : hI h2 (x + 107) 44 = nI k := by rw [q2.2.2.2.2.2 _ _ (by unfold QC; omega), z]; exact e44
      refine ⟨sI h2 (x + 107) 44 (nI (k + 1)), u, ?_, T2.fr rfl rfl (fun b j y => by rw [hI_sI, if_neg (by omega)]), (D.qn q2).s44, l2, (rx.trans q2.rx).trans (rx_s (by unfold RC; omega)), by rw [hI_sI, if_pos ⟨rfl, rfl⟩]⟩
      rw [bd_t (show f_X12_asksSign (x + 107) 59 h1 = _ from e2), ko_t T2.1.1.k, v44, show nI k + 1 = nI (k + 1) from nI_k k 1]
theorem m_stm {k : Nat} (A : RA h x tp n σ) (D : DFm h x u B) (ul : u ≤ σ.1) (o : okQ B) (tb : ∀ j, tp j ≤ 255) (hn : n ≤ 1600) (hk : k < 40) (e44 : hI h (x + 107) 44 = nI k) : ReR x tp n (k + 1) (pEnd tp n (pStm tp n B σ)) h (f_X12_statementTold (x + 107) h) := by
  have S := A.1.1
  have v2 := A.2.2.2.1
  have id2 : sI h (x + 107) 2 (nI σ.1) = h := sI_id v2
  have tk : ∀ i, i < 25 → (isW tp n σ i = true → f_X12_takes (x + 107) (x + 107 + 3 + i) h = some (nI 1, tkH h x (rn isL tp n σ.1))) ∧ (isW tp n σ i = false → f_X12_takes (x + 107) (x + 107 + 3 + i) h = some (nI 0, h)) := by
    intro i hi
    have := takesM A.rt tb hn hi
    rw [id2] at this
    exact this
  have o0 : nI 0 = (0 : Int32) := rfl
  have o1 : ¬ nI 1 = (0 : Int32) := by decide
  obtain ⟨h1, hh1⟩ : ∃ h1, h1 = tkH h x (rn isL tp n σ.1) := ⟨_, rfl⟩
  have q1 : QN x h h1 := by rw [hh1]; exact qx_tk.qn
  have D1 := D.qn q1
  have r1 : RX x h h1 := q1.rx
  have z1 : hI h1 (x + 107) 44 = hI h (x + 107) 44 := q1.2.2.2.2.2 _ _ (by unfold QC; omega)
  have S1 : MS h1 (x + 107) := S.of q1.1 q1.2.1
  have tw : ∀ i, isW tp n σ i = true → RT h1 x tp n (nW tp n σ) := fun i z => by rw [hh1]; exact A.w z
  rw [← hh1] at tk
  unfold f_X12_statementTold pStm
  dsimp only [nm]
  rw [ko_t S.k, e44, if_neg (show ¬ nI k = (40 : Int32) from nI_q (b := 40) (by omega) (by omega) (by omega)), v2, kr_t (show hR h (x + 107) 13 = some (x + 107 + 3 + 2) from S.r13)]
  by_cases i2 : isW tp n σ 2 = true
  · rw [if_pos i2, bd_t ((tk 2 (by omega)).1 i2), if_neg o1, ko_t S1.k]
    exact m_94 tb hn e44 (rs_pre (m_shelf (tw 2 i2) D1 ul o tb hn i2) r1 z1)
  rw [if_neg i2, bd_t ((tk 2 (by omega)).2 (isW_f i2)), if_pos o0, ko_t S.k, kr_t (show hR h (x + 107) 15 = some (x + 107 + 3 + 4) from S.r15)]
  by_cases i4 : isW tp n σ 4 = true
  · rw [if_pos i4, bd_t ((tk 4 (by omega)).1 i4), if_neg o1, ko_t S1.k]
    exact m_94 tb hn e44 (rs_pre (m_form (w := 0) (by omega) (tw 4 i4) D1 ul tb hn i4) r1 z1)
  rw [if_neg i4, bd_t ((tk 4 (by omega)).2 (isW_f i4)), if_pos o0, ko_t S.k, kr_t (show hR h (x + 107) 16 = some (x + 107 + 3 + 5) from S.r16)]
  by_cases i5 : isW tp n σ 5 = true
  · rw [if_pos i5, bd_t ((tk 5 (by omega)).1 i5), if_neg o1, ko_t S1.k]
    exact m_94 tb hn e44 (rs_pre (m_form (w := 1) (by omega) (tw 5 i5) D1 ul tb hn i5) r1 z1)
  rw [if_neg i5, bd_t ((tk 5 (by omega)).2 (isW_f i5)), if_pos o0, ko_t S.k, kr_t (show hR h (x + 107) 17 = some (x + 107 + 3 + 6) from S.r17)]
  by_cases i6 : isW tp n σ 6 = true
  · have as : f_X12_asks (x + 107) (x + 107 + 3 + 6) h = some ((), h1) := by
      unfold f_X12_asks
      rw [ko_t S.k, A.2.2.1, if_pos o0, bd_t ((tk 6 (by omega)).1 i6), if_neg o1]
      rfl
    rw [if_pos i6, bd_t as, ko_t S1.k]
    exact m_94 tb hn e44 (rs_pre (m_form (w := 2) (by omega) (tw 6 i6) D1 ul tb hn i6) r1 z1)
  · have b := BDm.fl (x := x) (p := σ.1) S (k := 1) (by omega) (by omega)
    have as : f_X12_asks (x + 107) (x + 107 + 3 + 6) h = some ((), flH h x 1 σ.1) := by
      unfold f_X12_asks
      rw [ko_t S.k, A.2.2.1, if_pos o0, bd_t ((tk 6 (by omega)).2 (isW_f i6)), if_pos o0, ko_t S.k, v2, bd_t (show f_X12_fail (x + 107) 1 (nI σ.1) h = _ from m_fail S A.2.2.1 1 σ.1)]
      rfl
    rw [if_neg i6, bd_t as, ko_t b.1.k]
    exact m_94 (r := .inl (1, σ.1)) tb hn e44 ⟨flH h x 1 σ.1, bd_codes b, b, qx_fl.qn.rx⟩
/-- what is asked first -/
theorem mem_tail (b : BDm h x e) : (bd (f_X12_asks (x + 107) (x + 107 + 3 + 1) h) fun _ h20 => ko h20 (x + 107) 11 <| kr (hR h20 (x + 107) 37) fun a23 => bd (f_X12_number (x + 107) 4 8 h20) fun v25 h26 => ka h26 a23 .int fun n29 => chk (inb 1 n29 = true) <| ko h26 (x + 107) 11 <| bd (f_X12_asksSign (x + 107) 59 (sI h26 a23 (1 : Int32).toNatClampNeg v25)) fun _ h32 => some ((), h32)) = some ((), sI h (x + 107 + 28) 1 0) := by
  have S := b.1
  have b1 : BDm (sI h (x + 107 + 28) 1 0) x e := b.fr rfl rfl (by rw [hI_sI, if_neg (by omega)]) (by rw [hI_sI, if_neg (by omega)])
  rw [bd_t (bd_asks b), ko_t S.k, kr_t S.r37, bd_t (bd_num b), ka_t S.k37, chk_t (show inb (1 : Int32) 6 = true by decide), ko_t S.k, show (1 : Int32).toNatClampNeg = 1 by decide, bd_t (bd_sign b1)]
theorem m_mem (T : RT h x tp n σ) (tb : ∀ j, tp j ≤ 255) (hn : n ≤ 1600) (z3 : hI h (x + 107 + 28) 2 = nI 0) (z4 : ∀ w, w < 3 → hI h (x + 107 + 31) w = -nI 1) (z9 : hI h (x + 107) 43 = nI 0) : RsR x tp n (pEnd tp n (pMem tp n σ)) h (f_X12_machineTold (x + 107) h) := by
  have S := T.1.1
  have c0 : (0 : Int32).toNatClampNeg = 0 := by decide
  have c1 : (1 : Int32).toNatClampNeg = 1 := by decide
  unfold pMem f_X12_machineTold
  rw [ko_t S.k, kr_t (show hR h (x + 107) 11 = some (x + 107 + 3 + 0) from S.r11)]
  have w0 := mt_word T tb hn (i := 0) (by omega)
  revert w0
  cases pWd tp n 0 σ with
  | inl e =>
    rintro ⟨h1, e1, b1, q1⟩
    have b2 : BDm (sI h1 (x + 107 + 28) 0 0) x e := b1.fr rfl rfl (by rw [hI_sI, if_neg (by omega)]) (by rw [hI_sI, if_neg (by omega)])
    refine ⟨sI (sI h1 (x + 107 + 28) 0 0) (x + 107 + 28) 1 0, ?_, b2.fr rfl rfl (by rw [hI_sI, if_neg (by omega)]) (by rw [hI_sI, if_neg (by omega)]), (q1.rx.trans (rx_s (by unfold RC; omega))).trans (rx_s (by unfold RC; omega))⟩
    rw [bd_t e1, ko_t b1.1.k, kr_t b1.1.r37, bd_t (bd_num b1), ka_t b1.1.k37, chk_t (show inb (0 : Int32) 6 = true by decide), ko_t b1.1.k, kr_t (show hR h1 (x + 107) 12 = some (x + 107 + 3 + 1) from b1.1.r12), c0]
    exact mem_tail b2
  | inr σ1 =>
    rintro ⟨h1, e1, T1, q1⟩
    have S1 := T1.1.1
    rw [bF_r, bd_t e1, ko_t S1.k, kr_t S1.r37]
    rcases mt_num T1 tb hn (lo := 64) (hi := 1024) (by omega) (by omega) with ⟨e, v, h2, pe, ne, b1, q2⟩ | ⟨h2, z, lo, pe, ne, T2, q2⟩
    · rw [pe]
      have b2 : BDm (sI h2 (x + 107 + 28) 0 v) x e := b1.fr rfl rfl (by rw [hI_sI, if_neg (by omega)]) (by rw [hI_sI, if_neg (by omega)])
      refine ⟨sI (sI h2 (x + 107 + 28) 0 v) (x + 107 + 28) 1 0, ?_, b2.fr rfl rfl (by rw [hI_sI, if_neg (by omega)]) (by rw [hI_sI, if_neg (by omega)]), ((q1.rx.trans q2.rx).trans (rx_s (by unfold RC; omega))).trans (rx_s (by unfold RC; omega))⟩
      rw [bd_t (show f_X12_number (x + 107) 64 1024 h1 = _ from ne), ka_t b1.1.k37, chk_t (show inb (0 : Int32) 6 = true by decide), ko_t b1.1.k, kr_t (show hR h2 (x + 107) 12 = some (x + 107 + 3 + 1) from b1.1.r12), c0]
      exact mem_tail b2
    have S2 := T2.1.1
    obtain ⟨h3, hh3⟩ : ∃ h3, h3 = sI h2 (x + 107 + 28) 0 (nI (nv tp n σ1)) := ⟨_, rfl⟩
    have T3 : RT h3 x tp n (nD tp n σ1) := T2.fr (by rw [hh3]; rfl) (by rw [hh3]; rfl) (fun b j y => by rw [hh3, hI_sI, if_neg (by omega)])
    have S3 := T3.1.1
    have r3 : RX x h h3 := (q1.rx.trans q2.rx).trans (by rw [hh3]; exact rx_s (by unfold RC; omega))
    rw [pe, bF_r, bd_t (show f_X12_number (x + 107) 64 1024 h1 = _ from ne), ka_t S2.k37, chk_t (show inb (0 : Int32) 6 = true by decide), ko_t S2.k, kr_t (show hR h2 (x + 107) 12 = some (x + 107 + 3 + 1) from S2.r12), c0, ← hh3]
    have w1 := mt_word T3 tb hn (i := 1) (by omega)
    revert w1
    cases pWd tp n 1 (nD tp n σ1) with
    | inl e =>
      rintro ⟨h4, e4, b4, q4⟩
      have b5 : BDm (sI h4 (x + 107 + 28) 1 0) x e := b4.fr rfl rfl (by rw [hI_sI, if_neg (by omega)]) (by rw [hI_sI, if_neg (by omega)])
      refine ⟨sI h4 (x + 107 + 28) 1 0, ?_, b5, (r3.trans q4.rx).trans (rx_s (by unfold RC; omega))⟩
      rw [bd_t e4, ko_t b4.1.k, kr_t b4.1.r37, bd_t (bd_num b4), ka_t b4.1.k37, chk_t (show inb (1 : Int32) 6 = true by decide), ko_t b4.1.k, c1, bd_t (bd_sign b5)]
    | inr σ2 =>
      rintro ⟨h4, e4, T4, q4⟩
      have S4 := T4.1.1
      rw [bF_r, bd_t e4, ko_t S4.k, kr_t S4.r37]
      rcases mt_num T4 tb hn (lo := 4) (hi := 8) (by omega) (by omega) with ⟨e, v, h5, pe', ne', b5, q5⟩ | ⟨h5, z', lo', pe', ne', T5, q5⟩
      · rw [pe']
        have b6 : BDm (sI h5 (x + 107 + 28) 1 v) x e := b5.fr rfl rfl (by rw [hI_sI, if_neg (by omega)]) (by rw [hI_sI, if_neg (by omega)])
        refine ⟨sI h5 (x + 107 + 28) 1 v, ?_, b6, ((r3.trans q4.rx).trans q5.rx).trans (rx_s (by unfold RC; omega))⟩
        rw [bd_t (show f_X12_number (x + 107) 4 8 h4 = _ from ne'), ka_t b5.1.k37, chk_t (show inb (1 : Int32) 6 = true by decide), ko_t b5.1.k, c1, bd_t (bd_sign b6)]
      have S5 := T5.1.1
      obtain ⟨h6, hh6⟩ : ∃ h6, h6 = sI h5 (x + 107 + 28) 1 (nI (nv tp n σ2)) := ⟨_, rfl⟩
      have T6 : RT h6 x tp n (nD tp n σ2) := T5.fr (by rw [hh6]; rfl) (by rw [hh6]; rfl) (fun b j y => by rw [hh6, hI_sI, if_neg (by omega)])
      have r6 : RX x h h6 := ((r3.trans q4.rx).trans q5.rx).trans (by rw [hh6]; exact rx_s (by unfold RC; omega))
      have g6 : ∀ b j, ¬ (QC x b j ∨ b = x + 107 ∧ (j = 36 ∨ j = 46)) → ¬ (b = x + 107 + 28 ∧ j < 2) → hI h6 b j = hI h b j := by
        intro b j y1 y2
        rw [hh6, hI_sI, if_neg (by omega), q5.2.2.2.2.2 b j y1, q4.2.2.2.2.2 b j y1, hh3, hI_sI, if_neg (by omega), q2.2.2.2.2.2 b j y1, q1.2.2.2.2.2 b j y1]
      have D6 : DFm h6 x 0 (nv tp n σ2, nv tp n σ1, 0, fun _ => [], fun _ => 0, fun _ => []) := by
        refine ⟨?_, ?_, ?_, fun s hs => absurd hs (Nat.not_lt_zero _), fun s hs => absurd hs (Nat.not_lt_zero _), fun w hw => Or.inl ⟨rfl, ?_⟩, ?_⟩
        · rw [hh6, hI_sI, if_neg (by omega), q5.2.2.2.2.2 _ _ (by unfold QC; omega), q4.2.2.2.2.2 _ _ (by unfold QC; omega), hh3, hI_sI, if_pos ⟨rfl, rfl⟩]
        · rw [hh6, hI_sI, if_pos ⟨rfl, rfl⟩]
        · rw [g6 _ _ (by unfold QC; omega) (by omega)]; exact z3
        · rw [g6 _ _ (by unfold QC; omega) (by omega)]; exact z4 w hw
        · rw [g6 _ _ (by unfold QC; omega) (by omega)]; exact z9
      rw [pe', bF_r, bd_t (show f_X12_number (x + 107) 4 8 h4 = _ from ne'), ka_t S5.k37, chk_t (show inb (1 : Int32) 6 = true by decide), ko_t S5.k, c1, ← hh6]
      have sg := mt_sign T6 tb hn (q := 59) (by omega)
      show RsR x tp n (bF (pSg tp n 59 (nD tp n σ2)) fun σ => .inr ((nv tp n σ2, nv tp n σ1, 0, fun _ => [], fun _ => 0, fun _ => []), σ)) h _
      revert sg
      cases pSg tp n 59 (nD tp n σ2) with
      | inl e =>
        rintro ⟨h7, e7, b7, q7⟩
        refine ⟨h7, ?_, b7, r6.trans q7.rx⟩
        rw [bd_t (show f_X12_asksSign (x + 107) 59 h6 = _ from e7)]
      | inr σ3 =>
        rintro ⟨h7, e7, T7, q7⟩
        refine ⟨h7, 0, ?_, T7, D6.qn q7, Nat.zero_le _, r6.trans q7.rx, ?_⟩
        · rw [bd_t (show f_X12_asksSign (x + 107) 59 h6 = _ from e7)]
        · rw [q7.2.2.2.2.2 _ _ (by unfold QC; omega), g6 _ _ (by unfold QC; omega) (by omega)]
end Gs
