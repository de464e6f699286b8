/-! A MACHINE'S TEXT: the reference's formulas -/
section Fc
variable {h h1 : aH} {x n u : Nat} {tp : Nat → Nat} {σ : tyT} {e : Nat × Nat} {B : tyB}
theorem bd_codes {w p : Int32} (b : BDm h x e) : f_X12_codesTold (x + 107) w p h = some ((), h) := by
  unfold f_X12_codesTold
  rw [ko_t b.1.k, b.2.1, if_neg (nI_n0 b.2.2.2.1 b.2.2.2.2)]
  unfold f_X12_codesTold_23
  rw [ko_t b.1.k, b.2.1, if_neg (nI_n0 b.2.2.2.1 b.2.2.2.2)]
/-- codes are laid behind those that stand -/
theorem cp_loop {w : Nat} (hw : w < 3) {c : List Nat} (hu : u + c.length ≤ 1600) : ∀ (d i fu : Nat) (g : aH), i + d = c.length → d < fu → MS g (x + 107) → CDm g x c → hI g (x + 107) 43 = nI (u + i) → ∃ g1, f_X12_codesTold_92 fu (x + 107) (nI w) (nI i) g = some ((), g1) ∧ (hK g1 = hK g ∧ hR g1 = hR g ∧ hL g1 = hL g ∧ hN g1 = hN g ∧ hS g1 = hS g) ∧ (∀ b j, ¬ (b = x + 107 + 33 ∧ u + i ≤ j ∧ j < u + c.length ∨ b = x + 107 ∧ j = 43 ∨ b = x + 107 + 32 ∧ j = w) → hI g1 b j = hI g b j) ∧ (∀ k, i ≤ k → k < c.length → hI g1 (x + 107 + 33) (u + k) = nI (c.getD k 0)) ∧ hI g1 (x + 107) 43 = nI (u + c.length) ∧ hI g1 (x + 107 + 32) w = nI (u + c.length) := by
  intro d
  induction d with
  | zero =>
    intro i fu g hi hf S C e43
    obtain ⟨fu, rfl⟩ : ∃ m, fu = m + 1 := ⟨fu - 1, by omega⟩
    have hi : i = c.length := by omega
    subst hi
    refine ⟨sI g (x + 107 + 32) w (nI (u + c.length)), ?_, ⟨rfl, rfl, rfl, rfl, rfl⟩, fun b j z => by rw [hI_sI, if_neg (by omega)], fun k h1 h2 => by omega, by rw [hI_sI, if_neg (by omega)]; exact e43, by rw [hI_sI, if_pos ⟨rfl, rfl⟩]⟩
    show b_X12_codesTold_92 (f_X12_codesTold_92 fu) (x + 107) (nI w) (nI c.length) g = _
    unfold b_X12_codesTold_92
    rw [ko_t S.k, C.1, if_pos (Int32.le_refl _), kr_t S.r41, ka_t S.k41, chk_t (inb_nI (show w < 6 by omega) (by omega)), tn_nI (show w < 2 ^ 31 by omega), e43]
  | succ d ih =>
    intro i fu g hi hf S C e43
    obtain ⟨fu, rfl⟩ : ∃ m, fu = m + 1 := ⟨fu - 1, by omega⟩
    obtain ⟨g2, hg2⟩ : ∃ g2, g2 = sI g (x + 107 + 33) (u + i) (nI (c.getD i 0)) := ⟨_, rfl⟩
    obtain ⟨g3, hg3⟩ : ∃ g3, g3 = sI g2 (x + 107) 43 (nI (u + (i + 1))) := ⟨_, rfl⟩
    have i2 : ∀ b j, ¬ (b = x + 107 + 33 ∧ j = u + i) → hI g2 b j = hI g b j := fun b j y => by rw [hg2, hI_sI, if_neg y]
    have i3 : ∀ b j, ¬ (b = x + 107 + 33 ∧ j = u + i ∨ b = x + 107 ∧ j = 43) → hI g3 b j = hI g b j := fun b j y => by rw [hg3, hI_sI, if_neg (by omega), i2 b j (by omega)]
    obtain ⟨g1, e1, ⟨k1, k2, k3, k4, k5⟩, f1, v1, w1, w2⟩ := ih (i + 1) fu g3 (by omega) (by omega) (S.of (by rw [hg3, hg2]; rfl) (by rw [hg3, hg2]; rfl)) ⟨(i3 _ _ (by omega)).trans C.1, fun k hk => (i3 _ _ (by omega)).trans (C.2 k hk)⟩ (by rw [hg3, hI_sI, if_pos ⟨rfl, rfl⟩])
    refine ⟨g1, ?_, ⟨k1.trans (by rw [hg3, hg2]; rfl), k2.trans (by rw [hg3, hg2]; rfl), k3.trans (by rw [hg3, hg2]; rfl), k4.trans (by rw [hg3, hg2]; rfl), k5.trans (by rw [hg3, hg2]; rfl)⟩, fun b j z => ?_, fun k z1 z2 => ?_, w1, w2⟩
    · rw [← e1]
      show b_X12_codesTold_92 (f_X12_codesTold_92 fu) (x + 107) (nI w) (nI i) g = _
      unfold b_X12_codesTold_92
      dsimp only [nm]
      rw [ko_t S.k, C.1, if_neg (show ¬ nI c.length ≤ nI i by rw [nI_leI (by omega) (by omega)]; omega), kr_t S.r42, kr_t S.r91, ka_t S.k91, chk_t (inb_nI (show i < 1700 by omega) (by omega)), ka_t S.k42, e43, chk_t (inb_nI (show u + i < 3200 by omega) (by omega)), tn_nI (show u + i < 2 ^ 31 by omega), tn_nI (show i < 2 ^ 31 by omega), C.2 i (by omega), ← hg2, i2 _ _ (by omega), e43, show nI (u + i) + 1 = nI (u + (i + 1)) from nI_k _ 1, show nI i + 1 = nI (i + 1) from nI_k i 1, ← hg3]
    · rw [f1 b j (by omega), i3 b j (by omega)]
    · by_cases y : k = i
      · subst y
        rw [f1 _ _ (by omega), hg3, hI_sI, if_neg (by omega), hg2, hI_sI, if_pos ⟨rfl, rfl⟩]
      · exact v1 k (by omega) z2
theorem fr_qn {w : Nat} : QN x h (frH h x w) := by
  unfold frH
  exact (((((qn_s (by omega)).trans (qx_s (by unfold QC; omega)).qn).trans (qx_s (by unfold QC; omega)).qn).trans (qx_s (by unfold QC; omega)).qn).trans (qx_s (by unfold QC; omega)).qn)
theorem m_form {w i : Nat} (hw : w < 3) (T : RT h x tp n (nW tp n σ)) (D : DFm h x u B) (ul : u ≤ σ.1) (tb : ∀ j, tp j ≤ 255) (hn : n ≤ 1600) (iw : isW tp n σ i = true) : RsR x tp n (pFm tp n w B σ) h (f_X12_codesTold (x + 107) (nI w) (nI σ.1) h) := by
  have S := T.1.1
  have bad := T.2.2.1
  have nok := nW_ok iw
  obtain ⟨d1, d2, d3, d4, d5, d6, d7⟩ := D
  unfold pFm f_X12_codesTold
  rw [ko_t S.k, bad, if_pos (show nI 0 = (0 : Int32) from rfl), kr_t S.r40, ka_t S.k40, chk_t (inb_nI (show w < 6 by omega) (by omega)), tn_nI (show w < 2 ^ 31 by omega)]
  rcases d6 w hw with ⟨a1, a2⟩ | ⟨a1, f, f1, f2, f3, f4⟩
  · rw [if_pos (show (B.2.2.2.2.2 w).isEmpty = true by rw [a1]; rfl), a2, if_pos (show (-nI 1 : Int32) = -1 from rfl)]
    have good := pD_good (tp := tp) (n := n) (w := w) 100 (tgW w) 0 (nW tp n σ) (by unfold tgW; split <;> omega) (by omega) nok.1 (by unfold tgW; split <;> omega) (by unfold tgW; split <;> decide)
    -- the formula itself
    have fr : ∃ s, FrR x tp n w (pD tp n w 100 (tgW w) 0 (nW tp n σ)) (frH h x w) s ∧ ∀ h2, s = some ((), h2) → f_X12_codesTold_23 (x + 107) (nI w) h = f_X12_codesTold_72 (x + 107) (nI w) h2 := by
      by_cases w2 : w = 2
      · refine ⟨f_X12_qTest (x + 107) (frH h x w), by rw [show tgW w = 0 from if_pos w2]; exact m_test0 T tb hn (by omega) 100 (by omega), fun h2 e2 => ?_⟩
        unfold f_X12_codesTold_23
        rw [ko_t S.k, bad, if_pos (show nI 0 = (0 : Int32) from rfl), if_pos (show nI w = (2 : Int32) by rw [w2]; rfl)]
        exact bd_t (show f_X12_qTest (x + 107) (frH h x w) = _ from e2)
      · refine ⟨f_X12_qSums (x + 107) (frH h x w), by rw [show tgW w = 3 from if_neg w2]; exact m_sum0 T tb hn (by omega) 100, fun h2 e2 => ?_⟩
        unfold f_X12_codesTold_23
        rw [ko_t S.k, bad, if_pos (show nI 0 = (0 : Int32) from rfl), if_neg (show ¬ nI w = (2 : Int32) from nI_q (b := 2) (by omega) (by omega) w2)]
        exact bd_t (show f_X12_qSums (x + 107) (frH h x w) = _ from e2)
    obtain ⟨s, fr, st⟩ := fr
    have q0 := fr_qn (h := h) (x := x) (w := w)
    revert fr good
    cases pD tp n w 100 (tgW w) 0 (nW tp n σ) with
    | none => intro g; exact g.elim
    | some r =>
      cases r with
      | inl e =>
        rintro - ⟨h2, e2, b5, b6, ⟨b7, b8⟩, q2⟩
        have b : BDm h2 x e := ⟨S.of (q2.1.trans q0.1) (q2.2.1.trans q0.2.1), b5, b6, b7, b8⟩
        refine ⟨h2, ?_, b, q0.rx.trans q2.qn.rx⟩
        rw [st h2 e2]
        unfold f_X12_codesTold_72
        rw [ko_t b.1.k, b5, if_neg (nI_n0 b7 b8)]
      | inr q =>
        rintro ⟨g1, g2, g3, g4⟩ ⟨h2, e2, A2, Q2, l2, q2⟩
        have S2 := A2.1.1
        have n2 : QN x h h2 := q0.trans q2.qn
        have sn2 := A2.2.1.1
        have D2 : DFm h2 x u B := DFm.qn ⟨d1, d2, d3, d4, d5, d6, d7⟩ n2
        obtain ⟨m1, m2, m3, m4, m5, m6, m7⟩ := D2
        obtain ⟨h3, hh3⟩ : ∃ h3, h3 = sI h2 (x + 107 + 31) w (nI u) := ⟨_, rfl⟩
        have i3 : ∀ b j, ¬ (b = x + 107 + 31 ∧ j = w) → hI h3 b j = hI h2 b j := fun b j y => by rw [hh3, hI_sI, if_neg y]
        have K3 : hK h3 = hK h2 := by rw [hh3]; rfl
        have R3 : hR h3 = hR h2 := by rw [hh3]; rfl
        have L3 : hL h3 = hL h2 := by rw [hh3]; rfl
        obtain ⟨h4, e4, ⟨k1, k2, k3, k4, k5⟩, f4, v4, w1, w2⟩ := cp_loop (x := x) (u := u) hw (c := q.1) (by omega) q.1.length 0 FU h3 (by omega) (FU_gt (by omega)) (S2.of K3 R3) ⟨(i3 _ _ (by omega)).trans Q2.2.1.1, fun k hk => (i3 _ _ (by omega)).trans (Q2.2.1.2 k hk)⟩ ((i3 _ _ (by omega)).trans m7)
        have i4 : ∀ b j, ¬ (b = x + 107 + 33 ∧ u ≤ j ∧ j < u + q.1.length ∨ b = x + 107 ∧ j = 43 ∨ b = x + 107 + 32 ∧ j = w ∨ b = x + 107 + 31 ∧ j = w) → hI h4 b j = hI h2 b j := fun b j y => by rw [f4 b j (by omega), i3 b j (by omega)]
        have T4 : RT h4 x tp n q.2 := A2.rt.fr (k1.trans K3) (k2.trans R3) (fun b j y => i4 b j (by omega))
        have r4 : RX x h2 h4 := ⟨k1.trans K3, k2.trans R3, k4.trans (by rw [hh3]; rfl), k5.trans (by rw [hh3]; rfl), fun b j y => i4 b j (fun z => y (by unfold RC; omega)), fun b j _ => by rw [k3, L3]⟩
        refine ⟨h4, u + q.1.length, ?_, T4, ⟨?_, ?_, ?_, ?_, ?_, ?_, w1⟩, by show u + q.1.length ≤ q.2.1; omega, n2.rx.trans r4, ?_⟩
        · rw [st h2 e2]
          unfold f_X12_codesTold_72
          rw [ko_t S2.k, A2.2.2.1, if_pos (show nI 0 = (0 : Int32) from rfl), kr_t S2.r40, ka_t S2.k40, chk_t (inb_nI (show w < 6 by omega) (by omega)), tn_nI (show w < 2 ^ 31 by omega), m7, ← hh3]
          exact e4
        · exact (i4 _ _ (by omega)).trans m1
        · exact (i4 _ _ (by omega)).trans m2
        · exact (i4 _ _ (by omega)).trans m3
        · exact fun s h1 h2 => (by rw [k3, L3] : hL h4 (x + 107 + 29) s = _).trans (m4 s h1 h2)
        · exact fun s h1 h2 => (i4 _ _ (by omega)).trans (m5 s h1 h2)
        · intro w' hw'
          show updA B.2.2.2.2.2 w q.1 w' = [] ∧ hI h4 (x + 107 + 31) w' = -nI 1 ∨ updA B.2.2.2.2.2 w q.1 w' ≠ [] ∧ ∃ f, f + (updA B.2.2.2.2.2 w q.1 w').length ≤ u + q.1.length ∧ hI h4 (x + 107 + 31) w' = nI f ∧ hI h4 (x + 107 + 32) w' = nI (f + (updA B.2.2.2.2.2 w q.1 w').length) ∧ ∀ i, i < (updA B.2.2.2.2.2 w q.1 w').length → hI h4 (x + 107 + 33) (f + i) = nI ((updA B.2.2.2.2.2 w q.1 w').getD i 0)
          unfold updA
          by_cases y : w' = w
          · rw [if_pos y, y]
            refine Or.inr ⟨g4.1, u, Nat.le_refl _, ?_, w2, fun i hi => v4 i (by omega) hi⟩
            rw [f4 _ _ (by omega), hh3, hI_sI, if_pos ⟨rfl, rfl⟩]
          · rw [if_neg y]
            rcases m6 w' hw' with ⟨y1, y2⟩ | ⟨y1, f', y2, y3, y4, y5⟩
            · exact Or.inl ⟨y1, (i4 _ _ (by omega)).trans y2⟩
            · exact Or.inr ⟨y1, f', by omega, (i4 _ _ (by omega)).trans y3, (i4 _ _ (by omega)).trans y4, fun i hi => (i4 _ _ (by omega)).trans (y5 i hi)⟩
        · rw [i4 _ _ (by omega), n2.2.2.2.2.2 _ _ (by unfold QC; omega)]
  · have ne : ¬ (B.2.2.2.2.2 w).isEmpty = true := by rw [List.isEmpty_iff]; exact a1
    have l1 : 1 ≤ (B.2.2.2.2.2 w).length := List.length_pos_iff.mpr a1
    have sn := nok.1.1
    have b := BDm.fl (x := x) (p := σ.1) S (k := 5) (by omega) (by omega)
    rw [if_neg ne, f2, if_neg (nI_nm (by omega)), bd_t (show f_X12_fail (x + 107) 5 (nI σ.1) h = _ from m_fail S bad 5 σ.1)]
    refine ⟨flH h x 5 σ.1, ?_, b, qx_fl.qn.rx⟩
    show f_X12_codesTold_23 (x + 107) (nI w) (flH h x 5 σ.1) = _
    unfold f_X12_codesTold_23
    rw [ko_t b.1.k, b.2.1, if_neg (nI_n0 b.2.2.2.1 b.2.2.2.2)]
end Fc
