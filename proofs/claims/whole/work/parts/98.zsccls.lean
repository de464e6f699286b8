/-! A MACHINE'S TEXT: the class's memory statement -/
/-- formulas in a machine, all below u -/
def FB (h : aH) (a u : Nat) (cd : Nat → List Nat) : Prop := ∀ w, w < 3 → ∃ f, f + (cd w).length ≤ u ∧ hI h (a + 4) w = nI f ∧ hI h (a + 5) w = nI (f + (cd w).length) ∧ (cd w = [] → f = 0) ∧ ∀ i, i < (cd w).length → hI h (a + 3) (f + i) = ccI ((cd w).getD i 0)
def MN (h : aH) (a u : Nat) (B : tyB) : Prop := hI h a 1 = nI B.2.1 ∧ hI h a 2 = nI B.1 ∧ hI h a 3 = nI B.2.2.1 ∧ (∀ s k, s < B.2.2.1 → s < 4 → k < 6 → hI h (a + 1) (6 * s + k) = nI ((B.2.2.2.1 s).getD k 0)) ∧ (∀ s, s < B.2.2.1 → s < 4 → hI h (a + 2) s = nI (B.2.2.2.2.1 s)) ∧ FB h a u B.2.2.2.2.2 ∧ hI h a 9 = nI u
def CS (h : aH) (x a : Nat) (tp : Nat → Nat) (n u : Nat) (B : tyB) (σ : tyT) : Prop := CT h x a tp n σ ∧ MN h a u B ∧ u ≤ σ.1
def CsR (x a : Nat) (tp : Nat → Nat) (n : Nat) (r : tyF (tyB × tyT)) (h : aH) (s : Option (Int32 × aH)) : Prop := match r with
  | .inl e => ∃ h1, s = some (nI 0, h1) ∧ hI h1 (x + 104) 0 = nI e.1 ∧ hI h1 (x + 104) 1 = nI e.2 ∧ PM x a h h1
  | .inr q => ∃ h1 u, s = some (nI 1, h1) ∧ CS h1 x a tp n u q.1 q.2 ∧ PM x a h h1 ∧ hI h1 a 0 = hI h a 0
section Cm
variable {h h1 : aH} {x a n u : Nat} {tp : Nat → Nat} {σ : tyT} {B : tyB}
theorem cs_fl {g : aH} {e : Nat × Nat} {s : Option (Int32 × aH)} (p : PM x a h g) (z : s = some (nI 0, flX g x e.1 e.2)) : CsR x a tp n (.inl e) h s := ⟨_, z, flX_0, flX_1, p.trans pm_fl⟩
theorem ct_isW (T : CT h x a tp n σ) {i : Nat} (hi : i < 31) : isW tp n σ i = true ↔ (hI h (x + 105) 2 = 1 ∧ hI h (x + 105) 5 = nI i) := by
  have w := c_isW T.ts hi
  unfold f_X7_isWord at w
  rw [ko_t T.xs.k105] at w
  by_cases c1 : hI h (x + 105) 2 = 1
  · rw [if_pos c1] at w
    by_cases c2 : hI h (x + 105) 5 = nI i
    · rw [if_pos c2] at w
      refine ⟨fun _ => ⟨c1, c2⟩, fun _ => ?_⟩
      cases y : isW tp n σ i with
      | true => rfl
      | false => rw [y] at w; exact absurd w (by rw [f_X7_isWord_21, show (1 : Int32) = nI 1 from rfl, z1_G]; intro q; cases q)
    · rw [if_neg c2] at w
      refine ⟨fun y => ?_, fun z => absurd z.2 c2⟩
      rw [y] at w
      exact absurd w (by rw [f_X7_isWord_20, f_X7_isWord_21, show (0 : Int32) = nI 0 from rfl, z0_G]; intro q; cases q)
  · rw [if_neg c1] at w
    refine ⟨fun y => ?_, fun z => absurd z.1 c1⟩
    rw [y] at w
    exact absurd w (by rw [f_X7_isWord_20, f_X7_isWord_21, show (0 : Int32) = nI 0 from rfl, z0_G]; intro q; cases q)
theorem pNu_r {lo hi : Nat} {q : Nat × tyT} (e : pNu tp n lo hi σ = .inr q) : isN tp n σ = true := by
  unfold pNu at e
  by_cases z : isN tp n σ = true
  · exact z
  · rw [if_neg z] at e; cases e
theorem c_mem (T : CT h x a tp n σ) (tb : ∀ j, tp j ≤ 255) (hn : n ≤ 1600) (z3 : hI h a 3 = nI 0) (z4 : ∀ w, w < 3 → hI h (a + 4) w = nI 0 ∧ hI h (a + 5) w = nI 0) (z9 : hI h a 9 = nI 0) : CsR x a tp n (pMem tp n σ) h (f_X5_memoryStatement (x + 104) a h) := by
  have S := T.xs
  have ha := T.2.2.2.1
  unfold pMem f_X5_memoryStatement
  rw [ko_t S.k104]
  have w0 := ct_word T tb hn (i := 0) (by omega)
  revert w0
  cases pWd tp n 0 σ with
  | inl e =>
    intro w0
    rw [bF_l]
    refine cs_fl PM.refl ?_
    rw [bd_t (show f_X5_word (x + 104) 0 h = _ from w0), if_pos (show nI 0 = (0 : Int32) from rfl)]
    rfl
  | inr σ1 =>
    rintro ⟨h1, e1, T1, p1⟩
    rw [bF_r, bd_t (show f_X5_word (x + 104) 0 h = _ from e1), if_neg (show ¬ nI 1 = (0 : Int32) by decide), ko_t T1.xs.k104]
    rcases ct_num T1 hn (lo := 64) (hi := 1024) (by omega) (by omega) with ⟨e, pe, ne⟩ | ⟨z, lo, pe, ne, v⟩
    · rw [pe, bF_l]
      refine cs_fl p1.pm ?_
      rw [bd_t (show f_X5_number (x + 104) 64 1024 h1 = _ from ne), if_pos (show nI 0 = (0 : Int32) from rfl)]
      rfl
    rw [pe, bF_r, bd_t (show f_X5_number (x + 104) 64 1024 h1 = _ from ne), if_neg (show ¬ nI 1 = (0 : Int32) by decide), ko_t T1.xs.k104, kr_t T1.xs.r104_2, ko_t T1.xs.k105, ko_t (T1.xs.ma ha).k, v]
    obtain ⟨h2, hh2⟩ : ∃ h2, h2 = sI h1 a 1 (nI (nv tp n σ1)) := ⟨_, rfl⟩
    rw [← hh2]
    have T2 : CT h2 x a tp n σ1 := by rw [hh2]; exact T1.fr rfl rfl (fun b j y => by rw [hI_sI, if_neg (by omega)])
    have p2 : PM x a h h2 := by rw [hh2]; exact p1.pm.trans (pm_s (by unfold PMc; omega))
    obtain ⟨h3, e3, T3, p3⟩ := ct_nxN T2 tb hn z
    rw [bd_t e3, ko_t T3.xs.k104]
    have q3 : PM x a h h3 := p2.trans p3.pm
    have w1 := ct_word T3 tb hn (i := 1) (by omega)
    revert w1
    cases pWd tp n 1 (nD tp n σ1) with
    | inl e =>
      intro w1
      rw [bF_l]
      refine cs_fl q3 ?_
      rw [bd_t (show f_X5_word (x + 104) 1 h3 = _ from w1), if_pos (show nI 0 = (0 : Int32) from rfl)]
      rfl
    | inr σ2 =>
      rintro ⟨h4, e4, T4, p4⟩
      rw [bF_r, bd_t (show f_X5_word (x + 104) 1 h3 = _ from e4), if_neg (show ¬ nI 1 = (0 : Int32) by decide), ko_t T4.xs.k104]
      have q4 : PM x a h h4 := q3.trans p4.pm
      rcases ct_num T4 hn (lo := 4) (hi := 8) (by omega) (by omega) with ⟨e, pe', ne'⟩ | ⟨z', lo', pe', ne', v'⟩
      · rw [pe', bF_l]
        refine cs_fl q4 ?_
        rw [bd_t (show f_X5_number (x + 104) 4 8 h4 = _ from ne'), if_pos (show nI 0 = (0 : Int32) from rfl)]
        rfl
      rw [pe', bF_r, bd_t (show f_X5_number (x + 104) 4 8 h4 = _ from ne'), if_neg (show ¬ nI 1 = (0 : Int32) by decide), ko_t T4.xs.k104, kr_t T4.xs.r104_2, ko_t T4.xs.k105, ko_t (T4.xs.ma ha).k, v']
      obtain ⟨h5, hh5⟩ : ∃ h5, h5 = sI h4 a 2 (nI (nv tp n σ2)) := ⟨_, rfl⟩
      rw [← hh5]
      have T5 : CT h5 x a tp n σ2 := by rw [hh5]; exact T4.fr rfl rfl (fun b j y => by rw [hI_sI, if_neg (by omega)])
      have p5 : PM x a h h5 := by rw [hh5]; exact q4.trans (pm_s (by unfold PMc; omega))
      obtain ⟨h6, e6, T6, p6⟩ := ct_nxN T5 tb hn z'
      rw [bd_t e6]
      have eI : ∀ b j, a ≤ b → b < a + 6 → ¬ (b = a ∧ (j = 1 ∨ j = 2)) → hI h6 b j = hI h b j := by
        intro b j b1 b2 z
        rw [p6.i (by omega), hh5, hI_sI, if_neg (by omega), p4.i (by omega), p3.i (by omega), hh2, hI_sI, if_neg (by omega), p1.i (by omega)]
      refine ⟨h6, 0, rfl, ⟨T6, ⟨?_, ?_, ?_, fun s k hs => absurd hs (Nat.not_lt_zero _), fun s hs => absurd hs (Nat.not_lt_zero _), fun w hw => ⟨0, Nat.le_refl _, ?_, ?_, fun _ => rfl, fun i hi => absurd hi (Nat.not_lt_zero _)⟩, ?_⟩, Nat.zero_le _⟩, p5.trans p6.pm, eI _ _ (by omega) (by omega) (by omega)⟩
      · rw [p6.i (by omega), hh5, hI_sI, if_neg (by omega), p4.i (by omega), p3.i (by omega), hh2, hI_sI, if_pos ⟨rfl, rfl⟩]
      · rw [p6.i (by omega), hh5, hI_sI, if_pos ⟨rfl, rfl⟩]
      · rw [eI _ _ (by omega) (by omega) (by omega)]; exact z3
      · rw [eI _ _ (by omega) (by omega) (by omega)]; exact (z4 w hw).1
      · rw [eI _ _ (by omega) (by omega) (by omega)]; exact (z4 w hw).2
      · rw [eI _ _ (by omega) (by omega) (by omega)]; exact z9
end Cm
