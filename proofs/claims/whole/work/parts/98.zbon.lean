/-! on: the reference lays -/
section On4
variable {h : aH} {x r tl : Nat} {tp : Nat → Nat} {rf : Nat → Int32} {ft fp : Int32} {sd : Nat} {M mem sh : Nat} {ns : Nat → List Nat} {kd : Nat → Nat} {cd : Nat → List Nat} {N : tyN} {sl : Nat → tyN} {nx c cr : Nat} {rn : Nat} {rw_ : Nat → Nat} {on_ : Nat} {ob : Nat → Nat}
/-- where the reference's row stands as it is to be, up to a -/
def LY (g hh : aH) (m : Nat) (N' : tyN) (a : Nat) : Prop := hK hh = hK g ∧ hR hh = hR g ∧ hL hh = hL g ∧ hN hh = hN g ∧ hS hh = hS g ∧ (∀ b j, ¬ b = m + 34 → hI hh b j = hI g b j) ∧ (∀ j, j < a → hI hh (m + 34) j = mN N' j) ∧ ∀ j, a ≤ j → hI hh (m + 34) j = hI g (m + 34) j
theorem m_lp52 {g : aH} {k : Nat} (T : MS g (x + 107)) (hb : ∀ j, j < 1600 → hI g (x + 107 + 1) j = nI (tp j)) (hk : k < 32) : f_X12_laysPointer_52 FU (x + 107) (nI (8 * k)) (nI (8 * k)) (nI 2) g = some ((), sI (sI (sI (sI (sI g (x + 107 + 34) (8 * k + 2) (nI (tp (8 * k + 1 + 2)))) (x + 107 + 34) (8 * k + 3) (nI (tp (8 * k + 1 + 3)))) (x + 107 + 34) (8 * k + 4) (nI (tp (8 * k + 1 + 4)))) (x + 107 + 34) (8 * k + 5) (nI (tp (8 * k + 1 + 5)))) (x + 107 + 34) (8 * k + 6) (nI (tp (8 * k + 1 + 6)))) := by
  have st : ∀ (n q : Nat) (f : aH), MS f (x + 107) → (∀ j, j < 1600 → hI f (x + 107 + 1) j = nI (tp j)) → 2 ≤ q → q ≤ 6 → f_X12_laysPointer_52 (n + 1) (x + 107) (nI (8 * k)) (nI (8 * k)) (nI q) f = f_X12_laysPointer_52 n (x + 107) (nI (8 * k)) (nI (8 * k)) (nI (q + 1)) (sI f (x + 107 + 34) (8 * k + q) (nI (tp (8 * k + 1 + q)))) := by
    intro n q f G hf q1 q2
    have v := hf (8 * k + 1 + q) (by omega)
    simp (disch := omega) only [nm, bd_s, ko_K, ka_K, koK_t, kaK_t, kr_s, kn_s, kn_n, hK_sI, hR_sI, hK_sL, hR_sL, hI_sL, hL_sI, hL_sL, hI_sI, hN_sI, hN_sL, ch_G, ch_T, nb_0, nb_1, zb_G, d_T, d_F, d_eT, d_eF, b2i_t, b2i_f, tn_nI, fa_lit, fa_litL, m1_e, nI_add, pk_mul, pk_sub, nI_leI, nI_ltI, nI_eq, le_T, le_F, lt_T, lt_F, eq_T, eq_F, if_pos, if_neg, m1_le, m1_lt', m1_gt, m1_le', m1_eq, m1_qe, b2i_eq0, in_N, in_n, in_I, ↓reduceIte, Bool.true_eq_false, Bool.false_eq_true, reduceCtorEq, decide_eq_true_eq, decide_eq_false_iff_not, Nat.not_lt, Nat.not_le, not_true_eq_false, not_false_eq_true, true_and, and_true, and_self, false_and, and_false, true_or, or_true, false_or, or_false, f_X12_laysPointer_52, b_X12_laysPointer_52, ↓ko_t G.k, ↓kr_t G.r47, ↓kr_t G.r0, ↓ka_t G.k0, ↓ka_t G.k47, v]
  have kp : ∀ (f : aH) (q : Nat) (u : Int32), (∀ j, j < 1600 → hI f (x + 107 + 1) j = nI (tp j)) → ∀ j, j < 1600 → hI (sI f (x + 107 + 34) q u) (x + 107 + 1) j = nI (tp j) := fun f q u hf j hj => by rw [hI_sI, if_neg (by omega)]; exact hf j hj
  obtain ⟨n, hn⟩ : ∃ n, FU = n + 1 + 1 + 1 + 1 + 1 + 1 := ⟨9994, rfl⟩
  rw [hn]
  have q2 := st (n + 1 + 1 + 1 + 1 + 1) 2 g T hb (by omega) (by omega)
  have T2 : MS (sI g (x + 107 + 34) (8 * k + 2) (nI (tp (8 * k + 1 + 2)))) (x + 107) := T.of rfl rfl
  have h2 := kp g (8 * k + 2) (nI (tp (8 * k + 1 + 2))) hb
  generalize sI g (x + 107 + 34) (8 * k + 2) (nI (tp (8 * k + 1 + 2))) = g2 at *
  have q3 := st (n + 1 + 1 + 1 + 1) 3 g2 T2 h2 (by omega) (by omega)
  have T3 : MS (sI g2 (x + 107 + 34) (8 * k + 3) (nI (tp (8 * k + 1 + 3)))) (x + 107) := T2.of rfl rfl
  have h3 := kp g2 (8 * k + 3) (nI (tp (8 * k + 1 + 3))) h2
  generalize sI g2 (x + 107 + 34) (8 * k + 3) (nI (tp (8 * k + 1 + 3))) = g3 at *
  have q4 := st (n + 1 + 1 + 1) 4 g3 T3 h3 (by omega) (by omega)
  have T4 : MS (sI g3 (x + 107 + 34) (8 * k + 4) (nI (tp (8 * k + 1 + 4)))) (x + 107) := T3.of rfl rfl
  have h4 := kp g3 (8 * k + 4) (nI (tp (8 * k + 1 + 4))) h3
  generalize sI g3 (x + 107 + 34) (8 * k + 4) (nI (tp (8 * k + 1 + 4))) = g4 at *
  have q5 := st (n + 1 + 1) 5 g4 T4 h4 (by omega) (by omega)
  have T5 : MS (sI g4 (x + 107 + 34) (8 * k + 5) (nI (tp (8 * k + 1 + 5)))) (x + 107) := T4.of rfl rfl
  have h5 := kp g4 (8 * k + 5) (nI (tp (8 * k + 1 + 5))) h4
  generalize sI g4 (x + 107 + 34) (8 * k + 5) (nI (tp (8 * k + 1 + 5))) = g5 at *
  have q6 := st (n + 1) 6 g5 T5 h5 (by omega) (by omega)
  refine q2.trans (q3.trans (q4.trans (q5.trans (q6.trans ?_))))
  generalize sI g5 (x + 107 + 34) (8 * k + 6) (nI (tp (8 * k + 1 + 6))) = g6 at *
  simp (disch := omega) only [nm, bd_s, ko_K, ka_K, koK_t, kaK_t, kr_s, kn_s, kn_n, hK_sI, hR_sI, hK_sL, hR_sL, hI_sL, hL_sI, hL_sL, hI_sI, hN_sI, hN_sL, ch_G, ch_T, nb_0, nb_1, zb_G, d_T, d_F, d_eT, d_eF, b2i_t, b2i_f, tn_nI, fa_lit, fa_litL, m1_e, nI_add, pk_mul, pk_sub, nI_leI, nI_ltI, nI_eq, le_T, le_F, lt_T, lt_F, eq_T, eq_F, if_pos, if_neg, m1_le, m1_lt', m1_gt, m1_le', m1_eq, m1_qe, b2i_eq0, in_N, in_n, in_I, ↓reduceIte, Bool.true_eq_false, Bool.false_eq_true, reduceCtorEq, decide_eq_true_eq, decide_eq_false_iff_not, Nat.not_lt, Nat.not_le, not_true_eq_false, not_false_eq_true, true_and, and_true, and_self, false_and, and_false, true_or, or_true, false_or, or_false, f_X12_laysPointer_52, b_X12_laysPointer_52]
theorem m_lay {g hh : aH} {k : Nat} (T : MS g (x + 107)) (hb : ∀ j, j < 1600 → hI g (x + 107 + 1) j = nI (tp j)) (tb : ∀ j, tp j ≤ 255) (hk : k < 16 + 4 * sh) (k32 : k < 32) (cl : clP' M kd tp k) (gN : ∀ j, j < 1498 → hI g (x + 107 + 34) j = mN N j) (L : LY g hh (x + 107) (onN sh tp N) (8 * k)) : ∃ h1, f_X12_laysPointer (x + 107) (nI (8 * k)) (nI (8 * k)) hh = some ((), h1) ∧ LY g h1 (x + 107) (onN sh tp N) (8 * (k + 1)) := by
  obtain ⟨l1, l2, l3, l4, l5, l6, l7, l8⟩ := L
  have T0 : MS hh (x + 107) := T.of l1 l2
  have hb0 : ∀ j, j < 1600 → hI hh (x + 107 + 1) j = nI (tp j) := fun j hj => (l6 _ _ (by omega)).trans (hb j hj)
  by_cases e : 16 ≤ k ∧ emT tp (8 * k) = true
  · have em := m_emp T0 hb0 tb (a := 8 * k) (by omega)
    rw [e.2, b2i_t] at em
    have e16 := e.1
    refine ⟨sI hh (x + 107 + 34) (8 * k) (-nI 1), ?_, l1, l2, l3, l4, l5, fun b j q => ?_, fun j hj => ?_, fun j hj => ?_⟩
    · simp (disch := omega) only [nm, bd_s, ko_K, ka_K, koK_t, kaK_t, kr_s, kn_s, kn_n, hK_sI, hR_sI, hK_sL, hR_sL, hI_sL, hL_sI, hL_sL, hI_sI, hN_sI, hN_sL, ch_G, ch_T, nb_0, nb_1, zb_G, d_T, d_F, d_eT, d_eF, b2i_t, b2i_f, tn_nI, fa_lit, fa_litL, m1_e, nI_add, pk_mul, pk_sub, nI_leI, nI_ltI, nI_eq, le_T, le_F, lt_T, lt_F, eq_T, eq_F, if_pos, if_neg, m1_le, m1_lt', m1_gt, m1_le', m1_eq, m1_qe, b2i_eq0, in_N, in_n, in_I, ↓reduceIte, Bool.true_eq_false, Bool.false_eq_true, reduceCtorEq, decide_eq_true_eq, decide_eq_false_iff_not, Nat.not_lt, Nat.not_le, not_true_eq_false, not_false_eq_true, true_and, and_true, and_self, false_and, and_false, true_or, or_true, false_or, or_false, f_X12_laysPointer, ↓ko_t T0.k, ↓bd_t em, ↓kr_t T0.r47, ↓ka_t T0.k47]
    · rw [hI_sI, if_neg (by omega)]; exact l6 b j q
    · rw [hI_sI]
      by_cases z : j < 8 * k
      · rw [if_neg (by omega)]; exact l7 j z
      · obtain ⟨q, rfl⟩ : ∃ q, j = 8 * k + q := ⟨j - 8 * k, by omega⟩
        have ve := onN_e (tp := tp) (N := N) (q := q) hk k32 (by omega) e
        by_cases q0 : q = 0
        · rw [q0] at ve ⊢
          rw [if_pos ⟨rfl, rfl⟩, mN_2 ve (by omega) (by omega)]
        · rw [if_neg q0] at ve
          rw [if_neg (by omega), l8 _ (by omega), gN _ (by omega), mN_n (by omega), mN_n (by omega), ve]
    · rw [hI_sI, if_neg (by omega)]; exact l8 j (by omega)
  · have v := fun (q : Nat) (hq : q < 8) => onN_c (tp := tp) (N := N) (q := q) hk k32 hq e
    have p1 := (cl.resolve_left e).1.1
    obtain ⟨g0, hg0⟩ : ∃ g0, g0 = sI hh (x + 107 + 34) (8 * k) (nI (tp (8 * k))) := ⟨_, rfl⟩
    have T1 : MS g0 (x + 107) := by rw [hg0]; exact T0.of rfl rfl
    have hb1 : ∀ j, j < 1600 → hI g0 (x + 107 + 1) j = nI (tp j) := fun j hj => by rw [hg0, hI_sI, if_neg (by omega)]; exact hb0 j hj
    have tw : f_X12_twoAt (x + 107) (nI (8 * k) + 1) g0 = some (nI (twT tp (8 * k + 1)), g0) := by rw [show nI (8 * k) + 1 = nI (8 * k + 1) from nI_add _ 1]; exact m_two T1 hb1 (by omega)
    obtain ⟨g1, hg1⟩ : ∃ g1, g1 = sI g0 (x + 107 + 34) (8 * k + 1) (nI (twT tp (8 * k + 1))) := ⟨_, rfl⟩
    have T2 : MS g1 (x + 107) := by rw [hg1]; exact T1.of rfl rfl
    have hb2 : ∀ j, j < 1600 → hI g1 (x + 107 + 1) j = nI (tp j) := fun j hj => by rw [hg1, hI_sI, if_neg (by omega)]; exact hb1 j hj
    have lp := m_lp52 T2 hb2 (k := k) k32
    have v0 := hb0 (8 * k) (by omega)
    have s23 : f_X12_laysPointer_23 (x + 107) (nI (8 * k)) (nI (8 * k)) hh = f_X12_laysPointer_52 FU (x + 107) (nI (8 * k)) (nI (8 * k)) (nI 2) g1 := by
      have f0 : sI hh (x + 107 + 34) (8 * k) (nI (tp (8 * k))) = g0 := hg0.symm
      have f1 : sI g0 (x + 107 + 34) (8 * k + 1) (nI (twT tp (8 * k + 1))) = g1 := hg1.symm
      rw [show nI (8 * k) + 1 = nI (8 * k + 1) from nI_add _ 1] at tw
      simp (disch := omega) only [nm, bd_s, ko_K, ka_K, koK_t, kaK_t, kr_s, kn_s, kn_n, hK_sI, hR_sI, hK_sL, hR_sL, hI_sL, hL_sI, hL_sL, hI_sI, hN_sI, hN_sL, ch_G, ch_T, nb_0, nb_1, zb_G, d_T, d_F, d_eT, d_eF, b2i_t, b2i_f, tn_nI, fa_lit, fa_litL, m1_e, nI_add, pk_mul, pk_sub, nI_leI, nI_ltI, nI_eq, le_T, le_F, lt_T, lt_F, eq_T, eq_F, if_pos, if_neg, m1_le, m1_lt', m1_gt, m1_le', m1_eq, m1_qe, b2i_eq0, in_N, in_n, in_I, ↓reduceIte, Bool.true_eq_false, Bool.false_eq_true, reduceCtorEq, decide_eq_true_eq, decide_eq_false_iff_not, Nat.not_lt, Nat.not_le, not_true_eq_false, not_false_eq_true, true_and, and_true, and_self, false_and, and_false, true_or, or_true, false_or, or_false, f_X12_laysPointer_23, ↓ko_t T0.k, ↓kr_t T0.r47, ↓kr_t T0.r0, ↓ka_t T0.k0, ↓ka_t T0.k47, v0, f0, tw, ↓ka_t T1.k47, T1.k47, f1]
    have s0 : f_X12_laysPointer (x + 107) (nI (8 * k)) (nI (8 * k)) hh = f_X12_laysPointer_23 (x + 107) (nI (8 * k)) (nI (8 * k)) hh := by
      by_cases c : k < 16
      · simp (disch := omega) only [nm, bd_s, ko_K, ka_K, koK_t, kaK_t, kr_s, kn_s, kn_n, hK_sI, hR_sI, hK_sL, hR_sL, hI_sL, hL_sI, hL_sL, hI_sI, hN_sI, hN_sL, ch_G, ch_T, nb_0, nb_1, zb_G, d_T, d_F, d_eT, d_eF, b2i_t, b2i_f, tn_nI, fa_lit, fa_litL, m1_e, nI_add, pk_mul, pk_sub, nI_leI, nI_ltI, nI_eq, le_T, le_F, lt_T, lt_F, eq_T, eq_F, if_pos, if_neg, m1_le, m1_lt', m1_gt, m1_le', m1_eq, m1_qe, b2i_eq0, in_N, in_n, in_I, ↓reduceIte, Bool.true_eq_false, Bool.false_eq_true, reduceCtorEq, decide_eq_true_eq, decide_eq_false_iff_not, Nat.not_lt, Nat.not_le, not_true_eq_false, not_false_eq_true, true_and, and_true, and_self, false_and, and_false, true_or, or_true, false_or, or_false, f_X12_laysPointer]
      · have em := m_emp T0 hb0 tb (a := 8 * k) (by omega)
        rw [show emT tp (8 * k) = false by
          cases q : emT tp (8 * k) with
          | false => rfl
          | true => exact absurd ⟨by omega, q⟩ e, b2i_f] at em
        simp (disch := omega) only [nm, bd_s, ko_K, ka_K, koK_t, kaK_t, kr_s, kn_s, kn_n, hK_sI, hR_sI, hK_sL, hR_sL, hI_sL, hL_sI, hL_sL, hI_sI, hN_sI, hN_sL, ch_G, ch_T, nb_0, nb_1, zb_G, d_T, d_F, d_eT, d_eF, b2i_t, b2i_f, tn_nI, fa_lit, fa_litL, m1_e, nI_add, pk_mul, pk_sub, nI_leI, nI_ltI, nI_eq, le_T, le_F, lt_T, lt_F, eq_T, eq_F, if_pos, if_neg, m1_le, m1_lt', m1_gt, m1_le', m1_eq, m1_qe, b2i_eq0, in_N, in_n, in_I, ↓reduceIte, Bool.true_eq_false, Bool.false_eq_true, reduceCtorEq, decide_eq_true_eq, decide_eq_false_iff_not, Nat.not_lt, Nat.not_le, not_true_eq_false, not_false_eq_true, true_and, and_true, and_self, false_and, and_false, true_or, or_true, false_or, or_false, f_X12_laysPointer, ↓ko_t T0.k, ↓bd_t em]
    refine ⟨_, s0.trans (s23.trans lp), ?_⟩
    obtain ⟨g2, hg2⟩ : ∃ g2, g2 = sI g1 (x + 107 + 34) (8 * k + 2) (nI (tp (8 * k + 1 + 2))) := ⟨_, rfl⟩
    obtain ⟨g3, hg3⟩ : ∃ g3, g3 = sI g2 (x + 107 + 34) (8 * k + 3) (nI (tp (8 * k + 1 + 3))) := ⟨_, rfl⟩
    obtain ⟨g4, hg4⟩ : ∃ g4, g4 = sI g3 (x + 107 + 34) (8 * k + 4) (nI (tp (8 * k + 1 + 4))) := ⟨_, rfl⟩
    obtain ⟨g5, hg5⟩ : ∃ g5, g5 = sI g4 (x + 107 + 34) (8 * k + 5) (nI (tp (8 * k + 1 + 5))) := ⟨_, rfl⟩
    obtain ⟨g6, hg6⟩ : ∃ g6, g6 = sI g5 (x + 107 + 34) (8 * k + 6) (nI (tp (8 * k + 1 + 6))) := ⟨_, rfl⟩
    rw [← hg2, ← hg3, ← hg4, ← hg5, ← hg6]
    have stp : ∀ (a b : aH) (q : Nat) (u : Int32), b = sI a (x + 107 + 34) q u → (hK a = hK g ∧ hR a = hR g ∧ hL a = hL g ∧ hN a = hN g ∧ hS a = hS g ∧ ∀ y j, ¬ y = x + 107 + 34 → hI a y j = hI g y j) → (hK b = hK g ∧ hR b = hR g ∧ hL b = hL g ∧ hN b = hN g ∧ hS b = hS g ∧ ∀ y j, ¬ y = x + 107 + 34 → hI b y j = hI g y j) := fun a b q u e z => by
      subst e
      exact ⟨z.1, z.2.1, z.2.2.1, z.2.2.2.1, z.2.2.2.2.1, fun y j hy => by rw [hI_sI, if_neg (by omega)]; exact z.2.2.2.2.2 y j hy⟩
    have z6 := stp _ _ _ _ hg6 (stp _ _ _ _ hg5 (stp _ _ _ _ hg4 (stp _ _ _ _ hg3 (stp _ _ _ _ hg2 (stp _ _ _ _ hg1 (stp _ _ _ _ hg0 ⟨l1, l2, l3, l4, l5, l6⟩))))))
    have val : ∀ j, hI g6 (x + 107 + 34) j = if j = 8 * k + 6 then nI (tp (8 * k + 1 + 6)) else if j = 8 * k + 5 then nI (tp (8 * k + 1 + 5)) else if j = 8 * k + 4 then nI (tp (8 * k + 1 + 4)) else if j = 8 * k + 3 then nI (tp (8 * k + 1 + 3)) else if j = 8 * k + 2 then nI (tp (8 * k + 1 + 2)) else if j = 8 * k + 1 then nI (twT tp (8 * k + 1)) else if j = 8 * k then nI (tp (8 * k)) else hI hh (x + 107 + 34) j := fun j => by
      rw [hg6, hI_sI, hg5, hI_sI, hg4, hI_sI, hg3, hI_sI, hg2, hI_sI, hg1, hI_sI, hg0, hI_sI]
      simp only [true_and]
    refine ⟨z6.1, z6.2.1, z6.2.2.1, z6.2.2.2.1, z6.2.2.2.2.1, z6.2.2.2.2.2, fun j hj => ?_, fun j hj => ?_⟩
    · rw [val]
      by_cases z : j < 8 * k
      · rw [if_neg (by omega), if_neg (by omega), if_neg (by omega), if_neg (by omega), if_neg (by omega), if_neg (by omega), if_neg (by omega)]; exact l7 j z
      · obtain ⟨q, rfl⟩ : ∃ q, j = 8 * k + q := ⟨j - 8 * k, by omega⟩
        have hq : q < 8 := by omega
        have ve := v q hq
        rcases (show q = 0 ∨ q = 1 ∨ q = 2 ∨ q = 3 ∨ q = 4 ∨ q = 5 ∨ q = 6 ∨ q = 7 by omega) with rfl | rfl | rfl | rfl | rfl | rfl | rfl | rfl
        · rw [if_neg (by omega), if_neg (by omega), if_neg (by omega), if_neg (by omega), if_neg (by omega), if_neg (by omega), if_pos (by omega)]
          have ve : onN sh tp N (8 * k) = tp (8 * k) := ve
          show _ = mN (onN sh tp N) (8 * k)
          rw [mN_f (by rw [ve]; exact p1), ve]
        · rw [if_neg (by omega), if_neg (by omega), if_neg (by omega), if_neg (by omega), if_neg (by omega), if_pos rfl, mN_n (by omega), ve]; rfl
        · rw [if_neg (by omega), if_neg (by omega), if_neg (by omega), if_neg (by omega), if_pos rfl, mN_n (by omega), ve]; rfl
        · rw [if_neg (by omega), if_neg (by omega), if_neg (by omega), if_pos rfl, mN_n (by omega), ve]; rfl
        · rw [if_neg (by omega), if_neg (by omega), if_pos rfl, mN_n (by omega), ve]; rfl
        · rw [if_neg (by omega), if_pos rfl, mN_n (by omega), ve]; rfl
        · rw [if_pos rfl, mN_n (by omega), ve]; rfl
        · rw [if_neg (by omega), if_neg (by omega), if_neg (by omega), if_neg (by omega), if_neg (by omega), if_neg (by omega), if_neg (by omega), l8 _ (by omega), gN _ (by omega), mN_n (by omega), mN_n (by omega), ve]; rfl
    · rw [val, if_neg (by omega), if_neg (by omega), if_neg (by omega), if_neg (by omega), if_neg (by omega), if_neg (by omega), if_neg (by omega)]; exact l8 j (by omega)
end On4
