/-! A MACHINE'S TEXT: the numbers that a machine begins with; the reference lays them -/
def st0 : tyN := fun j => if 128 ≤ j ∧ j < 256 ∧ j % 8 = 0 then 2 else 0
def stN (M : Nat) : tyN := fun j => if j = 120 then 1 else if j = 122 then lexN 0 4096 M else if j = 123 then botN 0 (lexN 0 4096 M) M else if j = 124 then topN 4096 (lexN 0 4096 M) M else if j = 125 then 7 else st0 j
section Js
variable {h h1 : aH} {x u M mem sh : Nat} {B : tyB}
theorem st0_z {j : Nat} (h : ¬ (128 ≤ j ∧ j < 256 ∧ j % 8 = 0)) : st0 j = 0 := if_neg h
theorem st0_t {j : Nat} (h : 128 ≤ j ∧ j < 256 ∧ j % 8 = 0) : st0 j = 2 := if_pos h
theorem st0_le (j : Nat) : st0 j ≤ 2 := by unfold st0; split <;> omega
theorem stN_o {j : Nat} (h : ¬ (120 ≤ j ∧ j < 126)) : stN M j = st0 j := by unfold stN; rw [if_neg (by omega), if_neg (by omega), if_neg (by omega), if_neg (by omega), if_neg (by omega)]
theorem stN_0 : stN M 120 = 1 := if_pos rfl
theorem stN_1 : stN M 121 = 0 := by unfold stN; rw [if_neg (by omega), if_neg (by omega), if_neg (by omega), if_neg (by omega), if_neg (by omega)]; exact st0_z (by omega)
theorem stN_2 : stN M 122 = lexN 0 4096 M := by unfold stN; rw [if_neg (by omega), if_pos rfl]
theorem stN_3 : stN M 123 = botN 0 (lexN 0 4096 M) M := by unfold stN; rw [if_neg (by omega), if_neg (by omega), if_pos rfl]
theorem stN_4 : stN M 124 = topN 4096 (lexN 0 4096 M) M := by unfold stN; rw [if_neg (by omega), if_neg (by omega), if_neg (by omega), if_pos rfl]
theorem stN_5 : stN M 125 = 7 := by unfold stN; rw [if_neg (by omega), if_neg (by omega), if_neg (by omega), if_neg (by omega), if_pos rfl]
theorem st0_ok (mm : 16 ≤ mem) : okN M mem sh st0 := by
  refine ⟨fun j => by have := st0_le j; omega, fun k hk => ?_, fun k hk => ?_, fun k h1 h2 => st0_t (by omega), ?_, ?_, ?_, ?_, ?_⟩
  · unfold okP
    rw [st0_z (j := 8 * k + 1) (by omega), st0_z (j := 8 * k + 2) (by omega), st0_z (j := 8 * k + 3) (by omega), st0_z (j := 8 * k + 4) (by omega), st0_z (j := 8 * k + 5) (by omega), st0_z (j := 8 * k + 6) (by omega)]
    have p := Nat.two_pow_pos M
    refine ⟨st0_le _, by omega, Nat.zero_le _, p, p, ?_, by omega, by omega⟩
    rw [Nat.zero_add, Nat.sub_zero, Nat.mod_self]
    exact Nat.zero_le _
  · rw [st0_z (by omega)]; omega
  · rw [st0_z (by omega)]; omega
  · rw [st0_z (j := 256) (by omega)]
    intro g hg
    have g0 : g = 0 := by omega
    subst g0
    exact mm
  · intro i hi
    rw [st0_z (j := 256) (by omega)] at hi
    omega
  · rw [st0_z (by omega)]; omega
  · intro a ha
    rw [st0_z (by omega)]; omega
theorem stN_ok (h4 : 4 ≤ M) (h8 : M ≤ 8) (mm : 16 ≤ mem) : okN M mem sh (stN M) := by
  have lo := lexN_ok (b := 0) (t := 4096) (by omega) (by omega) h4 h8
  have le := lexN_le 0 4096 M
  have nl := (nw_len (b := 0) (t := 4096) h4 (by omega) lo).1
  refine okN.cell (k := 15) (st0_ok mm) h8 (by omega) (fun j q => stN_o (by omega)) ?_ ?_ ?_ ?_
  · show okP M (stN M) 120
    unfold okP
    rw [stN_0, show 120 + 1 = 121 from rfl, stN_1, show 120 + 2 = 122 from rfl, stN_2, show 120 + 3 = 123 from rfl, stN_3, show 120 + 4 = 124 from rfl, stN_4, show 120 + 5 = 125 from rfl, stN_5, show 120 + 6 = 126 from rfl, stN_o (j := 126) (by omega), st0_z (j := 126) (by omega)]
    exact ⟨by omega, by omega, le, Nat.mod_lt _ (Nat.two_pow_pos M), Nat.mod_lt _ (Nat.two_pow_pos M), nl, by omega, by omega⟩
  · show stN M 127 ≤ 4096
    rw [stN_o (by omega), st0_z (by omega)]; omega
  · intro _
    show stN M 120 ≤ 1
    rw [stN_0]; omega
  · intro z; omega
theorem stN_m {j : Nat} : mN (stN M) j = if j = 120 then nI 1 else if j = 122 then nI (lexN 0 4096 M) else if j = 123 then nI (botN 0 (lexN 0 4096 M) M) else if j = 124 then nI (topN 4096 (lexN 0 4096 M) M) else if j = 125 then nI 7 else if 128 ≤ j ∧ j < 256 ∧ j % 8 = 0 then -nI 1 else nI 0 := by
  by_cases c0 : j = 120
  · rw [if_pos c0, c0, mN_f (by rw [stN_0]; omega), stN_0]
  rw [if_neg c0]
  by_cases c2 : j = 122
  · rw [if_pos c2, c2, mN_n (by omega), stN_2]
  rw [if_neg c2]
  by_cases c3 : j = 123
  · rw [if_pos c3, c3, mN_n (by omega), stN_3]
  rw [if_neg c3]
  by_cases c4 : j = 124
  · rw [if_pos c4, c4, mN_n (by omega), stN_4]
  rw [if_neg c4]
  by_cases c5 : j = 125
  · rw [if_pos c5, c5, mN_n (by omega), stN_5]
  rw [if_neg c5]
  have e : stN M j = st0 j := by unfold stN; rw [if_neg c0, if_neg c2, if_neg c3, if_neg c4, if_neg c5]
  by_cases c : 128 ≤ j ∧ j < 256 ∧ j % 8 = 0
  · rw [if_pos c, mN_2 (by rw [e]; exact st0_t c) c.2.1 c.2.2]
  · rw [if_neg c, mN_f (by rw [e, st0_z c]; omega), e, st0_z c]
theorem m_stands (S : MS h (x + 107)) (D : DFm h x u B) (hu : u ≤ 1600) (o : okQ B) : ∃ h1, f_X12_stands (x + 107) h = some ((), h1) ∧ kpt h h1 ∧ (∀ b j, ¬ (b = x + 107 + 29 ∧ 4 ≤ j) → hL h1 b j = hL h b j) ∧ (∀ b j, ¬ (b = x + 107 ∧ (j = 45 ∨ j = 52 ∨ j = 53 ∨ j = 54 ∨ j = 58 ∨ j = 63) ∨ b = x + 107 + 28 ∧ 3 ≤ j ∨ b = x + 107 + 30 ∧ 4 ≤ j ∨ (b = x + 107 + 31 ∨ b = x + 107 + 32) ∧ 3 ≤ j ∨ b = x + 107 + 33 ∧ 1600 ≤ j ∨ b = x + 107 + 34) → hI h1 b j = hI h b j) ∧ hI h1 (x + 107) 45 = nI 1 ∧ hI h1 (x + 107) 63 = nI 0 ∧ hI h1 (x + 107) 58 = nI 0 ∧ mM h1 (x + 107) B.1 B.2.1 B.2.2.1 B.2.2.2.1 B.2.2.2.2.1 B.2.2.2.2.2 ∧ (∀ j, j < 1498 → hI h1 (x + 107 + 34) j = mN (stN B.1) j) := by
  obtain ⟨d1, d2, d3, d4, d5, d6, d7⟩ := D
  obtain ⟨o1, o2, o3, o4, o5, -⟩ := o
  obtain ⟨g0, hg0⟩ : ∃ g0, g0 = sI h (x + 107) 45 1 := ⟨_, rfl⟩
  have k0 := kpt.s hg0
  have i0 : ∀ b j, ¬ (b = x + 107 ∧ j = 45) → hI g0 b j = hI h b j := fun b j y => by rw [hg0, hI_sI, if_neg y]
  obtain ⟨g1, e1, k1, l1, f1, v1⟩ := s_7 (x := x) 3 0 FU g0 rfl (FU_gt (by omega)) (S.of k0.1 k0.2.1)
  have K1 := k0.trans k1
  obtain ⟨g2, e2, k2, l2, f2, v2⟩ := s_34 (x := x) 3 0 FU g1 rfl (FU_gt (by omega)) (S.of K1.1 K1.2.1)
  have K2 := K1.trans k2
  obtain ⟨g3, e3, k3, l3, f3, v3⟩ := s_75 (x := x) 4 0 FU g2 rfl (FU_gt (by omega)) (S.of K2.1 K2.2.1)
  have K3 := K2.trans k3
  have c3 : hI g3 (x + 107) 43 = nI u := by rw [f3 _ _ (by omega), f2 _ _ (by omega), f1 _ _ (by omega), i0 _ _ (by omega)]; exact d7
  obtain ⟨g4, e4, k4, l4, f4, v4⟩ := s_116 (x := x) hu u 0 FU g3 (by omega) (FU_gt (by omega)) (S.of K3.1 K3.2.1) c3
  have K4 := K3.trans k4
  obtain ⟨g5, e5, k5, l5, f5, v5⟩ := s_148 (x := x) 1498 0 FU g4 rfl (FU_gt (by omega)) (S.of K4.1 K4.2.1)
  have K5 := K4.trans k5
  obtain ⟨g6, e6, k6, l6, f6, v6⟩ := s_170 (x := x) 16 0 FU g5 rfl (FU_gt (by omega)) (S.of K5.1 K5.2.1)
  have K6 := K5.trans k6
  have S6 : MS g6 (x + 107) := S.of K6.1 K6.2.1
  have i6 : ∀ b j, ¬ (b = x + 107 ∧ j = 45 ∨ b = x + 107 + 28 ∧ 3 ≤ j ∨ b = x + 107 + 30 ∧ 4 ≤ j ∨ (b = x + 107 + 31 ∨ b = x + 107 + 32) ∧ 3 ≤ j ∨ b = x + 107 + 33 ∧ 1600 ≤ j ∨ b = x + 107 + 34) → hI g6 b j = hI h b j := by
    intro b j z
    rw [f6 b j (by omega), f5 b j (by omega), f4 b j (by omega), f3 b j (by omega), f2 b j (by omega), f1 b j (by omega), i0 b j (by omega)]
  have m28 : ∀ k, k < 3 → hI g6 (x + 107 + 28) (3 + k) = hI h (x + 107 + 28) k := by
    intro k hk
    rw [f6 _ _ (by omega), f5 _ _ (by omega), f4 _ _ (by omega), f3 _ _ (by omega), f2 _ _ (by omega), v1 k (by omega) hk, i0 _ _ (by omega)]
  have m31 : ∀ k, k < 3 → hI g6 (x + 107 + 31) (3 + k) = hI h (x + 107 + 31) k ∧ hI g6 (x + 107 + 32) (3 + k) = hI h (x + 107 + 32) k := by
    intro k hk
    obtain ⟨a1, a2⟩ := v2 k (by omega) hk
    exact ⟨by rw [f6 _ _ (by omega), f5 _ _ (by omega), f4 _ _ (by omega), f3 _ _ (by omega), a1, f1 _ _ (by omega), i0 _ _ (by omega)], by rw [f6 _ _ (by omega), f5 _ _ (by omega), f4 _ _ (by omega), f3 _ _ (by omega), a2, f1 _ _ (by omega), i0 _ _ (by omega)]⟩
  have L2 : ∀ b j, hL g2 b j = hL h b j := fun b j => by rw [l2, l1, hg0]; rfl
  have L6 : ∀ b j, hL g6 b j = hL g3 b j := fun b j => by rw [l6, l5, l4]
  have m29 : ∀ k, k < 4 → hL g6 (x + 107 + 29) (4 + k) = hL h (x + 107 + 29) k ∧ hI g6 (x + 107 + 30) (4 + k) = hI h (x + 107 + 30) k := by
    intro k hk
    obtain ⟨a1, a2⟩ := v3 k (by omega) hk
    exact ⟨by rw [L6, a1, L2], by rw [f6 _ _ (by omega), f5 _ _ (by omega), f4 _ _ (by omega), a2, f2 _ _ (by omega), f1 _ _ (by omega), i0 _ _ (by omega)]⟩
  have m33 : ∀ k, k < u → hI g6 (x + 107 + 33) (1600 + k) = hI h (x + 107 + 33) k := by
    intro k hk
    rw [f6 _ _ (by omega), f5 _ _ (by omega), v4 k (by omega) hk, f3 _ _ (by omega), f2 _ _ (by omega), f1 _ _ (by omega), i0 _ _ (by omega)]
  have m34 : ∀ j, j < 1498 → hI g6 (x + 107 + 34) j = if 128 ≤ j ∧ j < 256 ∧ j % 8 = 0 then -nI 1 else nI 0 := by
    intro j hj
    by_cases c : 128 ≤ j ∧ j < 256 ∧ j % 8 = 0
    · have := v6 ((j - 128) / 8) (by omega) (by omega)
      rw [show 128 + 8 * ((j - 128) / 8) = j by omega] at this
      rw [if_pos c, this]
    · rw [if_neg c, f6 _ _ (by omega)]
      exact v5 j (by omega) hj
  have hM : hI g6 (x + 107 + 28) 4 = nI B.1 := (m28 1 (by omega)).trans d2
  have v45 : hI g6 (x + 107) 45 = nI 1 := by
    rw [f6 _ _ (by omega), f5 _ _ (by omega), f4 _ _ (by omega), f3 _ _ (by omega), f2 _ _ (by omega), f1 _ _ (by omega), hg0, hI_sI, if_pos ⟨rfl, rfl⟩]
    rfl
  have le := lexN_le 0 4096 B.1
  have en : f_X12_encodes (x + 107) (nI 0) (nI 4096) g6 = some ((), encM g6 (x + 107) 0 4096 (lexN 0 4096 B.1)) := by
    have := m_encodes (b := 0) (l := 4096) S6 hM (by omega) o1 o2
    rw [Nat.zero_add] at this
    exact this
  obtain ⟨g7, hg7⟩ : ∃ g7, g7 = encM g6 (x + 107) 0 4096 (lexN 0 4096 B.1) := ⟨_, rfl⟩
  rw [← hg7] at en
  have K7 : kpt g6 g7 := by rw [hg7]; exact ⟨rfl, rfl, rfl, rfl⟩
  have i7 : ∀ b j, ¬ (b = x + 107 ∧ (j = 52 ∨ j = 53 ∨ j = 54)) → hI g7 b j = hI g6 b j := by
    intro b j z
    rw [hg7]
    unfold encM
    rw [hI_sI, if_neg (by omega), hI_sI, if_neg (by omega), hI_sI, if_neg (by omega)]
  have S7 : MS g7 (x + 107) := S6.of K7.1 K7.2.1
  have lb : f_X12_laysBounds (x + 107) (nI 120) g7 = some ((), layM g7 (x + 107) 120 (lexN 0 4096 B.1) 0 4096 B.1) := by
    refine m_laysBounds (b := 0) (t := 4096) S7 (by omega) ((i7 _ _ (by omega)).trans hM) o2 ?_ ?_ ?_ (by omega) (by omega) (by omega)
    · rw [hg7]; unfold encM; rw [hI_sI, if_neg (by omega), hI_sI, if_neg (by omega), hI_sI, if_pos ⟨rfl, rfl⟩]
    · rw [hg7]; unfold encM; rw [hI_sI, if_neg (by omega), hI_sI, if_pos ⟨rfl, rfl⟩]
    · rw [hg7]; unfold encM; rw [hI_sI, if_pos ⟨rfl, rfl⟩]
  obtain ⟨g8, hg8⟩ : ∃ g8, g8 = layM g7 (x + 107) 120 (lexN 0 4096 B.1) 0 4096 B.1 := ⟨_, rfl⟩
  rw [← hg8] at lb
  have K8 : kpt g7 g8 := by rw [hg8]; exact ⟨rfl, rfl, rfl, rfl⟩
  have S8 : MS g8 (x + 107) := S7.of K8.1 K8.2.1
  obtain ⟨g9, hg9⟩ : ∃ g9, g9 = sI (sI (sI (sI g8 (x + 107 + 34) 120 1) (x + 107 + 34) 125 7) (x + 107) 63 0) (x + 107) 58 0 := ⟨_, rfl⟩
  have K9 : kpt g8 g9 := by rw [hg9]; exact ⟨rfl, rfl, rfl, rfl⟩
  have i9 : ∀ b j, ¬ (b = x + 107 + 34 ∧ (j = 120 ∨ j = 122 ∨ j = 123 ∨ j = 124 ∨ j = 125) ∨ b = x + 107 ∧ (j = 58 ∨ j = 63)) → hI g9 b j = hI g7 b j := by
    intro b j z
    rw [hg9, hI_sI, if_neg (by omega), hI_sI, if_neg (by omega), hI_sI, if_neg (by omega), hI_sI, if_neg (by omega), hg8]
    unfold layM
    rw [hI_sI, if_neg (by omega), hI_sI, if_neg (by omega), hI_sI, if_neg (by omega)]
  have j9 : ∀ b j, ¬ (b = x + 107 + 34 ∨ b = x + 107 ∧ (j = 52 ∨ j = 53 ∨ j = 54 ∨ j = 58 ∨ j = 63)) → hI g9 b j = hI g6 b j := fun b j z => (i9 b j (by omega)).trans (i7 b j (by omega))
  have L9 : ∀ b j, hL g9 b j = hL g6 b j := fun b j => by rw [hg9, hg8, hg7]; rfl
  refine ⟨g9, ?_, ((K6.trans K7).trans K8).trans K9, fun b j z => ?_, fun b j z => ?_, ?_, ?_, ?_, ⟨?_, ?_, ?_, ?_, ?_, ?_⟩, fun j hj => ?_⟩
  · have st : f_X12_stands (x + 107) h = f_X12_stands_170 1 (x + 107) (nI 16) g6 := by
      rw [← e6]
      rw [show f_X12_stands_170 FU (x + 107) (nI 0) g5 = _ from e5.symm, show f_X12_stands_148 FU (x + 107) (nI 0) g4 = _ from e4.symm, show f_X12_stands_116 FU (x + 107) (nI 0) g3 = _ from e3.symm, show f_X12_stands_75 FU (x + 107) (nI 0) g2 = _ from e2.symm, show f_X12_stands_34 FU (x + 107) (nI 0) g1 = _ from e1.symm]
      unfold f_X12_stands
      rw [ko_t S.k, hg0]
      rfl
    rw [st]
    show b_X12_stands_170 (f_X12_stands_170 0) (x + 107) (nI 16) g6 = _
    unfold b_X12_stands_170
    rw [if_pos (show (16 : Int32) ≤ nI 16 by decide), ko_t S6.k, bd_t (show f_X12_encodes (x + 107) 0 4096 g6 = _ from en), ko_t S7.k, bd_t (show f_X12_laysBounds (x + 107) 120 g7 = _ from lb), ko_t S8.k, kr_t S8.r47, ka_t S8.k47, chk_t (show inb (120 : Int32) 1498 = true by decide), chk_t (show inb (125 : Int32) 1498 = true by decide), show (120 : Int32).toNatClampNeg = 120 by decide, show (125 : Int32).toNatClampNeg = 125 by decide, hg9]
  · rw [L9, L6, l3 _ _ (by omega), L2]
  · rw [j9 b j (by omega), i6 b j (by omega)]
  · rw [j9 _ _ (by omega)]; exact v45
  · rw [hg9, hI_sI, if_neg (by omega), hI_sI, if_pos ⟨rfl, rfl⟩]; rfl
  · rw [hg9, hI_sI, if_pos ⟨rfl, rfl⟩]; rfl
  · rw [j9 _ _ (by omega)]; exact (m28 0 (by omega)).trans d1
  · rw [j9 _ _ (by omega)]; exact hM
  · rw [j9 _ _ (by omega)]; exact (m28 2 (by omega)).trans d3
  · intro s hs h4; rw [L9]; exact ((m29 s h4).1).trans (d4 s hs h4)
  · intro s hs h4; rw [j9 _ _ (by omega)]; exact ((m29 s h4).2).trans (d5 s hs h4)
  · intro w hw
    rcases d6 w hw with ⟨a1, a2⟩ | ⟨a1, f, f1, f2, f3, f4⟩
    · exact Or.inl ⟨a1, by rw [j9 _ _ (by omega)]; exact ((m31 w hw).1).trans a2⟩
    · exact Or.inr ⟨a1, f, by omega, by rw [j9 _ _ (by omega)]; exact ((m31 w hw).1).trans f2, by rw [j9 _ _ (by omega)]; exact ((m31 w hw).2).trans f3, fun i hi => by rw [j9 _ _ (by omega)]; exact (m33 (f + i) (by omega)).trans (f4 i hi)⟩
  · rw [stN_m]
    by_cases z0 : j = 120
    · rw [if_pos z0, z0, hg9, hI_sI, if_neg (by omega), hI_sI, if_neg (by omega), hI_sI, if_neg (by omega), hI_sI, if_pos ⟨rfl, rfl⟩]; rfl
    rw [if_neg z0]
    by_cases z2 : j = 122
    · rw [if_pos z2, z2, hg9, hI_sI, if_neg (by omega), hI_sI, if_neg (by omega), hI_sI, if_neg (by omega), hI_sI, if_neg (by omega), hg8]
      unfold layM
      rw [hI_sI, if_neg (by omega), hI_sI, if_neg (by omega), hI_sI, if_pos ⟨rfl, rfl⟩]
    rw [if_neg z2]
    by_cases z3 : j = 123
    · rw [if_pos z3, z3, hg9, hI_sI, if_neg (by omega), hI_sI, if_neg (by omega), hI_sI, if_neg (by omega), hI_sI, if_neg (by omega), hg8]
      unfold layM
      rw [hI_sI, if_neg (by omega), hI_sI, if_pos ⟨rfl, rfl⟩]
    rw [if_neg z3]
    by_cases z4 : j = 124
    · rw [if_pos z4, z4, hg9, hI_sI, if_neg (by omega), hI_sI, if_neg (by omega), hI_sI, if_neg (by omega), hI_sI, if_neg (by omega), hg8]
      unfold layM
      rw [hI_sI, if_pos ⟨rfl, rfl⟩]
    rw [if_neg z4]
    by_cases z5 : j = 125
    · rw [if_pos z5, z5, hg9, hI_sI, if_neg (by omega), hI_sI, if_neg (by omega), hI_sI, if_pos ⟨rfl, rfl⟩]; rfl
    rw [if_neg z5, i9 _ _ (by omega), i7 _ _ (by omega)]
    exact m34 j hj
end Js
