/-! A MACHINE'S TEXT: the reference lays a machine -/
def kpt (h h1 : aH) : Prop := hK h1 = hK h ∧ hR h1 = hR h ∧ hN h1 = hN h ∧ hS h1 = hS h
theorem kpt.refl {h : aH} : kpt h h := ⟨rfl, rfl, rfl, rfl⟩
theorem kpt.trans {h h1 h2 : aH} (p : kpt h h1) (q : kpt h1 h2) : kpt h h2 := ⟨q.1.trans p.1, q.2.1.trans p.2.1, q.2.2.1.trans p.2.2.1, q.2.2.2.trans p.2.2.2⟩
theorem kpt.s {h h1 : aH} {a i : Nat} {v : Int32} (e : h1 = sI h a i v) : kpt h h1 := by rw [e]; exact ⟨rfl, rfl, rfl, rfl⟩
theorem kpt.l {h h1 : aH} {a i : Nat} {v : Int64} (e : h1 = sL h a i v) : kpt h h1 := by rw [e]; exact ⟨rfl, rfl, rfl, rfl⟩
section Is
variable {h h1 : aH} {x n u : Nat} {B : tyB}
theorem s_7 : ∀ (d i fu : Nat) (g : aH), i + d = 3 → d < fu → MS g (x + 107) → ∃ g1, f_X12_stands_7 fu (x + 107) (nI i) g = f_X12_stands_34 FU (x + 107) (nI 0) g1 ∧ kpt g g1 ∧ hL g1 = hL g ∧ (∀ b j, ¬ (b = x + 107 + 28 ∧ 3 + i ≤ j ∧ j < 6) → hI g1 b j = hI g b j) ∧ ∀ k, i ≤ k → k < 3 → hI g1 (x + 107 + 28) (3 + k) = hI g (x + 107 + 28) k := by
  intro d
  induction d with
  | zero =>
    intro i fu g hi hf S
    obtain ⟨fu, rfl⟩ : ∃ m, fu = m + 1 := ⟨fu - 1, by omega⟩
    have hi : i = 3 := by omega
    subst hi
    refine ⟨g, ?_, kpt.refl, rfl, fun _ _ _ => rfl, fun k h1 h2 => by omega⟩
    show b_X12_stands_7 (f_X12_stands_7 fu) (x + 107) (nI 3) g = _
    unfold b_X12_stands_7
    rw [if_pos (show (3 : Int32) ≤ nI 3 by decide)]
    rfl
  | succ d ih =>
    intro i fu g hi hf S
    obtain ⟨fu, rfl⟩ : ∃ m, fu = m + 1 := ⟨fu - 1, by omega⟩
    obtain ⟨g2, hg2⟩ : ∃ g2, g2 = sI g (x + 107 + 28) (3 + i) (hI g (x + 107 + 28) i) := ⟨_, rfl⟩
    have k2 := kpt.s hg2
    have i2 : ∀ b j, ¬ (b = x + 107 + 28 ∧ j = 3 + i) → hI g2 b j = hI g b j := fun b j y => by rw [hg2, hI_sI, if_neg y]
    obtain ⟨g1, e1, k1, l1, f1, v1⟩ := ih (i + 1) fu g2 (by omega) (by omega) (S.of k2.1 k2.2.1)
    refine ⟨g1, ?_, k2.trans k1, l1.trans (by rw [hg2]; rfl), fun b j z => by rw [f1 b j (by omega), i2 b j (by omega)], fun k z1 z2 => ?_⟩
    · rw [← e1]
      show b_X12_stands_7 (f_X12_stands_7 fu) (x + 107) (nI i) g = _
      unfold b_X12_stands_7
      dsimp only [nm]
      rw [if_neg (show ¬ (3 : Int32) ≤ nI i by rw [show (3 : Int32) = nI 3 from rfl, nI_leI (by omega) (by omega)]; omega), ko_t S.k, kr_t S.r37, ka_t S.k37, chk_t (inb_nI (show i < 6 by omega) (by omega)), show (3 : Int32) + nI i = nI (3 + i) from nI_add 3 i, chk_t (inb_nI (show 3 + i < 6 by omega) (by omega)), tn_nI (show 3 + i < 2 ^ 31 by omega), tn_nI (show i < 2 ^ 31 by omega), show nI i + 1 = nI (i + 1) from nI_k i 1, ← hg2]
    · by_cases y : k = i
      · subst y
        rw [f1 _ _ (by omega), hg2, hI_sI, if_pos ⟨rfl, rfl⟩]
      · rw [v1 k (by omega) z2, i2 _ _ (by omega)]
theorem s_34 : ∀ (d i fu : Nat) (g : aH), i + d = 3 → d < fu → MS g (x + 107) → ∃ g1, f_X12_stands_34 fu (x + 107) (nI i) g = f_X12_stands_75 FU (x + 107) (nI 0) g1 ∧ kpt g g1 ∧ hL g1 = hL g ∧ (∀ b j, ¬ ((b = x + 107 + 31 ∨ b = x + 107 + 32) ∧ 3 + i ≤ j ∧ j < 6) → hI g1 b j = hI g b j) ∧ ∀ k, i ≤ k → k < 3 → hI g1 (x + 107 + 31) (3 + k) = hI g (x + 107 + 31) k ∧ hI g1 (x + 107 + 32) (3 + k) = hI g (x + 107 + 32) k := by
  intro d
  induction d with
  | zero =>
    intro i fu g hi hf S
    obtain ⟨fu, rfl⟩ : ∃ m, fu = m + 1 := ⟨fu - 1, by omega⟩
    have hi : i = 3 := by omega
    subst hi
    refine ⟨g, ?_, kpt.refl, rfl, fun _ _ _ => rfl, fun k h1 h2 => by omega⟩
    show b_X12_stands_34 (f_X12_stands_34 fu) (x + 107) (nI 3) g = _
    unfold b_X12_stands_34
    rw [if_pos (show (3 : Int32) ≤ nI 3 by decide)]
    rfl
  | succ d ih =>
    intro i fu g hi hf S
    obtain ⟨fu, rfl⟩ : ∃ m, fu = m + 1 := ⟨fu - 1, by omega⟩
    obtain ⟨g0, hg0⟩ : ∃ g0, g0 = sI g (x + 107 + 31) (3 + i) (hI g (x + 107 + 31) i) := ⟨_, rfl⟩
    obtain ⟨g2, hg2⟩ : ∃ g2, g2 = sI g0 (x + 107 + 32) (3 + i) (hI g (x + 107 + 32) i) := ⟨_, rfl⟩
    have k2 := (kpt.s hg0).trans (kpt.s hg2)
    have i0 : ∀ b j, ¬ (b = x + 107 + 31 ∧ j = 3 + i) → hI g0 b j = hI g b j := fun b j y => by rw [hg0, hI_sI, if_neg y]
    have i2 : ∀ b j, ¬ ((b = x + 107 + 31 ∨ b = x + 107 + 32) ∧ j = 3 + i) → hI g2 b j = hI g b j := fun b j y => by rw [hg2, hI_sI, if_neg (by omega), i0 b j (by omega)]
    obtain ⟨g1, e1, k1, l1, f1, v1⟩ := ih (i + 1) fu g2 (by omega) (by omega) (S.of k2.1 k2.2.1)
    refine ⟨g1, ?_, k2.trans k1, l1.trans (by rw [hg2, hg0]; rfl), fun b j z => by rw [f1 b j (by omega), i2 b j (by omega)], fun k z1 z2 => ?_⟩
    · rw [← e1]
      show b_X12_stands_34 (f_X12_stands_34 fu) (x + 107) (nI i) g = _
      unfold b_X12_stands_34
      dsimp only [nm]
      rw [if_neg (show ¬ (3 : Int32) ≤ nI i by rw [show (3 : Int32) = nI 3 from rfl, nI_leI (by omega) (by omega)]; omega), ko_t S.k, kr_t S.r40, ka_t S.k40, chk_t (inb_nI (show i < 6 by omega) (by omega)), show (3 : Int32) + nI i = nI (3 + i) from nI_add 3 i, chk_t (inb_nI (show 3 + i < 6 by omega) (by omega)), tn_nI (show 3 + i < 2 ^ 31 by omega), tn_nI (show i < 2 ^ 31 by omega), kr_t S.r41, ka_t S.k41, chk_t (inb_nI (show i < 6 by omega) (by omega)), ← hg0, i0 _ _ (by omega), chk_t (inb_nI (show 3 + i < 6 by omega) (by omega)), show nI i + 1 = nI (i + 1) from nI_k i 1, ← hg2]
    · by_cases y : k = i
      · subst y
        refine ⟨?_, ?_⟩
        · rw [f1 _ _ (by omega), hg2, hI_sI, if_neg (by omega), hg0, hI_sI, if_pos ⟨rfl, rfl⟩]
        · rw [f1 _ _ (by omega), hg2, hI_sI, if_pos ⟨rfl, rfl⟩]
      · obtain ⟨a1, a2⟩ := v1 k (by omega) z2
        exact ⟨a1.trans (i2 _ _ (by omega)), a2.trans (i2 _ _ (by omega))⟩
theorem s_75 : ∀ (d i fu : Nat) (g : aH), i + d = 4 → d < fu → MS g (x + 107) → ∃ g1, f_X12_stands_75 fu (x + 107) (nI i) g = f_X12_stands_116 FU (x + 107) (nI 0) g1 ∧ kpt g g1 ∧ (∀ b j, ¬ (b = x + 107 + 29 ∧ 4 + i ≤ j ∧ j < 8) → hL g1 b j = hL g b j) ∧ (∀ b j, ¬ (b = x + 107 + 30 ∧ 4 + i ≤ j ∧ j < 8) → hI g1 b j = hI g b j) ∧ ∀ k, i ≤ k → k < 4 → hL g1 (x + 107 + 29) (4 + k) = hL g (x + 107 + 29) k ∧ hI g1 (x + 107 + 30) (4 + k) = hI g (x + 107 + 30) k := by
  intro d
  induction d with
  | zero =>
    intro i fu g hi hf S
    obtain ⟨fu, rfl⟩ : ∃ m, fu = m + 1 := ⟨fu - 1, by omega⟩
    have hi : i = 4 := by omega
    subst hi
    refine ⟨g, ?_, kpt.refl, fun _ _ _ => rfl, fun _ _ _ => rfl, fun k h1 h2 => by omega⟩
    show b_X12_stands_75 (f_X12_stands_75 fu) (x + 107) (nI 4) g = _
    unfold b_X12_stands_75
    rw [if_pos (show (4 : Int32) ≤ nI 4 by decide)]
    rfl
  | succ d ih =>
    intro i fu g hi hf S
    obtain ⟨fu, rfl⟩ : ∃ m, fu = m + 1 := ⟨fu - 1, by omega⟩
    obtain ⟨g0, hg0⟩ : ∃ g0, g0 = sL g (x + 107 + 29) (4 + i) (hL g (x + 107 + 29) i) := ⟨_, rfl⟩
    obtain ⟨g2, hg2⟩ : ∃ g2, g2 = sI g0 (x + 107 + 30) (4 + i) (hI g (x + 107 + 30) i) := ⟨_, rfl⟩
    have k2 := (kpt.l hg0).trans (kpt.s hg2)
    have i0 : ∀ b j, hI g0 b j = hI g b j := fun b j => by rw [hg0]; rfl
    have i2 : ∀ b j, ¬ (b = x + 107 + 30 ∧ j = 4 + i) → hI g2 b j = hI g b j := fun b j y => by rw [hg2, hI_sI, if_neg y, i0]
    have l2 : ∀ b j, ¬ (b = x + 107 + 29 ∧ j = 4 + i) → hL g2 b j = hL g b j := fun b j y => by rw [hg2, hL_sI, hg0, hL_sL, if_neg y]
    obtain ⟨g1, e1, k1, l1, f1, v1⟩ := ih (i + 1) fu g2 (by omega) (by omega) (S.of k2.1 k2.2.1)
    refine ⟨g1, ?_, k2.trans k1, fun b j z => by rw [l1 b j (by omega), l2 b j (by omega)], fun b j z => by rw [f1 b j (by omega), i2 b j (by omega)], fun k z1 z2 => ?_⟩
    · rw [← e1]
      show b_X12_stands_75 (f_X12_stands_75 fu) (x + 107) (nI i) g = _
      unfold b_X12_stands_75
      dsimp only [nm]
      rw [if_neg (show ¬ (4 : Int32) ≤ nI i by rw [show (4 : Int32) = nI 4 from rfl, nI_leI (by omega) (by omega)]; omega), ko_t S.k, kr_t S.r38, ka_t S.k38, chk_t (inb_nI (show i < 8 by omega) (by omega)), show (4 : Int32) + nI i = nI (4 + i) from nI_add 4 i, chk_t (inb_nI (show 4 + i < 8 by omega) (by omega)), tn_nI (show 4 + i < 2 ^ 31 by omega), tn_nI (show i < 2 ^ 31 by omega), kr_t S.r39, ka_t S.k39, chk_t (inb_nI (show i < 8 by omega) (by omega)), ← hg0, i0, chk_t (inb_nI (show 4 + i < 8 by omega) (by omega)), show nI i + 1 = nI (i + 1) from nI_k i 1, ← hg2]
    · by_cases y : k = i
      · subst y
        refine ⟨?_, ?_⟩
        · rw [l1 _ _ (by omega), hg2, hL_sI, hg0, hL_sL, if_pos ⟨rfl, rfl⟩]
        · rw [f1 _ _ (by omega), hg2, hI_sI, if_pos ⟨rfl, rfl⟩]
      · obtain ⟨a1, a2⟩ := v1 k (by omega) z2
        exact ⟨a1.trans (l2 _ _ (by omega)), a2.trans (i2 _ _ (by omega))⟩
theorem s_116 (hu : u ≤ 1600) : ∀ (d i fu : Nat) (g : aH), i + d = u → d < fu → MS g (x + 107) → hI g (x + 107) 43 = nI u → ∃ g1, f_X12_stands_116 fu (x + 107) (nI i) g = f_X12_stands_148 FU (x + 107) (nI 0) g1 ∧ kpt g g1 ∧ hL g1 = hL g ∧ (∀ b j, ¬ (b = x + 107 + 33 ∧ 1600 + i ≤ j) → hI g1 b j = hI g b j) ∧ ∀ k, i ≤ k → k < u → hI g1 (x + 107 + 33) (1600 + k) = hI g (x + 107 + 33) k := by
  intro d
  induction d with
  | zero =>
    intro i fu g hi hf S c
    obtain ⟨fu, rfl⟩ : ∃ m, fu = m + 1 := ⟨fu - 1, by omega⟩
    have hi : i = u := by omega
    subst hi
    refine ⟨g, ?_, kpt.refl, rfl, fun _ _ _ => rfl, fun k h1 h2 => by omega⟩
    show b_X12_stands_116 (f_X12_stands_116 fu) (x + 107) (nI i) g = _
    unfold b_X12_stands_116
    rw [ko_t S.k, c, if_pos (Int32.le_refl _)]
    rfl
  | succ d ih =>
    intro i fu g hi hf S c
    obtain ⟨fu, rfl⟩ : ∃ m, fu = m + 1 := ⟨fu - 1, by omega⟩
    obtain ⟨g2, hg2⟩ : ∃ g2, g2 = sI g (x + 107 + 33) (1600 + i) (hI g (x + 107 + 33) i) := ⟨_, rfl⟩
    have k2 := kpt.s hg2
    have i2 : ∀ b j, ¬ (b = x + 107 + 33 ∧ j = 1600 + i) → hI g2 b j = hI g b j := fun b j y => by rw [hg2, hI_sI, if_neg y]
    obtain ⟨g1, e1, k1, l1, f1, v1⟩ := ih (i + 1) fu g2 (by omega) (by omega) (S.of k2.1 k2.2.1) ((i2 _ _ (by omega)).trans c)
    refine ⟨g1, ?_, k2.trans k1, l1.trans (by rw [hg2]; rfl), fun b j z => by rw [f1 b j (by omega), i2 b j (by omega)], fun k z1 z2 => ?_⟩
    · rw [← e1]
      show b_X12_stands_116 (f_X12_stands_116 fu) (x + 107) (nI i) g = _
      unfold b_X12_stands_116
      dsimp only [nm]
      rw [ko_t S.k, c, if_neg (show ¬ nI u ≤ nI i by rw [nI_leI (by omega) (by omega)]; omega), kr_t S.r42, ka_t S.k42, chk_t (inb_nI (show i < 3200 by omega) (by omega)), show (1600 : Int32) + nI i = nI (1600 + i) from nI_add 1600 i, chk_t (inb_nI (show 1600 + i < 3200 by omega) (by omega)), tn_nI (show 1600 + i < 2 ^ 31 by omega), tn_nI (show i < 2 ^ 31 by omega), show nI i + 1 = nI (i + 1) from nI_k i 1, ← hg2]
    · by_cases y : k = i
      · subst y
        rw [f1 _ _ (by omega), hg2, hI_sI, if_pos ⟨rfl, rfl⟩]
      · rw [v1 k (by omega) z2, i2 _ _ (by omega)]
theorem s_148 : ∀ (d i fu : Nat) (g : aH), i + d = 1498 → d < fu → MS g (x + 107) → ∃ g1, f_X12_stands_148 fu (x + 107) (nI i) g = f_X12_stands_170 FU (x + 107) (nI 0) g1 ∧ kpt g g1 ∧ hL g1 = hL g ∧ (∀ b j, ¬ (b = x + 107 + 34 ∧ i ≤ j) → hI g1 b j = hI g b j) ∧ ∀ k, i ≤ k → k < 1498 → hI g1 (x + 107 + 34) k = nI 0 := by
  intro d
  induction d with
  | zero =>
    intro i fu g hi hf S
    obtain ⟨fu, rfl⟩ : ∃ m, fu = m + 1 := ⟨fu - 1, by omega⟩
    have hi : i = 1498 := by omega
    subst hi
    refine ⟨g, ?_, kpt.refl, rfl, fun _ _ _ => rfl, fun k h1 h2 => by omega⟩
    show b_X12_stands_148 (f_X12_stands_148 fu) (x + 107) (nI 1498) g = _
    unfold b_X12_stands_148
    rw [if_pos (show (1498 : Int32) ≤ nI 1498 by decide)]
    rfl
  | succ d ih =>
    intro i fu g hi hf S
    obtain ⟨fu, rfl⟩ : ∃ m, fu = m + 1 := ⟨fu - 1, by omega⟩
    obtain ⟨g2, hg2⟩ : ∃ g2, g2 = sI g (x + 107 + 34) i 0 := ⟨_, rfl⟩
    have k2 := kpt.s hg2
    have i2 : ∀ b j, ¬ (b = x + 107 + 34 ∧ j = i) → hI g2 b j = hI g b j := fun b j y => by rw [hg2, hI_sI, if_neg y]
    obtain ⟨g1, e1, k1, l1, f1, v1⟩ := ih (i + 1) fu g2 (by omega) (by omega) (S.of k2.1 k2.2.1)
    refine ⟨g1, ?_, k2.trans k1, l1.trans (by rw [hg2]; rfl), fun b j z => by rw [f1 b j (by omega), i2 b j (by omega)], fun k z1 z2 => ?_⟩
    · rw [← e1]
      show b_X12_stands_148 (f_X12_stands_148 fu) (x + 107) (nI i) g = _
      unfold b_X12_stands_148
      dsimp only [nm]
      rw [if_neg (show ¬ (1498 : Int32) ≤ nI i by rw [show (1498 : Int32) = nI 1498 from rfl, nI_leI (by omega) (by omega)]; omega), ko_t S.k, kr_t S.r47, ka_t S.k47, chk_t (inb_nI (show i < 1498 by omega) (by omega)), tn_nI (show i < 2 ^ 31 by omega), show nI i + 1 = nI (i + 1) from nI_k i 1, ← hg2]
    · by_cases y : k = i
      · subst y
        rw [f1 _ _ (by omega), hg2, hI_sI, if_pos ⟨rfl, rfl⟩]
        rfl
      · exact v1 k (by omega) z2
theorem s_170 : ∀ (d i fu : Nat) (g : aH), i + d = 16 → d < fu → MS g (x + 107) → ∃ g1, f_X12_stands_170 fu (x + 107) (nI i) g = f_X12_stands_170 1 (x + 107) (nI 16) g1 ∧ kpt g g1 ∧ hL g1 = hL g ∧ (∀ b j, ¬ (b = x + 107 + 34 ∧ 128 + 8 * i ≤ j ∧ j < 256 ∧ j % 8 = 0) → hI g1 b j = hI g b j) ∧ ∀ k, i ≤ k → k < 16 → hI g1 (x + 107 + 34) (128 + 8 * k) = -nI 1 := by
  intro d
  induction d with
  | zero =>
    intro i fu g hi hf S
    obtain ⟨fu, rfl⟩ : ∃ m, fu = m + 1 := ⟨fu - 1, by omega⟩
    have hi : i = 16 := by omega
    subst hi
    refine ⟨g, ?_, kpt.refl, rfl, fun _ _ _ => rfl, fun k h1 h2 => by omega⟩
    show b_X12_stands_170 (f_X12_stands_170 fu) (x + 107) (nI 16) g = b_X12_stands_170 (f_X12_stands_170 0) (x + 107) (nI 16) g
    unfold b_X12_stands_170
    rw [if_pos (show (16 : Int32) ≤ nI 16 by decide), if_pos (show (16 : Int32) ≤ nI 16 by decide)]
  | succ d ih =>
    intro i fu g hi hf S
    obtain ⟨fu, rfl⟩ : ∃ m, fu = m + 1 := ⟨fu - 1, by omega⟩
    obtain ⟨g2, hg2⟩ : ∃ g2, g2 = sI g (x + 107 + 34) (128 + 8 * i) (-1) := ⟨_, rfl⟩
    have k2 := kpt.s hg2
    have i2 : ∀ b j, ¬ (b = x + 107 + 34 ∧ j = 128 + 8 * i) → hI g2 b j = hI g b j := fun b j y => by rw [hg2, hI_sI, if_neg y]
    obtain ⟨g1, e1, k1, l1, f1, v1⟩ := ih (i + 1) fu g2 (by omega) (by omega) (S.of k2.1 k2.2.1)
    refine ⟨g1, ?_, k2.trans k1, l1.trans (by rw [hg2]; rfl), fun b j z => by rw [f1 b j (by omega), i2 b j (by omega)], fun k z1 z2 => ?_⟩
    · rw [← e1]
      show b_X12_stands_170 (f_X12_stands_170 fu) (x + 107) (nI i) g = _
      unfold b_X12_stands_170
      dsimp only [nm]
      rw [if_neg (show ¬ (16 : Int32) ≤ nI i by rw [show (16 : Int32) = nI 16 from rfl, nI_leI (by omega) (by omega)]; omega), ko_t S.k, kr_t S.r47, ka_t S.k47, show (128 : Int32) + 8 * nI i = nI (128 + 8 * i) by rw [show (8 : Int32) * nI i = nI (8 * i) from by rw [Int32.mul_comm, show nI i * 8 = nI (i * 8) from pk_mul i 8, Nat.mul_comm i 8]]; exact nI_add 128 (8 * i), chk_t (inb_nI (show 128 + 8 * i < 1498 by omega) (by omega)), tn_nI (show 128 + 8 * i < 2 ^ 31 by omega), show nI i + 1 = nI (i + 1) from nI_k i 1, ← hg2]
    · by_cases y : k = i
      · subst y
        rw [f1 _ _ (by omega), hg2, hI_sI, if_pos ⟨rfl, rfl⟩]
        rfl
      · exact v1 k (by omega) z2
end Is
