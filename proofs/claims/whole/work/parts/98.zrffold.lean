/-! QUESTIONS: sixteen values by the reference -/
section Ff
variable {h : aH} {x : Nat}
theorem tk_133 (T : MS h (x + 107)) : f_X12_qTakes_133 (x + 107) h = some ((), sI h (x + 107) 100 0) := by
  unfold f_X12_qTakes_133
  rw [ko_t T.k]
theorem tk_90 (T : MS h (x + 107)) {κ : Nat} (hκ : κ ≤ 3) (w : Int64) : f_X12_qTakes_90 (x + 107) (nI κ) w h = some ((), sI h (x + 107) 100 0) := by
  unfold f_X12_qTakes_90
  rw [if_pos (show nI κ ≤ (3 : Int32) by rw [show (3 : Int32) = nI 3 from rfl, nI_leI (by omega) (by omega)]; exact hκ)]
  exact tk_133 T
theorem nI_q {a b : Nat} (ha : a < 2 ^ 31) (hb : b < 2 ^ 31) (hab : ¬ a = b) : ¬ nI a = nI b := by rw [nI_eq ha hb]; exact hab
theorem tk_75 (T : MS h (x + 107)) {κ : Nat} (hκ : κ ≤ 2) (w : Int64) : f_X12_qTakes_75 (x + 107) (nI κ) w h = some ((), sI h (x + 107) 100 0) := by
  unfold f_X12_qTakes_75
  rw [if_neg (show ¬ nI κ = (3 : Int32) from nI_q (b := 3) (by omega) (by omega) (by omega))]
  exact tk_90 T (by omega) w
theorem tk_55 (T : MS h (x + 107)) {κ : Nat} (hκ : κ ≤ 1) (w : Int64) (y : Int32) : f_X12_qTakes_55 (x + 107) (nI κ) w y h = some ((), sI h (x + 107) 100 0) := by
  unfold f_X12_qTakes_55
  rw [if_neg (show ¬ nI κ = (2 : Int32) from nI_q (b := 2) (by omega) (by omega) (by omega))]
  exact tk_75 T (by omega) w
/-- nothing but the mark changes; or the answer too -/
theorem tk_o {κ i : Nat} {v : Nat → Int} {s : Option (Unit × aH)} (e : s = some ((), sI h (x + 107) 100 0)) (a : hL h (x + 107) 99 = vL (qaR κ v (i + 1))) : ∃ g, s = some ((), g) ∧ hL g (x + 107) 99 = vL (qaR κ v (i + 1)) ∧ hI g (x + 107) 100 = nI 0 ∧ RF x h g := ⟨_, e, a, by rw [hI_sI, if_pos ⟨rfl, rfl⟩]; rfl, RF.s (Or.inr (Or.inr rfl))⟩
theorem tk_l {κ i : Nat} {v : Nat → Int} {s : Option (Unit × aH)} {w : Int64} (e : s = some ((), sI (sL h (x + 107) 99 w) (x + 107) 100 0)) (a : w = vL (qaR κ v (i + 1))) : ∃ g, s = some ((), g) ∧ hL g (x + 107) 99 = vL (qaR κ v (i + 1)) ∧ hI g (x + 107) 100 = nI 0 ∧ RF x h g := ⟨_, e, by rw [← a]; show hL (sL h (x + 107) 99 w) (x + 107) 99 = w; rw [hL_sL, if_pos ⟨rfl, rfl⟩], by rw [hI_sI, if_pos ⟨rfl, rfl⟩]; rfl, RF.trans RF.l (RF.s (Or.inr (Or.inr rfl)))⟩
theorem m_take1 {κ i : Nat} {v : Nat → Int} (T : MS h (x + 107)) (hκ : κ < 6) (hi : i < 16) (hv : ∀ i, i < 16 → -1000000 ≤ v i ∧ v i ≤ 1000000) (ht : κ < 3 → v i = 0 ∨ v i = 1) (e99 : hL h (x + 107) 99 = vL (qaR κ v i)) (e100 : hI h (x + 107) 100 = nI (if i = 0 then 1 else 0)) : ∃ g, f_X12_qTakes (x + 107) (nI κ) (vL (v i)) (nI i) h = some ((), g) ∧ hL g (x + 107) 99 = vL (qaR κ v (i + 1)) ∧ hI g (x + 107) 100 = nI 0 ∧ RF x h g := by
  obtain ⟨i1, i2, i3, i4, i5, i6⟩ := fold_b hv i (by omega)
  have bv := hv i hi
  have q1 : (lg_cmp (vL (v i)) 1 = 0) ↔ v i = 1 := by rw [lg_cmp_eq, show (1 : Int64) = vL 1 by decide, vL_eq (by omega) (by omega) (by omega) (by omega)]
  have ii : (nI i).toInt64 = vL (i : Int) := by rw [nI_l (by omega), vL_n]
  have TL : ∀ w, MS (sL h (x + 107) 99 w) (x + 107) := fun w => T.of rfl rfl
  unfold f_X12_qTakes
  rcases (show κ = 0 ∨ κ = 1 ∨ κ = 2 ∨ κ = 3 ∨ κ = 4 ∨ κ = 5 by omega) with rfl | rfl | rfl | rfl | rfl | rfl
  · rw [if_neg (show ¬ (3 : Int32) ≤ nI 0 by decide)]
    have e99 : hL h (x + 107) 99 = vL (qaF v i) := e99
    rcases ht (by omega) with z | z
    · rw [if_neg (fun y => by have := q1.mp y; omega)]
      refine tk_o ?_ ?_
      · unfold f_X12_qTakes_15 f_X12_qTakes_16 f_X12_qTakes_38
        rw [if_pos (show nI 0 = (0 : Int32) from rfl), if_pos rfl, if_neg (show ¬ nI 0 = (1 : Int32) by decide)]
        exact tk_55 T (by omega) _ _
      · rw [e99]
        show _ = vL (qaF v (i + 1))
        rw [qaF, if_pos z]
    · rw [if_pos (q1.mpr z)]
      have qm : (lg_cmp (hL h (x + 107) 99) (-1) = 0) ↔ qaF v i = -1 := by rw [e99, lg_cmp_eq, show (-1 : Int64) = vL (-1) by decide, vL_eq (by omega) (by omega) (by omega) (by omega)]
      unfold f_X12_qTakes_16
      rw [if_pos (show nI 0 = (0 : Int32) from rfl), if_neg (show ¬ (1 : Int32) = 0 by decide), ko_t T.k]
      by_cases c : qaF v i = -1
      · rw [if_pos (qm.mpr c)]
        refine tk_l (w := (nI i).toInt64) ?_ ?_
        · unfold f_X12_qTakes_48
          rw [ko_t T.k]
          exact tk_55 (TL _) (by omega) _ _
        · rw [ii]
          show _ = vL (qaF v (i + 1))
          rw [qaF, if_neg (by omega), if_pos c]
      · rw [if_neg (fun y => c (qm.mp y))]
        refine tk_o ?_ ?_
        · unfold f_X12_qTakes_38
          rw [if_neg (show ¬ nI 0 = (1 : Int32) by decide)]
          exact tk_55 T (by omega) _ _
        · rw [e99]
          show _ = vL (qaF v (i + 1))
          rw [qaF, if_neg (by omega), if_neg c]
  · rw [if_neg (show ¬ (3 : Int32) ≤ nI 1 by decide)]
    have e99 : hL h (x + 107) 99 = vL (qaE v i) := e99
    rcases ht (by omega) with z | z
    · rw [if_neg (fun y => by have := q1.mp y; omega)]
      refine tk_o ?_ ?_
      · unfold f_X12_qTakes_15 f_X12_qTakes_16 f_X12_qTakes_38
        rw [if_neg (show ¬ nI 1 = (0 : Int32) by decide), if_pos (show nI 1 = (1 : Int32) from rfl), if_pos rfl]
        exact tk_55 T (by omega) _ _
      · rw [e99]
        show _ = vL (qaE v (i + 1))
        rw [qaE, if_pos z]
    · rw [if_pos (q1.mpr z)]
      refine tk_l (w := (nI i).toInt64) ?_ ?_
      · unfold f_X12_qTakes_16 f_X12_qTakes_38
        rw [if_neg (show ¬ nI 1 = (0 : Int32) by decide), if_pos (show nI 1 = (1 : Int32) from rfl), if_neg (show ¬ (1 : Int32) = 0 by decide)]
        unfold f_X12_qTakes_48
        rw [ko_t T.k]
        exact tk_55 (TL _) (by omega) _ _
      · rw [ii]
        show _ = vL (qaE v (i + 1))
        rw [qaE, if_neg (by omega)]
  · rw [if_neg (show ¬ (3 : Int32) ≤ nI 2 by decide)]
    have e99 : hL h (x + 107) 99 = vL (qaO v i) := e99
    rcases ht (by omega) with z | z
    · rw [if_neg (fun y => by have := q1.mp y; omega)]
      refine tk_o ?_ ?_
      · unfold f_X12_qTakes_15 f_X12_qTakes_16 f_X12_qTakes_38 f_X12_qTakes_55
        rw [if_neg (show ¬ nI 2 = (0 : Int32) by decide), if_neg (show ¬ nI 2 = (1 : Int32) by decide), if_pos (show nI 2 = (2 : Int32) from rfl), if_pos rfl]
        exact tk_75 T (by omega) _
      · rw [e99]
        show _ = vL (qaO v (i + 1))
        rw [qaO, if_pos z]
    · rw [if_pos (q1.mpr z)]
      refine tk_l (w := hL h (x + 107) 99 + 1) ?_ ?_
      · unfold f_X12_qTakes_16 f_X12_qTakes_38 f_X12_qTakes_55
        rw [if_neg (show ¬ nI 2 = (0 : Int32) by decide), if_neg (show ¬ nI 2 = (1 : Int32) by decide), if_pos (show nI 2 = (2 : Int32) from rfl), if_neg (show ¬ (1 : Int32) = 0 by decide), ko_t T.k]
        exact tk_75 (TL _) (by omega) _
      · rw [e99, show (1 : Int64) = vL 1 by decide, vL_add]
        show _ = vL (qaO v (i + 1))
        rw [qaO, if_neg (by omega)]
  · rw [if_pos (show (3 : Int32) ≤ nI 3 by decide)]
    have e99 : hL h (x + 107) 99 = vL (qaT v i) := e99
    refine tk_l (w := hL h (x + 107) 99 + vL (v i)) ?_ ?_
    · unfold f_X12_qTakes_15 f_X12_qTakes_16 f_X12_qTakes_38 f_X12_qTakes_55 f_X12_qTakes_75
      rw [if_neg (show ¬ nI 3 = (0 : Int32) by decide), if_neg (show ¬ nI 3 = (1 : Int32) by decide), if_neg (show ¬ nI 3 = (2 : Int32) by decide), if_pos (show nI 3 = (3 : Int32) from rfl), ko_t T.k]
      exact tk_90 (TL _) (by omega) _
    · rw [e99, vL_add]
      rfl
  · rw [if_pos (show (3 : Int32) ≤ nI 4 by decide)]
    have e99 : hL h (x + 107) 99 = vL (qaM v i) := e99
    unfold f_X12_qTakes_15 f_X12_qTakes_16 f_X12_qTakes_38 f_X12_qTakes_55 f_X12_qTakes_75 f_X12_qTakes_90
    rw [if_neg (show ¬ nI 4 = (0 : Int32) by decide), if_neg (show ¬ nI 4 = (1 : Int32) by decide), if_neg (show ¬ nI 4 = (2 : Int32) by decide), if_neg (show ¬ nI 4 = (3 : Int32) by decide), if_neg (show ¬ nI 4 ≤ (3 : Int32) by decide), ko_t T.k, e100]
    have set : ∀ y : v i = qaM v (i + 1), ∃ g, f_X12_qTakes_128 (x + 107) (vL (v i)) h = some ((), g) ∧ hL g (x + 107) 99 = vL (qaR 4 v (i + 1)) ∧ hI g (x + 107) 100 = nI 0 ∧ RF x h g := by
      intro y
      refine tk_l (w := vL (v i)) ?_ (by rw [y]; rfl)
      unfold f_X12_qTakes_128
      rw [ko_t T.k]
      exact tk_133 (TL _)
    by_cases c0 : i = 0
    · rw [if_pos c0, if_neg (show ¬ nI 1 = (0 : Int32) by decide)]
      exact set (by rw [qaM, if_pos c0])
    · rw [if_neg c0, if_pos (show nI 0 = (0 : Int32) from rfl), if_pos (show nI 4 = (4 : Int32) from rfl)]
      have ql : (lg_cmp (vL (v i)) (hL h (x + 107) 99) ≤ 0) ↔ v i ≤ qaM v i := by rw [e99, lg_cmp_le, vL_le (by omega) (by omega) (by omega) (by omega)]
      by_cases c : v i ≤ qaM v i
      · rw [if_pos (ql.mpr c)]
        refine tk_o (tk_133 T) ?_
        rw [e99]
        show _ = vL (qaM v (i + 1))
        rw [qaM, if_neg c0, if_neg (by omega)]
      · rw [if_neg (fun y => c (ql.mp y))]
        exact set (by rw [qaM, if_neg c0, if_pos (by omega)])
  · rw [if_pos (show (3 : Int32) ≤ nI 5 by decide)]
    have e99 : hL h (x + 107) 99 = vL (qaL v i) := e99
    unfold f_X12_qTakes_15 f_X12_qTakes_16 f_X12_qTakes_38 f_X12_qTakes_55 f_X12_qTakes_75 f_X12_qTakes_90
    rw [if_neg (show ¬ nI 5 = (0 : Int32) by decide), if_neg (show ¬ nI 5 = (1 : Int32) by decide), if_neg (show ¬ nI 5 = (2 : Int32) by decide), if_neg (show ¬ nI 5 = (3 : Int32) by decide), if_neg (show ¬ nI 5 ≤ (3 : Int32) by decide), ko_t T.k, e100]
    have set : ∀ y : v i = qaL v (i + 1), ∃ g, f_X12_qTakes_128 (x + 107) (vL (v i)) h = some ((), g) ∧ hL g (x + 107) 99 = vL (qaR 5 v (i + 1)) ∧ hI g (x + 107) 100 = nI 0 ∧ RF x h g := by
      intro y
      refine tk_l (w := vL (v i)) ?_ (by rw [y]; rfl)
      unfold f_X12_qTakes_128
      rw [ko_t T.k]
      exact tk_133 (TL _)
    by_cases c0 : i = 0
    · rw [if_pos c0, if_neg (show ¬ nI 1 = (0 : Int32) by decide)]
      exact set (by rw [qaL, if_pos c0])
    · rw [if_neg c0, if_pos (show nI 0 = (0 : Int32) from rfl), if_neg (show ¬ nI 5 = (4 : Int32) by decide)]
      have ql : (0 ≤ lg_cmp (vL (v i)) (hL h (x + 107) 99)) ↔ qaL v i ≤ v i := by rw [e99, lg_cmp_ge, vL_le (by omega) (by omega) (by omega) (by omega)]
      by_cases c : qaL v i ≤ v i
      · rw [if_pos (ql.mpr c)]
        refine tk_o (tk_133 T) ?_
        rw [e99]
        show _ = vL (qaL v (i + 1))
        rw [qaL, if_neg c0, if_neg (by omega)]
      · rw [if_neg (fun y => c (ql.mp y))]
        exact set (by rw [qaL, if_neg c0, if_pos (by omega)])
theorem m_183 {M mem sh κ : Nat} {N : tyN} {l : List Nat} {t : Bool} (q : okN M mem sh N) (h4 : 4 ≤ M) (h8 : M ≤ 8) (hl : l.length ≤ 1650) (ht : tyC (alC 3) l [] = some [t]) (hκ : κ < 6) (tt : κ < 3 → t = true) (hv : ∀ i, i < 16 → OV t (vlQ M N l i)) : ∀ (n i : Nat) (h : aH) (fu : Nat), i + n = 16 → n < fu → MP h x M N → CDm h x l → hL h (x + 107) 99 = vL (qaR κ (vlQ M N l) i) → hI h (x + 107) 100 = nI (if i = 0 then 1 else 0) → ∃ h1, f_X12_ask_183 fu (x + 107) (nI κ) (nI i) h = some (vL (qaR κ (vlQ M N l) 16), h1) ∧ RF x h h1 := by
  have hb : ∀ i, i < 16 → -1000000 ≤ vlQ M N l i ∧ vlQ M N l i ≤ 1000000 := fun i hi => ⟨(hv i hi).1, (hv i hi).2.1⟩
  intro n
  induction n with
  | zero =>
    intro i h fu hi hf P c e99 e100
    obtain ⟨fu, rfl⟩ : ∃ m, fu = m + 1 := ⟨fu - 1, by omega⟩
    have hi : i = 16 := by omega
    subst hi
    refine ⟨h, ?_, RF.refl x h⟩
    show b_X12_ask_183 (f_X12_ask_183 fu) (x + 107) (nI κ) (nI 16) h = _
    unfold b_X12_ask_183
    rw [if_pos (show (16 : Int32) ≤ nI 16 by decide), ko_t P.1.k, e99]
  | succ n ih =>
    intro i h fu hi hf P c e99 e100
    obtain ⟨fu, rfl⟩ : ∃ m, fu = m + 1 := ⟨fu - 1, by omega⟩
    have hi2 : i < 16 := by omega
    obtain ⟨h1, e1, ov, F1, l1, l2⟩ := m_told0 P q h4 h8 c hl ht hi2
    have P1 := P.fr F1
    obtain ⟨h2, e2, l3, l4, F2⟩ := m_take1 (h := h1) (x := x) (κ := κ) (i := i) (v := vlQ M N l) P1.1 hκ hi2 hb (fun z => (hv i hi2).2.2 (tt z)) (l1.trans e99) (l2.trans e100)
    obtain ⟨h3, e3, F3⟩ := ih (i + 1) h2 fu (by omega) (by omega) (P1.fr F2) ((c.fr F1).fr F2) l3 (by rw [l4, if_neg (by omega)])
    refine ⟨h3, ?_, (F1.trans F2).trans F3⟩
    have n16 : ¬ (16 : Int32) ≤ nI i := by rw [show (16 : Int32) = nI 16 from rfl, nI_leI (by omega) (by omega)]; omega
    show b_X12_ask_183 (f_X12_ask_183 fu) (x + 107) (nI κ) (nI i) h = _
    unfold b_X12_ask_183
    rw [if_neg n16, ko_t P.1.k, bd_t e1, ko_t P1.1.k, bd_t e2]
    dsimp only [nm]
    rw [show nI i + 1 = nI (i + 1) from nI_add i 1]
    exact e3
end Ff
