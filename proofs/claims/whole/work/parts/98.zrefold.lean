/-! QUESTIONS: what sixteen values make -/
def qaT (v : Nat → Int) : Nat → Int
  | 0 => 0
  | i + 1 => qaT v i + v i
def qaM (v : Nat → Int) : Nat → Int
  | 0 => 0
  | i + 1 => if i = 0 then v i else if qaM v i < v i then v i else qaM v i
def qaL (v : Nat → Int) : Nat → Int
  | 0 => 0
  | i + 1 => if i = 0 then v i else if v i < qaL v i then v i else qaL v i
def qaO (v : Nat → Int) : Nat → Int
  | 0 => 0
  | i + 1 => if v i = 0 then qaO v i else qaO v i + 1
def qaF (v : Nat → Int) : Nat → Int
  | 0 => -1
  | i + 1 => if v i = 0 then qaF v i else if qaF v i = -1 then (i : Int) else qaF v i
def qaE (v : Nat → Int) : Nat → Int
  | 0 => -1
  | i + 1 => if v i = 0 then qaE v i else (i : Int)
def qaR (κ : Nat) (v : Nat → Int) (i : Nat) : Int := if κ = 0 then qaF v i else if κ = 1 then qaE v i else if κ = 2 then qaO v i else if κ = 3 then qaT v i else if κ = 4 then qaM v i else qaL v i
theorem fold_b {v : Nat → Int} (hv : ∀ i, i < 16 → -1000000 ≤ v i ∧ v i ≤ 1000000) : ∀ (i : Nat), i ≤ 16 → (-1000000 * (i : Int) ≤ qaT v i ∧ qaT v i ≤ 1000000 * (i : Int)) ∧ (-1000000 ≤ qaM v i ∧ qaM v i ≤ 1000000) ∧ (-1000000 ≤ qaL v i ∧ qaL v i ≤ 1000000) ∧ (0 ≤ qaO v i ∧ qaO v i ≤ (i : Int)) ∧ (-1 ≤ qaF v i ∧ qaF v i < 16) ∧ (-1 ≤ qaE v i ∧ qaE v i < 16) := by
  intro i
  induction i with
  | zero =>
    intro _
    refine ⟨?_, ?_, ?_, ?_, ?_, ?_⟩
    · unfold qaT; omega
    · unfold qaM; omega
    · unfold qaL; omega
    · unfold qaO; omega
    · unfold qaF; omega
    · unfold qaE; omega
  | succ i ih =>
    intro hi
    obtain ⟨i1, i2, i3, i4, i5, i6⟩ := ih (by omega)
    have b := hv i (by omega)
    refine ⟨?_, ?_, ?_, ?_, ?_, ?_⟩
    · rw [qaT]; omega
    · rw [qaM]; split
      · exact b
      · split
        · exact b
        · exact i2
    · rw [qaL]; split
      · exact b
      · split
        · exact b
        · exact i3
    · rw [qaO]; split <;> omega
    · rw [qaF]; split
      · exact i5
      · split <;> omega
    · rw [qaE]; split <;> omega
section Ef
variable {h : aH} {x : Nat}
theorem vI_0 {z : Int} (b1 : -2147483648 ≤ z) (b2 : z < 2147483648) : (vI z = (0 : Int32)) ↔ z = 0 := by
  rw [show (0 : Int32) = vI 0 by decide, vI_eq b1 b2 (by omega) (by omega)]
theorem vI_m {z : Int} (b1 : -2147483648 ≤ z) (b2 : z < 2147483648) : (vI z = (-1 : Int32)) ↔ z = -1 := by
  rw [show (-1 : Int32) = vI (-1) by decide, vI_eq b1 b2 (by omega) (by omega)]
theorem a_91 {k20 : Nat → Int32 → Int64 → Int32 → Int32 → Int32 → Int32 → Int32 → Int32 → aH → Option (Int64 × aH)} {x1 : Int32} {T : Int64} {M' L' : Int32} {O F E v : Int} {i : Nat} (o1 : 0 ≤ O ∧ O ≤ 16) (f1 : -1 ≤ F ∧ F < 16) (v1 : -1000000 ≤ v ∧ v ≤ 1000000) : f_X11_answer_91 k20 x x1 T M' (vI O) (vI F) (vI E) (nI i) (vI v) L' h = k20 x x1 T M' L' (vI (if v = 0 then O else O + 1)) (vI (if v = 0 then F else if F = -1 then (i : Int) else F)) (vI (if v = 0 then E else (i : Int))) (nI (i + 1)) h := by
  have z := vI_0 (z := v) (by omega) (by omega)
  have e1 : nI i + 1 = nI (i + 1) := (nI_add i 1)
  have e2 : vI O + 1 = vI (O + 1) := (Int32.ofInt_add O 1).symm
  unfold f_X11_answer_91
  by_cases c1 : v = 0
  · rw [if_pos (z.mpr c1), if_pos c1, if_pos c1, if_pos c1]
    unfold f_X11_answer_120
    dsimp only [nm]
    rw [e1]
  · rw [if_neg (fun y => c1 (z.mp y)), if_neg c1, if_neg c1, if_neg c1]
    dsimp only [nm]
    rw [e2]
    by_cases c2 : F = -1
    · rw [if_pos ((vI_m (by omega) (by omega)).mpr c2), if_pos c2]
      unfold f_X11_answer_118 f_X11_answer_120
      dsimp only [nm]
      rw [e1, ← vI_n]
    · rw [if_neg (fun y => c2 ((vI_m (by omega) (by omega)).mp y)), if_neg c2]
      unfold f_X11_answer_118 f_X11_answer_120
      dsimp only [nm]
      rw [e1, ← vI_n]
theorem q_end {κ : Nat} {v : Nat → Int} {n : Nat} (hκ : κ < 6) (hv : ∀ i, i < 16 → -1000000 ≤ v i ∧ v i ≤ 1000000) : f_X11_answer_20 (n + 1) x (nI (25 + κ)) (vL (qaT v 16)) (vI (qaM v 16)) (vI (qaL v 16)) (vI (qaO v 16)) (vI (qaF v 16)) (vI (qaE v 16)) (nI 16) h = some (vL (qaR κ v 16), h) := by
  obtain ⟨i1, i2, i3, i4, i5, i6⟩ := fold_b hv 16 (by omega)
  show b_X11_answer_20 (f_X11_answer_20 n) x _ _ _ _ _ _ _ _ h = _
  unfold b_X11_answer_20 qaR
  rw [if_pos (show (16 : Int32) ≤ nI 16 by decide)]
  rcases (show κ = 0 ∨ κ = 1 ∨ κ = 2 ∨ κ = 3 ∨ κ = 4 ∨ κ = 5 by omega) with rfl | rfl | rfl | rfl | rfl | rfl
  · rw [if_neg (show ¬ nI (25 + 0) < (25 : Int32) by decide), if_neg (show ¬ (29 : Int32) < nI (25 + 0) by decide), if_pos (show nI (25 + 0) = (25 : Int32) by decide), vI_l (by omega) (by omega)]
    rfl
  · rw [if_neg (show ¬ nI (25 + 1) < (25 : Int32) by decide), if_neg (show ¬ (29 : Int32) < nI (25 + 1) by decide), if_neg (show ¬ nI (25 + 1) = (25 : Int32) by decide), if_pos (show nI (25 + 1) = (26 : Int32) by decide), vI_l (by omega) (by omega)]
    rfl
  · rw [if_neg (show ¬ nI (25 + 2) < (25 : Int32) by decide), if_neg (show ¬ (29 : Int32) < nI (25 + 2) by decide), if_neg (show ¬ nI (25 + 2) = (25 : Int32) by decide), if_neg (show ¬ nI (25 + 2) = (26 : Int32) by decide), if_pos (show nI (25 + 2) = (27 : Int32) by decide), vI_l (by omega) (by omega)]
    rfl
  · rw [if_neg (show ¬ nI (25 + 3) < (25 : Int32) by decide), if_neg (show ¬ (29 : Int32) < nI (25 + 3) by decide), if_neg (show ¬ nI (25 + 3) = (25 : Int32) by decide), if_neg (show ¬ nI (25 + 3) = (26 : Int32) by decide), if_neg (show ¬ nI (25 + 3) = (27 : Int32) by decide), if_pos (show nI (25 + 3) = (28 : Int32) by decide)]
    rfl
  · rw [if_neg (show ¬ nI (25 + 4) < (25 : Int32) by decide), if_neg (show ¬ (29 : Int32) < nI (25 + 4) by decide), if_neg (show ¬ nI (25 + 4) = (25 : Int32) by decide), if_neg (show ¬ nI (25 + 4) = (26 : Int32) by decide), if_neg (show ¬ nI (25 + 4) = (27 : Int32) by decide), if_neg (show ¬ nI (25 + 4) = (28 : Int32) by decide), if_pos (show nI (25 + 4) = (29 : Int32) by decide), vI_l (by omega) (by omega)]
    rfl
  · rw [if_neg (show ¬ nI (25 + 5) < (25 : Int32) by decide), if_pos (show (29 : Int32) < nI (25 + 5) by decide)]
    unfold f_X11_answer_178
    rw [vI_l (by omega) (by omega)]
    rfl
theorem c_ans {a a' M mem sh κ : Nat} {N : tyN} {l : List Nat} {t : Bool} (q : okN M mem sh N) (h4 : 4 ≤ M) (h8 : M ≤ 8) (ha : a = x + 92 ∨ a = x + 98) (ha' : a' = x + 92 ∨ a' = x + 98) (ht : tyC (alC 3) l [] = some [t]) (hκ : κ < 6) (hv : ∀ i, i < 16 → OV t (vlQ M N l i)) : ∀ (n i : Nat) (h : aH) (fu : Nat), i + n = 16 → n < fu → XS h x → RS h (x + 3) N → hR h x 9 = some a → hR h x 10 = some a' → hI h a 2 = nI M → QF h a' l → ∃ h1, f_X11_answer_20 fu x (nI (25 + κ)) (vL (qaT (vlQ M N l) i)) (vI (qaM (vlQ M N l) i)) (vI (qaL (vlQ M N l) i)) (vI (qaO (vlQ M N l) i)) (vI (qaF (vlQ M N l) i)) (vI (qaE (vlQ M N l) i)) (nI i) h = some (vL (qaR κ (vlQ M N l) 16), h1) ∧ KF x h h1 := by
  have hb : ∀ i, i < 16 → -1000000 ≤ vlQ M N l i ∧ vlQ M N l i ≤ 1000000 := fun i hi => ⟨(hv i hi).1, (hv i hi).2.1⟩
  intro n
  induction n with
  | zero =>
    intro i h fu hi hf S R r9 r10 m2 F
    obtain ⟨fu, rfl⟩ : ∃ m, fu = m + 1 := ⟨fu - 1, by omega⟩
    have hi : i = 16 := by omega
    subst hi
    exact ⟨h, q_end hκ hb, KF.refl x h⟩
  | succ n ih =>
    intro i h fu hi hf S R r9 r10 m2 F
    obtain ⟨fu, rfl⟩ : ∃ m, fu = m + 1 := ⟨fu - 1, by omega⟩
    have hi2 : i < 16 := by omega
    obtain ⟨h1, e1, ov, K⟩ := c_askOf S R q h4 h8 ha' F ht hi2
    have A := S.ma ha
    obtain ⟨i1, i2, i3, i4, i5, i6⟩ := fold_b hb i (by omega)
    have bv := hb i hi2
    obtain ⟨h2, e2, K2⟩ := ih (i + 1) h1 fu (by omega) (by omega) (K.xs S) (K.rs R) ((K.2.2.2.2.2 _ _ (by omega)).trans r9) ((K.2.2.2.2.2 _ _ (by omega)).trans r10) ((K.2.2.2.2.1 _ _ (by omega)).trans m2) (F.fr ha' K)
    refine ⟨h2, ?_, K.trans K2⟩
    rw [← e2]
    show b_X11_answer_20 (f_X11_answer_20 fu) x _ _ _ _ _ _ _ _ h = _
    have n16 : ¬ (16 : Int32) ≤ nI i := by rw [show (16 : Int32) = nI 16 from rfl, nI_leI (by omega) (by omega)]; omega
    unfold b_X11_answer_20
    rw [if_neg n16, ko_t S.k0, kr_t S.r0_5, kr_t r10, kr_t r9, ko_t A.k, ko_t S.k83, m2, bd_t e1]
    dsimp only [nm]
    rw [vI_l (by omega) (by omega), vL_add]
    have fin : ∀ M' L', f_X11_answer_91 (f_X11_answer_20 fu) x (nI (25 + κ)) (vL (qaT (vlQ M N l) i + vlQ M N l i)) M' (vI (qaO (vlQ M N l) i)) (vI (qaF (vlQ M N l) i)) (vI (qaE (vlQ M N l) i)) (nI i) (vI (vlQ M N l i)) L' h1 = f_X11_answer_20 fu x (nI (25 + κ)) (vL (qaT (vlQ M N l) (i + 1))) M' L' (vI (qaO (vlQ M N l) (i + 1))) (vI (qaF (vlQ M N l) (i + 1))) (vI (qaE (vlQ M N l) (i + 1))) (nI (i + 1)) h1 := fun M' L' => a_91 (by omega) (by omega) bv
    unfold f_X11_answer_72
    by_cases c0 : i = 0
    · subst c0
      rw [if_pos (show nI 0 = (0 : Int32) from rfl), if_pos (show nI 0 = (0 : Int32) from rfl), fin]
      rfl
    · have n0 : ¬ nI i = (0 : Int32) := by rw [show (0 : Int32) = nI 0 from rfl, nI_eq (by omega) (by omega)]; exact c0
      rw [if_neg n0, bd_t (j_max _ _ _), if_neg n0, bd_t (j_min _ _ _), fin]
      have y1 : (if vI (qaM (vlQ M N l) i) < vI (vlQ M N l i) then vI (vlQ M N l i) else vI (qaM (vlQ M N l) i)) = vI (qaM (vlQ M N l) (i + 1)) := by
        have lt : (vI (qaM (vlQ M N l) i) < vI (vlQ M N l i)) = (qaM (vlQ M N l) i < vlQ M N l i) := vI_lt (by omega) (by omega) (by omega) (by omega)
        by_cases y : qaM (vlQ M N l) i < vlQ M N l i
        · rw [if_pos (by rw [lt]; exact y), qaM, if_neg c0, if_pos y]
        · rw [if_neg (by rw [lt]; exact y), qaM, if_neg c0, if_neg y]
      have y2 : (if vI (vlQ M N l i) < vI (qaL (vlQ M N l) i) then vI (vlQ M N l i) else vI (qaL (vlQ M N l) i)) = vI (qaL (vlQ M N l) (i + 1)) := by
        have lt : (vI (vlQ M N l i) < vI (qaL (vlQ M N l) i)) = (vlQ M N l i < qaL (vlQ M N l) i) := vI_lt (by omega) (by omega) (by omega) (by omega)
        by_cases y : vlQ M N l i < qaL (vlQ M N l) i
        · rw [if_pos (by rw [lt]; exact y), qaL, if_neg c0, if_pos y]
        · rw [if_neg (by rw [lt]; exact y), qaL, if_neg c0, if_neg y]
      rw [y1, y2]
end Ef
