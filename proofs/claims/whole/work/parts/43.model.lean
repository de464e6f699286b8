/-! the reference's small ones -/
theorem cov_if (x B L : Int32) (h : aH) : (if x < B then some ((0 : Int32), h) else if B + L ≤ x then some (0, h) else some (1, h)) = some (if (decide (B ≤ x) && decide (x < B + L)) = true then 1 else 0, h) := by
  by_cases h1 : x < B
  · simp [h1, Int32.not_le.mpr h1]
  · by_cases h2 : B + L ≤ x
    · simp [h1, h2, Int32.not_lt.mpr h2]
    · simp [h1, h2, Int32.not_lt.mp h1, Int32.not_le.mp h2]
theorem i2l_lt (x y : Int32) : x.toInt64 < y.toInt64 ↔ x < y := by
  rw [Int64.lt_iff_toInt_lt, Int32.lt_iff_toInt_lt, Int32.toInt_toInt64, Int32.toInt_toInt64]
section Mo
variable {h : aH} {m : Nat}
theorem m_mantissa (S : MS h m) : f_X12_mantissa m h = some (hI h (m + 28) 4, h) := by
  simp only [f_X12_mantissa, ko_t S.k, kr_t S.r37, ka_t S.k37]
  rfl
theorem m_modulo (S : MS h m) (x : Int32) : f_X12_modulo m x h = some (x &&& mskI (hI h (m + 28) 4), h) := by
  simp only [f_X12_modulo, ko_t S.k, m_mantissa S, bd_s, mskI]
theorem nI_c (k : Nat) : nI k + 1 = nI (k + 1) ∧ nI k + 2 = nI (k + 2) ∧ nI k + 3 = nI (k + 3) ∧ nI k + 4 = nI (k + 4) ∧ nI k + 5 = nI (k + 5) ∧ nI k + 6 = nI (k + 6) := ⟨nI_add k 1, nI_add k 2, nI_add k 3, nI_add k 4, nI_add k 5, nI_add k 6⟩
theorem m_edgeOf (S : MS h m) {k : Nat} (hk : k + 8 ≤ 1498) : f_X12_edgeOf m (nI k) h = some (edgI (hI h (m + 28) 4) (hI h (m + 34) (k + 3)), h) := by
  simp only [f_X12_edgeOf, ko_t S.k, kr_t S.r47, ka_t S.k47, (nI_c k).2.2.1, chk_t (inb_nI (show k + 3 < 1498 by omega) (by omega)), tn_nI (show k + 3 < 2 ^ 31 by omega), m_mantissa S, m_modulo S, bd_s, edgI]
theorem m_baseFrom (S : MS h m) {k : Nat} (hk : k + 8 ≤ 1498) (a : Int32) : f_X12_baseFrom m (nI k) a h = some (basI (hI h (m + 28) 4) (hI h (m + 34) (k + 2)) (hI h (m + 34) (k + 3)) a, h) := by
  simp only [f_X12_baseFrom, f_X12_baseFrom_33, f_X12_baseFrom_53, f_X12_baseFrom_84, ko_t S.k, kr_t S.r47, ka_t S.k47, (nI_c k).2.2.1, (nI_c k).2.1, chk_t (inb_nI (show k + 3 < 1498 by omega) (by omega)), chk_t (inb_nI (show k + 2 < 1498 by omega) (by omega)), tn_nI (show k + 3 < 2 ^ 31 by omega), tn_nI (show k + 2 < 2 ^ 31 by omega), m_mantissa S, m_modulo S, m_edgeOf S hk, bd_s, nm, basI, corI]
  split <;> split <;> simp [*]
theorem m_baseOf (S : MS h m) {k : Nat} (hk : k + 8 ≤ 1498) : f_X12_baseOf m (nI k) h = some (basI (hI h (m + 28) 4) (hI h (m + 34) (k + 2)) (hI h (m + 34) (k + 3)) (hI h (m + 34) (k + 1)), h) := by
  simp only [f_X12_baseOf, ko_t S.k, kr_t S.r47, ka_t S.k47, (nI_c k).1, chk_t (inb_nI (show k + 1 < 1498 by omega) (by omega)), tn_nI (show k + 1 < 2 ^ 31 by omega), m_baseFrom S hk, bd_s]
theorem m_lengthOf (S : MS h m) {k : Nat} (hk : k + 8 ≤ 1498) : f_X12_lengthOf m (nI k) h = some (lenI (hI h (m + 28) 4) (hI h (m + 34) (k + 2)) (hI h (m + 34) (k + 3)) (hI h (m + 34) (k + 4)), h) := by
  simp only [f_X12_lengthOf, ko_t S.k, kr_t S.r47, ka_t S.k47, (nI_c k).2.2.1, (nI_c k).2.1, (nI_c k).2.2.2.1, chk_t (inb_nI (show k + 3 < 1498 by omega) (by omega)), chk_t (inb_nI (show k + 2 < 1498 by omega) (by omega)), chk_t (inb_nI (show k + 4 < 1498 by omega) (by omega)), tn_nI (show k + 3 < 2 ^ 31 by omega), tn_nI (show k + 2 < 2 ^ 31 by omega), tn_nI (show k + 4 < 2 ^ 31 by omega), m_modulo S, bd_s, lenI]
theorem m_isWithin (S : MS h m) {k : Nat} (hk : k + 8 ≤ 1498) (x : Int32) : f_X12_isWithin m (nI k) x h = some (b2i (covI (hI h (m + 28) 4) (hI h (m + 34) (k + 2)) (hI h (m + 34) (k + 3)) (hI h (m + 34) (k + 4)) (hI h (m + 34) (k + 1)) x), h) := by
  simp only [f_X12_isWithin, f_X12_isWithin_26, f_X12_isWithin_27, ko_t S.k, m_baseOf S hk, m_lengthOf S hk, bd_s, covI, b2i, z0_ok, z1_ok]
  exact cov_if _ _ _ _
theorem m_doesFit (S : MS h m) {k : Nat} (hk : k + 8 ≤ 1498) (s : Int32) : f_X12_doesFit m (nI k) s h = some (b2i (decide (basI (hI h (m + 28) 4) (hI h (m + 34) (k + 2)) (hI h (m + 34) (k + 3)) ((hI h (m + 34) (k + 1) + s) &&& 4095) = basI (hI h (m + 28) 4) (hI h (m + 34) (k + 2)) (hI h (m + 34) (k + 3)) (hI h (m + 34) (k + 1)))), h) := by
  simp only [f_X12_doesFit, f_X12_doesFit_32, ko_t S.k, kr_t S.r47, ka_t S.k47, (nI_c k).1, chk_t (inb_nI (show k + 1 < 1498 by omega) (by omega)), tn_nI (show k + 1 < 2 ^ 31 by omega), m_baseFrom S hk, m_baseOf S hk, bd_s, b2i, z0_ok, z1_ok]
  split <;> simp [*]
theorem m_isIn (x a b : Int32) : f_X12_isIn x.toInt64 a.toInt64 b.toInt64 h = some (b2i (decide (a ≤ x) && decide (x ≤ b)), h) := by
  simp only [f_X12_isIn, f_X12_isIn_17, f_X12_isIn_18, z0_ok, z1_ok, b2i]
  have e2 : (0 : Int32) < lg_cmp x.toInt64 b.toInt64 ↔ b < x := (lg_cmp_gt _ _).trans (i2l_lt _ _)
  by_cases h1 : x < a
  · rw [if_pos ((lg_cmp_lt _ _).mpr ((i2l_lt _ _).mpr h1))]
    simp [Int32.not_le.mpr h1]
  · rw [if_neg (fun q => h1 ((i2l_lt _ _).mp ((lg_cmp_lt _ _).mp q)))]
    by_cases h2 : b < x
    · rw [if_pos (e2.mpr h2)]
      simp [Int32.not_le.mpr h2]
    · rw [if_neg (fun q => h2 (e2.mp q))]
      simp [Int32.not_lt.mp h1, Int32.not_lt.mp h2]
end Mo
