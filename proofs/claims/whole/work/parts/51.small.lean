/-! small ones of both sides, by cases -/
section Sm
variable {h : aH} {x m : Nat}
theorem c_isPointer_t (S : XS h x) (hr : ¬ hI h x 12 = 0) {k : Nat} (hk : k < 16) : f_X11_isPointer x (nI k) h = some (1, h) := by
  simp only [f_X11_isPointer, f_X11_isPointer_22, ko_t S.k0, if_neg hr, if_neg (nI_pos (show k < 2 ^ 31 by omega)), if_neg (show ¬ (16 : Int32) ≤ nI k from nI_ge (b := 16) hk (by omega)), z1_ok]
theorem c_isPointer_f (S : XS h x) {p : Int32} (hp : hI h x 12 = 0 ∨ p < 0 ∨ 16 ≤ p) : f_X11_isPointer x p h = some (0, h) := by
  simp only [f_X11_isPointer, f_X11_isPointer_21, f_X11_isPointer_22, ko_t S.k0, z0_ok, z1_ok]
  by_cases h1 : hI h x 12 = 0
  · rw [if_pos h1]
  · rw [if_neg h1]
    by_cases h2 : p < 0
    · rw [if_pos h2]
    · rw [if_neg h2, if_pos (by rcases hp with q | q | q; exact absurd q h1; exact absurd q h2; exact q)]
theorem c_isShelf_t (S : XS h x) (hr : ¬ hI h x 12 = 0) {a n k : Nat} (h9 : hR h x 9 = some a) (ka : hK h a = some (.inl 4)) (hn : hI h a 3 = nI n) (hn4 : n ≤ 4) (hk : k < n) : f_X11_isShelf x (nI k) h = some (1, h) := by
  simp only [f_X11_isShelf, f_X11_isShelf_27, ko_t S.k0, if_neg hr, if_neg (nI_pos (show k < 2 ^ 31 by omega)), kr_t h9, ko_t ka, hn, if_neg (nI_ge hk (by omega)), z1_ok]
theorem c_isShelf_f (S : XS h x) {a : Nat} (h9 : hR h x 9 = some a) (ka : hK h a = some (.inl 4)) {p : Int32} (hp : hI h x 12 = 0 ∨ p < 0 ∨ hI h a 3 ≤ p) : f_X11_isShelf x p h = some (0, h) := by
  simp only [f_X11_isShelf, f_X11_isShelf_26, f_X11_isShelf_27, ko_t S.k0, z0_ok, z1_ok, kr_t h9, ko_t ka]
  by_cases h1 : hI h x 12 = 0
  · rw [if_pos h1]
  · rw [if_neg h1]
    by_cases h2 : p < 0
    · rw [if_pos h2]
    · rw [if_neg h2, if_pos (by rcases hp with q | q | q; exact absurd q h1; exact absurd q h2; exact q)]
theorem i2l_0 : (0 : Int64) = (0 : Int32).toInt64 := by decide
theorem i2l_15 : (15 : Int64) = (15 : Int32).toInt64 := by decide
theorem i2l_7 : (7 : Int64) = (7 : Int32).toInt64 := by decide
theorem m_isPointer_t (S : MS h m) (hr : ¬ hI h m 45 = 0) {k : Nat} (hk : k < 16) : f_X12_isPointer m (nI k).toInt64 h = some (1, h) := by
  have e : f_X12_isIn (nI k).toInt64 0 15 h = some (1, h) := by
    rw [i2l_0, i2l_15, m_isIn]
    have h1 : (0 : Int32) ≤ nI k := nI_pos' (by omega)
    have h2 : nI k ≤ (15 : Int32) := nI_le (b := 15) (by omega) (by omega)
    simp [h1, h2, b2i]
  simp only [f_X12_isPointer, f_X12_isPointer_23, ko_t S.k, if_neg hr, e, bd_s, z1_ok]
  rfl
theorem m_isPointer_f (S : MS h m) {p : Int32} (hp : hI h m 45 = 0 ∨ p < 0 ∨ 16 ≤ p) : f_X12_isPointer m p.toInt64 h = some (0, h) := by
  simp only [f_X12_isPointer, f_X12_isPointer_22, f_X12_isPointer_23, ko_t S.k, z0_ok, z1_ok]
  by_cases h1 : hI h m 45 = 0
  · rw [if_pos h1]
  · have e : f_X12_isIn p.toInt64 0 15 h = some (0, h) := by
      rw [i2l_0, i2l_15, m_isIn]
      rcases hp with q | q | q
      · exact absurd q h1
      · simp [Int32.not_le.mpr q, b2i]
      · have h2 : ¬ p ≤ (15 : Int32) := by
          intro h3
          have := Int32.le_iff_toInt_le.mp q
          have := Int32.le_iff_toInt_le.mp h3
          have e1 : (16 : Int32).toInt = 16 := by decide
          have e2 : (15 : Int32).toInt = 15 := by decide
          omega
        simp [h2, b2i]
    rw [if_neg h1, e, bd_s]
    rfl
/-- what is told of a cell of eight -/
def telI (M v a e b t p k w : Int32) : Int32 := if w = 0 then v else if w = 1 then a else if w = 2 then basI M e b a else if w = 3 then lenI M e b t else if w = 4 then e else if w = 5 then b else if w = 6 then t else if w = 7 then p else if w = 8 then k else -1
theorem lit_out {w : Int32} {n : Nat} (hn : n < 100) (h0 : w < 0 ∨ 8 < w) (h8 : n ≤ 8) : ¬ w = nI n := by
  intro e
  subst e
  rcases h0 with q | q
  · exact nI_pos (by omega) q
  · exact Int32.not_lt.mpr (nI_le (b := 8) h8 (by omega)) q
theorem in9 {w : Int32} (h0 : ¬ w < 0) (h1 : ¬ 8 < w) : w = 0 ∨ w = 1 ∨ w = 2 ∨ w = 3 ∨ w = 4 ∨ w = 5 ∨ w = 6 ∨ w = 7 ∨ w = 8 := by
  obtain ⟨j, hj, rfl⟩ := nI_of2 (M := 8) (n := 8) (by decide) h0 (Int32.not_lt.mp h1)
  rcases (show j = 0 ∨ j = 1 ∨ j = 2 ∨ j = 3 ∨ j = 4 ∨ j = 5 ∨ j = 6 ∨ j = 7 ∨ j = 8 by omega) with rfl | rfl | rfl | rfl | rfl | rfl | rfl | rfl | rfl <;> decide
theorem telI_out {M v a e b t p k w : Int32} (h0 : w < 0 ∨ 8 < w) : telI M v a e b t p k w = -1 := by
  have f : ∀ n : Nat, n ≤ 8 → ¬ w = nI n := fun n h8 => lit_out (by omega) h0 h8
  unfold telI
  rw [if_neg (show ¬ w = 0 from f 0 (by omega)), if_neg (show ¬ w = 1 from f 1 (by omega)), if_neg (show ¬ w = 2 from f 2 (by omega)), if_neg (show ¬ w = 3 from f 3 (by omega)), if_neg (show ¬ w = 4 from f 4 (by omega)), if_neg (show ¬ w = 5 from f 5 (by omega)), if_neg (show ¬ w = 6 from f 6 (by omega)), if_neg (show ¬ w = 7 from f 7 (by omega)), if_neg (show ¬ w = 8 from f 8 (by omega))]
theorem p_tell {p : Nat} (hp : hK h p = some (.inl 6)) (hv : hI h p 1 = 0 ∨ hI h p 1 = 1) (w M : Int32) : f_X6_tell p w M h = some (telI M (hI h p 1) (hI h p 2) (hI h p 3) (hI h p 4) (hI h p 5) (hI h p 6) (hI h p 7) w, h) := by
  simp only [f_X6_tell, f_X6_tell_107, f_X6_tell_64, ko_t hp, p_base hp, p_extent hp, bd_s]
  by_cases h0 : w < 0
  · rw [if_pos h0, telI_out (Or.inl h0)]
  · rw [if_neg h0]
    by_cases h1 : 8 < w
    · rw [if_pos h1, telI_out (Or.inr h1)]
    · rw [if_neg h1]
      rcases in9 h0 h1 with rfl | rfl | rfl | rfl | rfl | rfl | rfl | rfl | rfl
      · rcases hv with q | q <;> simp [telI, q]
      all_goals simp [telI]
theorem m_told (S : MS h m) {k : Nat} (hk : k + 8 ≤ 1498) (w : Int32) : f_X12_told m (nI k) w h = some (telI (hI h (m + 28) 4) (hI h (m + 34) k) (hI h (m + 34) (k + 1)) (hI h (m + 34) (k + 2)) (hI h (m + 34) (k + 3)) (hI h (m + 34) (k + 4)) (hI h (m + 34) (k + 5)) (hI h (m + 34) (k + 6)) w, h) := by
  simp only [f_X12_told, f_X12_told_126, ko_t S.k, kr_t S.r47, ka_t S.k47, (nI_c k).1, (nI_c k).2.1, (nI_c k).2.2.1, (nI_c k).2.2.2.1, (nI_c k).2.2.2.2.1, (nI_c k).2.2.2.2.2, chk_t (inb_nI (show k < 1498 by omega) (by omega)), tn_nI (show k < 2 ^ 31 by omega), chk_t (inb_nI (show k + 1 < 1498 by omega) (by omega)), tn_nI (show k + 1 < 2 ^ 31 by omega), chk_t (inb_nI (show k + 2 < 1498 by omega) (by omega)), tn_nI (show k + 2 < 2 ^ 31 by omega), chk_t (inb_nI (show k + 3 < 1498 by omega) (by omega)), tn_nI (show k + 3 < 2 ^ 31 by omega), chk_t (inb_nI (show k + 4 < 1498 by omega) (by omega)), tn_nI (show k + 4 < 2 ^ 31 by omega), chk_t (inb_nI (show k + 5 < 1498 by omega) (by omega)), tn_nI (show k + 5 < 2 ^ 31 by omega), chk_t (inb_nI (show k + 6 < 1498 by omega) (by omega)), tn_nI (show k + 6 < 2 ^ 31 by omega), m_baseOf S hk, m_lengthOf S hk, bd_s]
  by_cases h0 : w < 0
  · rw [if_pos h0, telI_out (Or.inl h0)]
  · rw [if_neg h0]
    by_cases h1 : 8 < w
    · rw [if_pos h1, telI_out (Or.inr h1)]
    · rw [if_neg h1]
      rcases in9 h0 h1 with rfl | rfl | rfl | rfl | rfl | rfl | rfl | rfl | rfl <;> simp [telI]
theorem c_end_t (S : XS h x) {t n : Nat} (ht : hI h x 13 = nI t) (hb : t ≤ 1600) (hn : n ≤ t) : f_X11_end x (nI n) h = some (1, sI h x 13 (nI n)) := by
  simp only [f_X11_end, if_neg (nI_pos (show n < 2 ^ 31 by omega)), ko_t S.k0, ht, if_pos (nI_le hn (by omega))]
theorem c_end_f (S : XS h x) {n : Int32} (hn : n < 0 ∨ hI h x 13 < n) : f_X11_end x n h = some (0, rfX h x 0) := by
  have e : f_X11_end_12 x h = some (0, rfX h x 0) := by
    simp only [f_X11_end_12, ko_t S.k0, show f_X11_deny x 0 h = some (0, rfX h x 0) from c_deny S (k := 0) (by omega), bd_s, z0_ok]
  simp only [f_X11_end, ko_t S.k0, e]
  by_cases h1 : n < 0
  · rw [if_pos h1]
  · rw [if_neg h1, if_neg (Int32.not_le.mpr (by rcases hn with q | q; exact absurd q h1; exact q))]
theorem m_end_t (S : MS h m) {t n : Nat} (ht : hI h m 1 = nI t) (hb : t ≤ 1600) (hn : n ≤ t) : f_X12_end m (nI n) h = some (1, sI h m 1 (nI n)) := by
  simp only [f_X12_end, if_neg (nI_pos (show n < 2 ^ 31 by omega)), ko_t S.k, ht, if_pos (nI_le hn (by omega))]
theorem m_end_f (S : MS h m) {n : Int32} (hn : n < 0 ∨ hI h m 1 < n) : f_X12_end m n h = some (0, rfX h m 0) := by
  have e : f_X12_end_12 m h = some (0, rfX h m 0) := by
    simp only [f_X12_end_12, ko_t S.k, kr_t S.r9, ka_t S.k9, chk_t (show inb 0 8 = true by decide), rfX]
    rfl
  simp only [f_X12_end, ko_t S.k, e]
  by_cases h1 : n < 0
  · rw [if_pos h1]
  · rw [if_neg h1, if_neg (Int32.not_le.mpr (by rcases hn with q | q; exact absurd q h1; exact q))]
theorem c_fault (S : XS h x) (w : Int32) : f_X11_fault x w h = some (if w = 0 then hI h x 14 else if w = 1 then hI h x 15 else -1, h) := by
  simp only [f_X11_fault, ko_t S.k0]
  split
  · rfl
  · split <;> rfl
theorem m_fault (S : MS h m) (w : Int32) : f_X12_fault m w h = some (if w = 0 then hI h m 7 else if w = 1 then hI h m 8 else -1, h) := by
  simp only [f_X12_fault, f_X12_fault_24, ko_t S.k]
  split
  · rfl
  · split <;> rfl
theorem c_status_t (S : XS h x) {k : Nat} (hk : k < 8) : f_X11_status x (nI k) h = some (hI h (x + 2) k, h) := by
  simp only [f_X11_status, f_X11_status_23, if_neg (nI_pos (show k < 2 ^ 31 by omega)), ko_t S.k0, kr_t S.r0_1, ka_t S.k2, if_neg (show ¬ Int32.ofNat 8 ≤ nI k from nI_ge (b := 8) hk (by omega)), chk_t (inb_nI (show k < 8 by omega) (by omega)), tn_nI (show k < 2 ^ 31 by omega)]
theorem c_status_f (S : XS h x) {w : Int32} (hw : w < 0 ∨ 8 ≤ w) : f_X11_status x w h = some (-1, h) := by
  simp only [f_X11_status, f_X11_status_22, f_X11_status_23, ko_t S.k0, kr_t S.r0_1, ka_t S.k2]
  by_cases h1 : w < 0
  · rw [if_pos h1]
  · rw [if_neg h1, if_pos (show Int32.ofNat 8 ≤ w by rcases hw with q | q; exact absurd q h1; exact q)]
theorem m_status_t (S : MS h m) {k : Nat} (hk : k < 8) : f_X12_status m (nI k) h = some (hI h (m + 2) k, h) := by
  have e : f_X12_isIn (nI k).toInt64 0 7 h = some (1, h) := by
    rw [i2l_0, i2l_7, m_isIn]
    have h1 : (0 : Int32) ≤ nI k := nI_pos' (by omega)
    have h2 : nI k ≤ (7 : Int32) := nI_le (b := 7) (by omega) (by omega)
    simp [h1, h2, b2i]
  simp only [f_X12_status, f_X12_status_22, e, bd_s, ko_t S.k, kr_t S.r9, ka_t S.k9, chk_t (inb_nI (show k < 8 by omega) (by omega)), tn_nI (show k < 2 ^ 31 by omega)]
  rfl
theorem m_status_f (S : MS h m) {w : Int32} (hw : w < 0 ∨ 8 ≤ w) : f_X12_status m w h = some (-1, h) := by
  have e : f_X12_isIn w.toInt64 0 7 h = some (0, h) := by
    rw [i2l_0, i2l_7, m_isIn]
    rcases hw with q | q
    · simp [Int32.not_le.mpr q, b2i]
    · have h2 : ¬ w ≤ (7 : Int32) := by
        intro h3
        have := Int32.le_iff_toInt_le.mp q
        have := Int32.le_iff_toInt_le.mp h3
        have e1 : (8 : Int32).toInt = 8 := by decide
        have e2 : (7 : Int32).toInt = 7 := by decide
        omega
      simp [h2, b2i]
  simp only [f_X12_status, f_X12_status_22, e, bd_s]
  rfl
theorem c_seed_t (S : XS h x) {k : Nat} (hk : k < 2 ^ 31) : f_X11_seed x (nI k) h = some (1, sL h x 16 (lN k)) := by
  simp only [f_X11_seed, if_pos (nI_pos' hk), ko_t S.k0, nI_l hk]
theorem c_seed_f (S : XS h x) {w : Int32} (hw : w < 0) : f_X11_seed x w h = some (0, rfX h x 7) := by
  simp only [f_X11_seed, if_neg (Int32.not_le.mpr hw), ko_t S.k0, show f_X11_deny x 7 h = some (0, rfX h x 7) from c_deny S (k := 7) (by omega), bd_s, z0_ok]
theorem m_seed_t (S : MS h m) {k : Nat} (hk : k < 2 ^ 31) : f_X12_seed m (nI k) h = some (1, sL h m 65 (lN k)) := by
  simp only [f_X12_seed, if_pos (nI_pos' hk), ko_t S.k, nI_l hk]
theorem m_seed_f (S : MS h m) {w : Int32} (hw : w < 0) : f_X12_seed m w h = some (0, rfX h m 7) := by
  simp only [f_X12_seed, if_neg (Int32.not_le.mpr hw), ko_t S.k, show f_X12_isRefused m 7 h = some (0, rfX h m 7) from m_isRefused S (k := 7) (by omega), bd_s, z0_ok]
end Sm
