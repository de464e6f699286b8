/-! values of formulas: whole numbers -/
def vI (z : Int) : Int32 := Int32.ofInt z
def vL (z : Int) : Int64 := Int64.ofInt z
theorem vI_t {z : Int} (h1 : -2147483648 ≤ z) (h2 : z < 2147483648) : (vI z).toInt = z := Int32.toInt_ofInt_of_le h1 h2
theorem vL_t {z : Int} (h1 : -9223372036854775808 ≤ z) (h2 : z < 9223372036854775808) : (vL z).toInt = z := Int64.toInt_ofInt_of_le h1 h2
theorem vI_n (n : Nat) : nI n = vI (n : Int) := (Int32.ofInt_eq_ofNat).symm
theorem vL_n (n : Nat) : lN n = vL (n : Int) := (Int64.ofInt_eq_ofNat).symm
theorem vI_l {z : Int} (h1 : -2147483648 ≤ z) (h2 : z < 2147483648) : (vI z).toInt64 = vL z := Int64.toInt_inj.mp (by rw [Int32.toInt_toInt64, vI_t h1 h2, vL_t (by omega) (by omega)])
theorem vL_i {z : Int} (h1 : -2147483648 ≤ z) (h2 : z < 2147483648) : (vL z).toInt32 = vI z := by
  rw [← vI_l h1 h2]; simp
theorem vL_add (a b : Int) : vL a + vL b = vL (a + b) := (Int64.ofInt_add a b).symm
theorem vL_sub (a b : Int) : vL a - vL b = vL (a - b) := (Int64.ofInt_sub a b).symm
theorem vL_mul (a b : Int) : vL a * vL b = vL (a * b) := (Int64.ofInt_mul a b).symm
theorem vI_sub (a b : Int) : vI a - vI b = vI (a - b) := (Int32.ofInt_sub a b).symm
theorem vI_mul (a b : Int) : vI a * vI b = vI (a * b) := (Int32.ofInt_mul a b).symm
section Vr
variable {a b : Int}
theorem vI_le (a1 : -2147483648 ≤ a) (a2 : a < 2147483648) (b1 : -2147483648 ≤ b) (b2 : b < 2147483648) : (vI a ≤ vI b) = (a ≤ b) := by rw [fa_le, vI_t a1 a2, vI_t b1 b2]
theorem vI_lt (a1 : -2147483648 ≤ a) (a2 : a < 2147483648) (b1 : -2147483648 ≤ b) (b2 : b < 2147483648) : (vI a < vI b) = (a < b) := by rw [fa_lt, vI_t a1 a2, vI_t b1 b2]
theorem vI_eq (a1 : -2147483648 ≤ a) (a2 : a < 2147483648) (b1 : -2147483648 ≤ b) (b2 : b < 2147483648) : (vI a = vI b) = (a = b) := by rw [fa_eq, vI_t a1 a2, vI_t b1 b2]
theorem vL_le (a1 : -9223372036854775808 ≤ a) (a2 : a < 9223372036854775808) (b1 : -9223372036854775808 ≤ b) (b2 : b < 9223372036854775808) : (vL a ≤ vL b) = (a ≤ b) := by rw [fa_le64, vL_t a1 a2, vL_t b1 b2]
theorem vL_lt (a1 : -9223372036854775808 ≤ a) (a2 : a < 9223372036854775808) (b1 : -9223372036854775808 ≤ b) (b2 : b < 9223372036854775808) : (vL a < vL b) = (a < b) := by rw [fa_lt64, vL_t a1 a2, vL_t b1 b2]
theorem vL_eq (a1 : -9223372036854775808 ≤ a) (a2 : a < 9223372036854775808) (b1 : -9223372036854775808 ≤ b) (b2 : b < 9223372036854775808) : (vL a = vL b) = (a = b) := by rw [fa_eq64, vL_t a1 a2, vL_t b1 b2]
end Vr
def clZ (z : Int) : Int := if z ≤ 1000000 then if -1000000 ≤ z then z else -1000000 else 1000000
theorem clZ_b (z : Int) : -1000000 ≤ clZ z ∧ clZ z ≤ 1000000 := by unfold clZ; split <;> (try split) <;> omega
def flZ (a b : Int) : Int := if b = 0 then 0 else if a - a.tdiv b * b = 0 then a.tdiv b else if decide (a < 0) = decide (b < 0) then a.tdiv b else a.tdiv b - 1
def opZ (c : Nat) (a b : Int) : Int := if c = 1 then clZ (a + b) else if c = 2 then clZ (a - b) else if c = 3 then clZ (a * b) else if c = 4 then flZ a b else if c = 5 then (if a ≤ b then a else b) else if c = 6 then (if a ≤ b then b else a) else if c = 7 then (if a < b then 1 else 0) else if c = 8 then (if b < a then 1 else 0) else if c = 9 then (if a = b then 1 else 0) else if c = 10 then a * b else (if 0 < a + b then 1 else 0)
/-- a value of a kind (true: of a test) -/
def OV (t : Bool) (z : Int) : Prop := -1000000 ≤ z ∧ z ≤ 1000000 ∧ (t = true → z = 0 ∨ z = 1)
theorem tdiv_b {a b : Int} (h1 : -1000000 ≤ a) (h2 : a ≤ 1000000) : -1000000 ≤ a.tdiv b ∧ a.tdiv b ≤ 1000000 := by
  have h3 : (a.tdiv b).natAbs ≤ a.natAbs := by rw [Int.natAbs_tdiv]; exact Nat.div_le_self _ _
  omega
theorem mul_b {a b : Int} (h1 : -1000000 ≤ a) (h2 : a ≤ 1000000) (h3 : -1000000 ≤ b) (h4 : b ≤ 1000000) : -1000000000000 ≤ a * b ∧ a * b ≤ 1000000000000 := by
  have h5 : (a * b).natAbs ≤ 1000000 * 1000000 := by
    rw [Int.natAbs_mul]
    exact Nat.mul_le_mul (by omega) (by omega)
  omega
theorem opZ_ov {c : Nat} {a b : Int} {t : Bool} (h1 : 1 ≤ c) (h2 : c ≤ 11) (ht : t = decide (10 ≤ c)) (ha : OV t a) (hb : OV t b) : OV (decide (7 ≤ c)) (opZ c a b) := by
  obtain ⟨a1, a2, a3⟩ := ha
  obtain ⟨b1, b2, b3⟩ := hb
  have tb := tdiv_b (b := b) a1 a2
  rcases (show c = 1 ∨ c = 2 ∨ c = 3 ∨ c = 4 ∨ c = 5 ∨ c = 6 ∨ c = 7 ∨ c = 8 ∨ c = 9 ∨ c = 10 ∨ c = 11 by omega) with rfl | rfl | rfl | rfl | rfl | rfl | rfl | rfl | rfl | rfl | rfl
  · exact ⟨(clZ_b _).1, (clZ_b _).2, fun q => by simp at q⟩
  · exact ⟨(clZ_b _).1, (clZ_b _).2, fun q => by simp at q⟩
  · exact ⟨(clZ_b _).1, (clZ_b _).2, fun q => by simp at q⟩
  · refine ⟨?_, ?_, fun q => by simp at q⟩
    · show -1000000 ≤ flZ a b
      unfold flZ
      by_cases q0 : b = 0
      · rw [if_pos q0]; omega
      · rw [if_neg q0]
        by_cases q1 : a - a.tdiv b * b = 0
        · rw [if_pos q1]; omega
        · rw [if_neg q1]
          by_cases q2 : decide (a < 0) = decide (b < 0)
          · rw [if_pos q2]; omega
          · rw [if_neg q2]
            have : a.tdiv b ≠ -1000000 := by
              intro q
              have h3 : (a.tdiv b).natAbs = a.natAbs / b.natAbs := Int.natAbs_tdiv a b
              have h4 : b.natAbs ≠ 1 := by
                intro q4
                apply q1
                rcases (show b = 1 ∨ b = -1 by omega) with rfl | rfl
                · rw [Int.tdiv_one]; omega
                · rw [Int.tdiv_neg, Int.tdiv_one]; omega
              have h5 : a.natAbs / b.natAbs ≤ a.natAbs / 2 := Nat.div_le_div_left (by omega) (by omega)
              omega
            omega
    · show flZ a b ≤ 1000000
      unfold flZ
      repeat (first | split | omega)
  · show OV (decide (7 ≤ 5)) (if a ≤ b then a else b)
    split <;> exact ⟨by omega, by omega, fun q => by simp at q⟩
  · show OV (decide (7 ≤ 6)) (if a ≤ b then b else a)
    split <;> exact ⟨by omega, by omega, fun q => by simp at q⟩
  · show OV _ (if a < b then 1 else 0)
    split
    · exact ⟨by omega, by omega, fun _ => Or.inr rfl⟩
    · exact ⟨by omega, by omega, fun _ => Or.inl rfl⟩
  · show OV _ (if b < a then 1 else 0)
    split
    · exact ⟨by omega, by omega, fun _ => Or.inr rfl⟩
    · exact ⟨by omega, by omega, fun _ => Or.inl rfl⟩
  · show OV _ (if a = b then 1 else 0)
    split
    · exact ⟨by omega, by omega, fun _ => Or.inr rfl⟩
    · exact ⟨by omega, by omega, fun _ => Or.inl rfl⟩
  · have a3 := a3 (by rw [ht]; decide)
    have b3 := b3 (by rw [ht]; decide)
    show OV _ (a * b)
    rcases a3 with rfl | rfl <;> rcases b3 with rfl | rfl <;> exact ⟨by omega, by omega, fun _ => by decide⟩
  · show OV _ (if 0 < a + b then 1 else 0)
    split
    · exact ⟨by omega, by omega, fun _ => Or.inr rfl⟩
    · exact ⟨by omega, by omega, fun _ => Or.inl rfl⟩
section Vo
variable {h : aH} {a b : Int}
theorem j_minL (x y : Int64) : f_J9_min_f86c9 x y h = some (if y < x then y else x, h) := by
  simp only [f_J9_min_f86c9_11, f_J9_min_f86c9, lg_cmp_gt]
  split <;> rfl
theorem j_maxL (x y : Int64) : f_J9_max_f86c9 x y h = some (if x < y then y else x, h) := by
  simp only [f_J9_max_f86c9_11, f_J9_max_f86c9, lg_cmp_lt]
  split <;> rfl
theorem c_clamp {z : Int} (h1 : -9000000000000 ≤ z) (h2 : z ≤ 9000000000000) : f_X0_clamp (vL z) h = some (vI (clZ z), h) := by
  simp only [f_X0_clamp, j_minL, j_maxL, bd_s]
  rw [show (1000000 : Int64) = vL 1000000 by decide, show (-vL 1000000 : Int64) = vL (-1000000) by decide]
  simp only [vL_lt (a := z) (b := 1000000) (by omega) (by omega) (by omega) (by omega)]
  unfold clZ
  by_cases c1 : z ≤ 1000000
  · by_cases c2 : z < 1000000
    · rw [if_pos c2, if_pos c1]
      simp only [vL_lt (a := -1000000) (b := z) (by omega) (by omega) (by omega) (by omega)]
      by_cases c3 : -1000000 < z
      · rw [if_pos c3, if_pos (by omega), vL_i (by omega) (by omega)]
      · rw [if_neg c3, vL_i (by omega) (by omega)]
        split
        · rw [show z = -1000000 by omega]
        · rfl
    · have hz : z = 1000000 := by omega
      subst hz
      rw [if_neg (show ¬ (1000000 : Int) < 1000000 by omega), if_pos (show vL (-1000000) < vL 1000000 by decide), if_pos (by omega), if_pos (by omega), vL_i (by omega) (by omega)]
  · rw [if_neg (show ¬ z < 1000000 by omega), if_pos (show vL (-1000000) < vL 1000000 by decide), if_neg c1, vL_i (by omega) (by omega)]
theorem m_clip {z : Int} (h1 : -9000000000000 ≤ z) (h2 : z ≤ 9000000000000) : f_X12_qClip (vL z) h = some (vL (clZ z), h) := by
  simp only [f_X12_qClip_29, f_X12_qClip, lg_cmp_le, lg_cmp_ge]
  rw [show (1000000 : Int64) = vL 1000000 by decide, show (-vL 1000000 : Int64) = vL (-1000000) by decide]
  simp only [vL_le (a := z) (b := 1000000) (by omega) (by omega) (by omega) (by omega), vL_le (a := -1000000) (b := z) (by omega) (by omega) (by omega) (by omega)]
  unfold clZ
  by_cases c1 : z ≤ 1000000
  · rw [if_pos c1, if_pos c1]
    by_cases c2 : -1000000 ≤ z
    · rw [if_pos c2, if_pos c2]
    · rw [if_neg c2, if_neg c2]
  · rw [if_neg c1, if_neg c1]
theorem xor_sg (x y : Int32) : (0 ≤ x ^^^ y) ↔ (decide (x.toInt < 0) = decide (y.toInt < 0)) := by
  have e : ∀ z : Int32, decide (z.toInt < 0) = z.toBitVec.msb := fun z => by
    rw [← Int32.toInt_toBitVec]; exact (BitVec.msb_eq_toInt).symm
  rw [fa_le, show (0 : Int32).toInt = 0 by decide, e x, e y]
  have e2 := e (x ^^^ y)
  rw [Int32.toBitVec_xor, BitVec.msb_xor] at e2
  constructor
  · intro q
    have : decide ((x ^^^ y).toInt < 0) = false := by simp; omega
    rw [this] at e2
    revert e2
    cases x.toBitVec.msb <;> cases y.toBitVec.msb <;> simp
  · intro q
    rw [q] at e2
    have : decide ((x ^^^ y).toInt < 0) = false := by rw [e2]; cases y.toBitVec.msb <;> rfl
    simp at this; exact this
theorem c_floor (a1 : -1000000 ≤ a) (a2 : a ≤ 1000000) (b1 : -1000000 ≤ b) (b2 : b ≤ 1000000) (b0 : ¬ b = 0) : f_J9_floorDiv_7cf53 (vI a) (vI b) h = some (vI (flZ a b), h) := by
  have tb := tdiv_b (b := b) a1 a2
  have n0 : ¬ vI b = 0 := by rw [show (0 : Int32) = vI 0 by decide, vI_eq (by omega) (by omega) (by omega) (by omega)]; exact b0
  have e1 : vI a / vI b = vI (a.tdiv b) := by
    apply Int32.toInt_inj.mp
    rw [Int32.toInt_div_of_ne_left _ _ (by intro q; have := congrArg Int32.toInt q; rw [vI_t (by omega) (by omega), show Int32.minValue.toInt = -2147483648 by decide] at this; omega), vI_t (by omega) (by omega), vI_t (by omega) (by omega), vI_t (by omega) (by omega)]
  have mb := mul_b tb.1 tb.2 b1 b2
  have mb2 : (a.tdiv b * b).natAbs ≤ 1000000 := by
    have h3 : (a.tdiv b).natAbs = a.natAbs / b.natAbs := Int.natAbs_tdiv a b
    rw [Int.natAbs_mul, h3]
    have := Nat.div_mul_le_self a.natAbs b.natAbs
    omega
  simp only [f_J9_floorDiv_7cf53_21, f_J9_floorDiv_7cf53, chk_t n0, nm, e1, xor_sg, vI_t (z := a) (by omega) (by omega), vI_t (z := b) (by omega) (by omega), vI_mul, vI_eq (a := a.tdiv b * b) (b := a) (by omega) (by omega) (by omega) (by omega)]
  rw [show (1 : Int32) = vI 1 by decide, vI_sub]
  unfold flZ
  rw [if_neg b0]
  by_cases q1 : a - a.tdiv b * b = 0
  · rw [if_pos q1, if_pos (show a.tdiv b * b = a by omega)]
    split <;> rfl
  · rw [if_neg q1, if_neg (show ¬ a.tdiv b * b = a by omega)]
    split <;> rfl
theorem m_floor (a1 : -1000000 ≤ a) (a2 : a ≤ 1000000) (b1 : -1000000 ≤ b) (b2 : b ≤ 1000000) : f_X12_qFloor (vL a) (vL b) h = some (vL (flZ a b), h) := by
  have tb := tdiv_b (b := b) a1 a2
  have z0 : (0 : Int64) = vL 0 := by decide
  have mb := mul_b tb.1 tb.2 b1 b2
  have e0 : (lg_cmp (vL b) 0 = 0) ↔ b = 0 := by rw [lg_cmp_eq, z0, vL_eq (by omega) (by omega) (by omega) (by omega)]
  unfold flZ
  by_cases b0 : b = 0
  · rw [if_pos b0]
    simp only [f_X12_qFloor, if_pos (e0.mpr b0)]
    rfl
  · rw [if_neg b0]
    have n0 : ¬ vL b = 0 := by rw [z0, vL_eq (by omega) (by omega) (by omega) (by omega)]; exact b0
    have e1 : vL a / vL b = vL (a.tdiv b) := by
      apply Int64.toInt_inj.mp
      rw [Int64.toInt_div_of_ne_left _ _ (by intro q; have := congrArg Int64.toInt q; rw [vL_t (by omega) (by omega), show Int64.minValue.toInt = -9223372036854775808 by decide] at this; omega), vL_t (by omega) (by omega), vL_t (by omega) (by omega), vL_t (by omega) (by omega)]
    have e2 : (lg_cmp (vL (a - a.tdiv b * b)) 0 = 0) ↔ a - a.tdiv b * b = 0 := by rw [lg_cmp_eq, z0, vL_eq (by omega) (by omega) (by omega) (by omega)]
    have e3 : (0 ≤ lg_cmp (vL a) 0) ↔ 0 ≤ a := by rw [lg_cmp_ge, z0, vL_le (by omega) (by omega) (by omega) (by omega)]
    have e4 : (0 ≤ lg_cmp (vL b) 0) ↔ 0 ≤ b := by rw [lg_cmp_ge, z0, vL_le (by omega) (by omega) (by omega) (by omega)]
    simp only [f_X12_qFloor_55, f_X12_qFloor_53, f_X12_qFloor_43, f_X12_qFloor_32, f_X12_qFloor, chk_t n0, nm, e1, vL_mul, vL_sub, if_neg (fun q => b0 (e0.mp q))]
    rw [show (1 : Int64) = vL 1 by decide, vL_sub]
    by_cases q1 : a - a.tdiv b * b = 0
    · rw [if_pos (e2.mpr q1), if_pos q1]
    · rw [if_neg (fun q => q1 (e2.mp q)), if_neg q1]
      by_cases qa : 0 ≤ a
      · rw [if_pos (e3.mpr qa)]
        by_cases qb : 0 ≤ b
        · rw [if_pos (e4.mpr qb), if_true, if_pos (by simp; omega)]
        · rw [if_neg (fun q => qb (e4.mp q)), if_neg (by decide), if_neg (by simp; omega)]
      · rw [if_neg (fun q => qa (e3.mp q))]
        by_cases qb : 0 ≤ b
        · rw [if_pos (e4.mpr qb), if_neg (by decide), if_neg (by simp; omega)]
        · rw [if_neg (fun q => qb (e4.mp q)), if_true, if_pos (by simp; omega)]
end Vo
