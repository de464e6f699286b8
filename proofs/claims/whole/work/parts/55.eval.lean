/-! rows by which programs work themselves out: everything a number nI k, side conditions by arithmetic -/
def koK {β : Type} (o : Option aK) (ci : Nat) (x : Option β) : Option β := match o with
  | some (.inl c) => if c = ci then x else none
  | _ => none
def kaK {β : Type} (o : Option aK) (t : FieldType) (f : Nat → Option β) : Option β := match o with
  | some (.inr p) => if p.1 = t then f p.2 else none
  | _ => none
theorem ko_K {β : Type} (h : aH) (a ci : Nat) (x : Option β) : ko h a ci x = koK (hK h a) ci x := rfl
theorem ka_K {β : Type} (h : aH) (a : Nat) (t : FieldType) (f : Nat → Option β) : ka h a t f = kaK (hK h a) t f := rfl
theorem koK_t {β : Type} (ci : Nat) (x : Option β) : koK (some (.inl ci)) ci x = x := by simp [koK]
theorem kaK_t {β : Type} (t : FieldType) (n : Nat) (f : Nat → Option β) : kaK (some (.inr (t, n))) t f = f n := by simp [kaK]
theorem kr_s {α β : Type} (x : α) (f : α → Option β) : kr (some x) f = f x := rfl
theorem kn_s {α β : Type} (x : α) (a : Option β) (f : α → Option β) : kn (some x) a f = f x := rfl
theorem kn_n {α β : Type} (a : Option β) (f : α → Option β) : kn (none : Option α) a f = a := rfl
theorem ch_nI {β : Type} {k n : Nat} {x : Option β} (hk : k < n) (hn : n < 2 ^ 31) : chk (inb (nI k) n = true) x = x := chk_t (inb_nI hk hn)
theorem z0_N {β : Type} {x : Option β} : chk (narrow .boolean (.int (nI 0)) = .int (nI 0)) x = x := rfl
theorem z1_N {β : Type} {x : Option β} : chk (narrow .boolean (.int (nI 1)) = .int (nI 1)) x = x := rfl
theorem zb_N {β : Type} {x : Option β} (b : Bool) : chk (narrow .boolean (.int (b2i b)) = .int (b2i b)) x = x := by cases b <;> rfl
theorem int_cases (p : Int32) : p < nI 0 ∨ ∃ k : Nat, k < 2 ^ 31 ∧ p = nI k := by
  by_cases h : p < 0
  · exact Or.inl h
  · exact Or.inr (nI_of h)
section Ng
variable {p : Int32} {n : Nat}
theorem ng_lt' (hp : p < nI 0) (hn : n < 2 ^ 31) : (p < nI n) = True := by
  have h0 : (0 : Int32) ≤ nI n := nI_pos' hn
  rw [fa_lt] at hp; rw [fa_le] at h0
  refine eq_true ?_
  rw [fa_lt]
  have e : (nI 0).toInt = 0 := by decide
  have e2 : (0 : Int32).toInt = 0 := by decide
  omega
theorem ng_le' (hp : p < nI 0) (hn : n < 2 ^ 31) : (p ≤ nI n) = True := by
  have := of_eq_true (ng_lt' hp hn)
  exact eq_true (fa_of_lt this).1
theorem ng_le (hp : p < nI 0) (hn : n < 2 ^ 31) : (nI n ≤ p) = False := by
  have := of_eq_true (ng_lt' hp hn)
  exact eq_false (fa_of_lt this).2.1
theorem ng_lt (hp : p < nI 0) (hn : n < 2 ^ 31) : (nI n < p) = False := by
  have := of_eq_true (ng_lt' hp hn)
  exact eq_false (fa_of_lt this).2.2.1
theorem ng_eq (hp : p < nI 0) (hn : n < 2 ^ 31) : (p = nI n) = False := by
  have := of_eq_true (ng_lt' hp hn)
  exact eq_false (fa_of_lt this).2.2.2.1
theorem ng_qe (hp : p < nI 0) (hn : n < 2 ^ 31) : (nI n = p) = False := by
  have := of_eq_true (ng_lt' hp hn)
  exact eq_false (fa_of_lt this).2.2.2.2
end Ng
/-- below 0 -/
theorem m1_lt : (-nI 1 : Int32) < nI 0 := by decide
theorem m1_e : (-1 : Int32) = -nI 1 := rfl
theorem m1_le (n : Nat) (hn : n < 2 ^ 31) : (nI n ≤ -nI 1) = False := ng_le m1_lt hn
theorem m1_lt' (n : Nat) (hn : n < 2 ^ 31) : (-nI 1 < nI n) = True := ng_lt' m1_lt hn
theorem m1_gt (n : Nat) (hn : n < 2 ^ 31) : (nI n < -nI 1) = False := ng_lt m1_lt hn
theorem m1_le' (n : Nat) (hn : n < 2 ^ 31) : (-nI 1 ≤ nI n) = True := ng_le' m1_lt hn
theorem m1_eq (n : Nat) (hn : n < 2 ^ 31) : (-nI 1 = nI n) = False := ng_eq m1_lt hn
theorem m1_qe (n : Nat) (hn : n < 2 ^ 31) : (nI n = -nI 1) = False := ng_qe m1_lt hn
theorem s01 : nI 0 - nI 1 = -nI 1 := by decide
theorem b2i_eq0 (b : Bool) : (b2i b = nI 0) = (b = false) := propext (b2i_0 b)
theorem b2i_t : b2i true = nI 1 := rfl
theorem b2i_f : b2i false = nI 0 := rfl
theorem b2i_d {c : Prop} [Decidable c] (hc : c) : b2i (decide c) = nI 1 := by simp [hc, b2i]; rfl
theorem b2i_n {c : Prop} [Decidable c] (hc : ¬ c) : b2i (decide c) = nI 0 := by simp [hc, b2i]; rfl
/-- whether a number is in a range, as the reference asks it -/
theorem lN_nI (n : Nat) (hn : n < 2 ^ 31) : lN n = (nI n).toInt64 := (nI_l hn).symm
theorem in_N {h : aH} {k a b : Nat} (hk : k < 2 ^ 31) (ha : a < 2 ^ 31) (hb : b < 2 ^ 31) : f_X12_isIn (nI k).toInt64 (lN a) (lN b) h = some (b2i (decide (a ≤ k ∧ k ≤ b)), h) := by
  rw [lN_nI a ha, lN_nI b hb, m_isIn]
  have e1 := nI_leI ha hk
  have e2 := nI_leI hk hb
  by_cases c1 : a ≤ k <;> by_cases c2 : k ≤ b <;> simp [e1, e2, c1, c2]
theorem in_n {h : aH} {k a n : Nat} (hk : k < 2 ^ 31) (ha : a < 2 ^ 31) (hn : n < 2 ^ 31) : f_X12_isIn (nI k).toInt64 (lN a) (nI n - nI 1).toInt64 h = some (b2i (decide (a ≤ k ∧ k < n)), h) := by
  rw [lN_nI a ha, m_isIn]
  have e1 := nI_leI ha hk
  by_cases n0 : n = 0
  · subst n0
    rw [s01]
    have e2 : ¬ nI k ≤ -nI 1 := by rw [m1_le k hk]; exact id
    simp [e2]
  · rw [pk_sub (show 1 ≤ n by omega)]
    have e2 := nI_leI hk (show n - 1 < 2 ^ 31 by omega)
    have e3 : k ≤ n - 1 ↔ k < n := by omega
    by_cases c1 : a ≤ k <;> by_cases c2 : k < n <;> simp [e1, e2, e3, c1, c2]
theorem in_g {h : aH} {p : Int32} (hp : p < nI 0) {a : Nat} {q : Int32} (ha : a < 2 ^ 31) : f_X12_isIn p.toInt64 (lN a) q.toInt64 h = some (nI 0, h) := by
  rw [lN_nI a ha, m_isIn]
  have e1 : ¬ nI a ≤ p := by rw [ng_le hp ha]; exact id
  simp [e1, b2i]
  rfl
theorem in_gN {h : aH} {p : Int32} (hp : p < nI 0) {a b : Nat} (ha : a < 2 ^ 31) (hb : b < 2 ^ 31) : f_X12_isIn p.toInt64 (lN a) (lN b) h = some (nI 0, h) := by
  rw [lN_nI b hb]
  exact in_g hp ha
theorem sr_nI {n e : Nat} (hn : n < 2 ^ 31) (he : e < 32) : nI n >>> (nI e &&& nI 31) = nI (n / 2 ^ e) := shr_nI hn he
theorem sl_nI {n e : Nat} (he : e < 32) (hn : n * 2 ^ e < 2 ^ 32) : nI n <<< (nI e &&& nI 31) = nI (n * 2 ^ e) := shl_nI he hn
theorem an_3 (n : Nat) : nI n &&& nI 3 = nI (n % 4) := fa_mask n 2
theorem an_255 (n : Nat) : nI n &&& nI 255 = nI (n % 256) := fa_mask n 8
theorem an_4095 (n : Nat) : nI n &&& nI 4095 = nI (n % 4096) := fa_mask n 12
theorem lb_f {c : Prop} [Decidable c] {α : Type} {a b : α} : (if (decide c = false) then a else b) = if c then b else a := by
  by_cases h : c <;> simp [h]
theorem hI_fb' (h : aH) (a t n : Nat) (f : Nat → Int32) (b j : Nat) : hI (fb h a t n f) b j = if b = a ∧ t ≤ j ∧ j < t + n then f (j - t) else hI h b j := rfl
theorem le_T {a b : Nat} (h : a ≤ b) : (a ≤ b) = True := eq_true h
theorem le_F {a b : Nat} (h : b < a) : (a ≤ b) = False := eq_false (Nat.not_le.mpr h)
theorem lt_T {a b : Nat} (h : a < b) : (a < b) = True := eq_true h
theorem lt_F {a b : Nat} (h : b ≤ a) : (a < b) = False := eq_false (Nat.not_lt.mpr h)
theorem eq_T {a b : Nat} (h : a = b) : (a = b) = True := eq_true h
theorem eq_F {a b : Nat} (h : ¬ a = b) : (a = b) = False := eq_false h
