/-! decoding in numbers: from which addresses bounds are the same -/
theorem p2_add (a b : Nat) : 2 ^ (a + b) = 2 ^ a * 2 ^ b := Nat.pow_add 2 a b
theorem nI_wrap {b c : Nat} (hc : c ≤ 2 ^ 32) : nI b - nI c = nI (b + (2 ^ 32 - c)) := by
  have h1 : nI (b + (2 ^ 32 - c)) + nI c = nI b := by
    rw [nI_add, show b + (2 ^ 32 - c) + c = b + 2 ^ 32 by omega, ← nI_add, show nI (2 ^ 32) = 0 by decide, Int32.add_zero]
  rw [← h1, Int32.add_sub_cancel]
theorem shl_any {n e : Nat} (he : e < 32) : nI n <<< (nI e &&& 31) = nI (n * 2 ^ e) := by
  have h1 := pk_shl (nI n) (nI e &&& 31) e (sh_amt he)
  apply Int32.toBitVec_inj.mp
  apply BitVec.eq_of_toNat_eq
  rw [h1]
  show n % 2 ^ 32 * 2 ^ e % 2 ^ 32 = n * 2 ^ e % 2 ^ 32
  rw [Nat.mod_mul_mod]
def edgN (M b : Nat) : Nat := (b + (2 ^ M - 2 ^ (M - 2))) % 2 ^ M
def lowN (M e b a : Nat) : Nat := if edgN M b ≤ a / 2 ^ e % 2 ^ M then 0 else 1
def hiN (M b : Nat) : Nat := if edgN M b ≤ b then 0 else 1
def basN (M e b a : Nat) : Nat := ((a / 2 ^ (e + M) + (hiN M b + (2 ^ 32 - lowN M e b a))) * 2 ^ (e + M) + b * 2 ^ e) % 4096
theorem M_cases {M : Nat} (h4 : 4 ≤ M) (h8 : M ≤ 8) : M = 4 ∨ M = 5 ∨ M = 6 ∨ M = 7 ∨ M = 8 := by omega
theorem edg_nI {M b : Nat} (h4 : 4 ≤ M) (h8 : M ≤ 8) : edgI (nI M) (nI b) = nI (edgN M b) := by
  unfold edgI edgN
  rw [show nI M - 2 = nI (M - 2) from pk_sub (b := 2) (by omega), one_shl (show M - 2 ≤ 13 by omega), nI_wrap (Nat.le_of_lt (Nat.pow_lt_pow_right (by decide) (by omega))), and_msk (by omega)]
  rcases M_cases h4 h8 with rfl | rfl | rfl | rfl | rfl <;> congr 1 <;> omega
theorem edgN_lt (M b : Nat) : edgN M b < 2 ^ M := Nat.mod_lt _ (Nat.two_pow_pos M)
theorem bas_nI {M e b a : Nat} (h4 : 4 ≤ M) (h8 : M ≤ 8) (he : e ≤ 13 - M) (hb : b < 2 ^ M) (ha : a < 2 ^ 31) : basI (nI M) (nI e) (nI b) (nI a) = nI (basN M e b a) := by
  have pM := p2_le (show M ≤ 8 from h8)
  have e1 := edgN_lt M b
  have q1 : a / 2 ^ e % 2 ^ M < 2 ^ M := Nat.mod_lt _ (Nat.two_pow_pos M)
  unfold basI corI
  rw [edg_nI h4 h8, shr_nI ha (show e < 32 by omega), and_msk (show M ≤ 13 by omega), nI_add, shr_nI ha (show e + M < 32 by omega), shl_any (n := b) (show e < 32 by omega)]
  have c1 : (if nI (edgN M b) ≤ nI b then (0 : Int32) else 1) = nI (hiN M b) := by
    unfold hiN
    by_cases c : edgN M b ≤ b
    · rw [if_pos c, if_pos (nI_le c (by omega))]; rfl
    · rw [if_neg c, if_neg (nI_ge (by omega) (by omega))]; rfl
  have c2 : (if nI (edgN M b) ≤ nI (a / 2 ^ e % 2 ^ M) then (0 : Int32) else 1) = nI (lowN M e b a) := by
    unfold lowN
    by_cases c : edgN M b ≤ a / 2 ^ e % 2 ^ M
    · rw [if_pos c, if_pos (nI_le c (by omega))]; rfl
    · rw [if_neg c, if_neg (nI_ge (by omega) (by omega))]; rfl
  have l1 : lowN M e b a ≤ 2 ^ 32 := by unfold lowN; split <;> omega
  rw [c1, c2, nI_wrap l1, nI_add, shl_any (show e + M < 32 by omega), nI_add, show (4095 : Int32) = nI (2 ^ 12 - 1) from rfl, fa_mask]
  rfl
theorem basN_lt (M e b a : Nat) : basN M e b a < 4096 := Nat.mod_lt _ (by omega)
theorem len_nI {M e b t : Nat} (h4 : 4 ≤ M) (h8 : M ≤ 8) (he : e ≤ 13 - M) (hb : b < 2 ^ M) : lenI (nI M) (nI e) (nI b) (nI t) = nI ((t + 2 ^ M - b) % 2 ^ M * 2 ^ e) := by
  have pM := p2_le (show M ≤ 8 from h8)
  have p0 := p2_le (show 4 ≤ M from h4)
  unfold lenI
  rw [nI_wrap (Nat.le_of_lt (Nat.lt_of_lt_of_le hb (by omega))), and_msk (by omega), shl_any (by omega)]
  rcases M_cases h4 h8 with rfl | rfl | rfl | rfl | rfl <;> congr 2 <;> omega
/-- what all rests on, window by window -/
theorem win_arith {W Q E B c a a0 i i0 : Nat} (hw : W = 16 ∨ W = 32 ∨ W = 64 ∨ W = 128 ∨ W = 256 ∨ W = 512 ∨ W = 1024 ∨ W = 2048) (hQ : W = 4 * Q) (hE : E < W) (hB : B < W) (hc : c = 0 ∧ E + Q = B ∨ c = 1 ∧ E + Q = B + W) (ha : a < 4096) (ha0 : a0 < 4096) (hi : i = 0 ∧ E ≤ a % W ∨ i = 1 ∧ a % W < E) (hi0 : i0 = 0 ∧ E ≤ a0 % W ∨ i0 = 1 ∧ a0 % W < E) :
    (((a / W + (c + (2 ^ 32 - i))) * W + B) % 4096 = ((a0 / W + (c + (2 ^ 32 - i0))) * W + B) % 4096 ↔ (a + 4096 - (((a0 / W + (c + (2 ^ 32 - i0))) * W + B) % 4096 + 4096 - Q) % 4096) % 4096 < W) := by
  rcases hw with rfl | rfl | rfl | rfl | rfl | rfl | rfl | rfl <;> omega
theorem win_all {W B c a a0 i i0 : Nat} (hw : W = 4096 ∨ W = 8192) : ((a / W + (c + (2 ^ 32 - i))) * W + B) % 4096 = ((a0 / W + (c + (2 ^ 32 - i0))) * W + B) % 4096 := by
  rcases hw with rfl | rfl <;> omega
/-- where the window of a pointer begins, how wide it is -/
def wsN (M e b a0 : Nat) : Nat := (basN M e b a0 + 4096 - 2 ^ (e + M - 2)) % 4096
def wzN (M e : Nat) : Nat := min 4096 (2 ^ (e + M))
def offN (st a : Nat) : Nat := (a + 4096 - st) % 4096
theorem low_iff {M e b a : Nat} : edgN M b ≤ a / 2 ^ e % 2 ^ M ↔ edgN M b * 2 ^ e ≤ a % 2 ^ (e + M) := by
  rw [p2_add, ← Nat.mod_mul_right_div_self, Nat.le_div_iff_mul_le (Nat.two_pow_pos e)]
theorem w_cases {M e : Nat} (h4 : 4 ≤ M) (h8 : M ≤ 8) (he : e ≤ 13 - M) : 2 ^ (e + M) = 16 ∨ 2 ^ (e + M) = 32 ∨ 2 ^ (e + M) = 64 ∨ 2 ^ (e + M) = 128 ∨ 2 ^ (e + M) = 256 ∨ 2 ^ (e + M) = 512 ∨ 2 ^ (e + M) = 1024 ∨ 2 ^ (e + M) = 2048 ∨ 2 ^ (e + M) = 4096 ∨ 2 ^ (e + M) = 8192 := by
  have : e + M = 4 ∨ e + M = 5 ∨ e + M = 6 ∨ e + M = 7 ∨ e + M = 8 ∨ e + M = 9 ∨ e + M = 10 ∨ e + M = 11 ∨ e + M = 12 ∨ e + M = 13 := by omega
  rcases this with q | q | q | q | q | q | q | q | q | q <;> rw [q] <;> decide
theorem edg_cases {M b : Nat} (h4 : 4 ≤ M) (h8 : M ≤ 8) (hb : b < 2 ^ M) : hiN M b = 0 ∧ edgN M b + 2 ^ (M - 2) = b ∨ hiN M b = 1 ∧ edgN M b + 2 ^ (M - 2) = b + 2 ^ M := by
  unfold hiN edgN
  rcases M_cases h4 h8 with rfl | rfl | rfl | rfl | rfl <;> split <;> omega
/-- bounds are decoded alike just within the window -/
theorem bas_win {M e b a a0 : Nat} (h4 : 4 ≤ M) (h8 : M ≤ 8) (he : e ≤ 13 - M) (hb : b < 2 ^ M) (ha : a < 4096) (ha0 : a0 < 4096) : basN M e b a = basN M e b a0 ↔ offN (wsN M e b a0) a < wzN M e := by
  have w := w_cases h4 h8 he
  by_cases big : 2 ^ (e + M) = 4096 ∨ 2 ^ (e + M) = 8192
  · have h1 : basN M e b a = basN M e b a0 := win_all big
    have h2 : wzN M e = 4096 := by unfold wzN; omega
    rw [h2]
    exact ⟨fun _ => Nat.mod_lt _ (by omega), fun _ => h1⟩
  · have h2 : wzN M e = 2 ^ (e + M) := by unfold wzN; omega
    have hQ : 2 ^ (e + M) = 4 * 2 ^ (e + M - 2) := by
      rw [show (4 : Nat) = 2 ^ 2 from rfl, ← Nat.pow_add]; congr 1; omega
    have hE : edgN M b * 2 ^ e < 2 ^ (e + M) := by
      rw [p2_add, Nat.mul_comm (2 ^ e)]
      exact Nat.mul_lt_mul_of_pos_right (edgN_lt M b) (Nat.two_pow_pos e)
    have hB : b * 2 ^ e < 2 ^ (e + M) := by
      rw [p2_add, Nat.mul_comm (2 ^ e)]
      exact Nat.mul_lt_mul_of_pos_right hb (Nat.two_pow_pos e)
    have hq : 2 ^ (e + M - 2) = 2 ^ (M - 2) * 2 ^ e := by rw [← Nat.pow_add]; congr 1; omega
    have hm : 2 ^ (e + M) = 2 ^ M * 2 ^ e := by rw [← Nat.pow_add]; congr 1; omega
    have hc : hiN M b = 0 ∧ edgN M b * 2 ^ e + 2 ^ (e + M - 2) = b * 2 ^ e ∨ hiN M b = 1 ∧ edgN M b * 2 ^ e + 2 ^ (e + M - 2) = b * 2 ^ e + 2 ^ (e + M) := by
      rcases edg_cases h4 h8 hb with ⟨q1, q2⟩ | ⟨q1, q2⟩
      · refine Or.inl ⟨q1, ?_⟩
        rw [hq, ← Nat.add_mul, q2]
      · refine Or.inr ⟨q1, ?_⟩
        rw [hq, hm, ← Nat.add_mul, ← Nat.add_mul, q2]
    have lw : ∀ a, lowN M e b a = 0 ∧ edgN M b * 2 ^ e ≤ a % 2 ^ (e + M) ∨ lowN M e b a = 1 ∧ a % 2 ^ (e + M) < edgN M b * 2 ^ e := by
      intro a
      unfold lowN
      by_cases c : edgN M b ≤ a / 2 ^ e % 2 ^ M
      · rw [if_pos c]; exact Or.inl ⟨rfl, low_iff.mp c⟩
      · rw [if_neg c]; exact Or.inr ⟨rfl, Nat.lt_of_not_le (fun q => c (low_iff.mpr q))⟩
    rw [h2]
    exact win_arith (by omega) hQ hE hB hc ha ha0 (lw a) (lw a0)
theorem wsN_lt (M e b a0 : Nat) : wsN M e b a0 < 4096 := Nat.mod_lt _ (by omega)
theorem wzN_le (M e : Nat) : wzN M e ≤ 4096 := Nat.min_le_left _ _
theorem wzN_or {M e : Nat} (h4 : 4 ≤ M) (h8 : M ≤ 8) (he : e ≤ 13 - M) : wzN M e = 4096 ∨ wzN M e ≤ 2048 := by
  have w := w_cases h4 h8 he
  unfold wzN
  omega
/-! counting over all addresses -/
def ctN (p : Nat → Bool) (n : Nat) : Nat := fb_sm (fun k => if p k then 1 else 0) n
theorem ctN_succ (p : Nat → Bool) (n : Nat) : ctN p (n + 1) = ctN p n + (if p n then 1 else 0) := rfl
theorem ctN_le (p : Nat → Bool) : ∀ n, ctN p n ≤ n
  | 0 => Nat.le_refl 0
  | n + 1 => by have := ctN_le p n; rw [ctN_succ]; split <;> omega
theorem ctN_cong {p q : Nat → Bool} {n : Nat} (h : ∀ k, k < n → p k = q k) : ctN p n = ctN q n := fb_sm_cong (fun k hk => by rw [h k hk])
theorem ctN_split (p : Nat → Bool) (m n : Nat) : ctN p (m + n) = ctN p m + ctN (fun k => p (m + k)) n := fb_sm_split _ m n
theorem ctN_rot (q : Nat → Bool) {st : Nat} (hs : st ≤ 4096) : ctN (fun a => q (offN st a)) 4096 = ctN q 4096 := by
  have h1 := ctN_split (fun a => q (offN st a)) st (4096 - st)
  have h2 := ctN_split q (4096 - st) st
  rw [show st + (4096 - st) = 4096 by omega] at h1
  rw [show 4096 - st + st = 4096 by omega] at h2
  rw [h1, h2, Nat.add_comm]
  congr 1
  · refine ctN_cong (fun k hk => ?_)
    show q (offN st (st + k)) = q k
    rw [show offN st (st + k) = k by unfold offN; omega]
  · refine ctN_cong (fun k hk => ?_)
    show q (offN st k) = q (4096 - st + k)
    rw [show offN st k = 4096 - st + k by unfold offN; omega]
theorem ctN_true (n : Nat) : ctN (fun _ => true) n = n := by
  induction n with
  | zero => rfl
  | succ n ih => rw [ctN_succ, ih]; rfl
theorem ctN_false {p : Nat → Bool} {n : Nat} (h : ∀ k, k < n → p k = false) : ctN p n = 0 := by
  induction n with
  | zero => rfl
  | succ n ih => rw [ctN_succ, ih (fun k hk => h k (by omega)), h n (by omega)]; rfl
theorem ctN_lt {z : Nat} (hz : z ≤ 4096) : ctN (fun o => decide (o < z)) 4096 = z := by
  have h1 := ctN_split (fun o => decide (o < z)) z (4096 - z)
  rw [show z + (4096 - z) = 4096 by omega] at h1
  rw [h1, ctN_false (p := fun k => decide (z + k < z)) (fun k _ => by simp), ctN_cong (q := fun _ => true) (fun k hk => by simp [hk]), ctN_true]
  rfl
/-- the window has as many addresses as it is wide -/
theorem win_count {M e b a0 : Nat} (h4 : 4 ≤ M) (h8 : M ≤ 8) (he : e ≤ 13 - M) (hb : b < 2 ^ M) (ha0 : a0 < 4096) : ctN (fun a => decide (basN M e b a = basN M e b a0)) 4096 = wzN M e := by
  rw [← ctN_lt (wzN_le M e), ← ctN_rot (fun o => decide (o < wzN M e)) (Nat.le_of_lt (wsN_lt M e b a0))]
  refine ctN_cong (fun a ha => ?_)
  have := bas_win h4 h8 he hb ha ha0
  by_cases c : basN M e b a = basN M e b a0
  · simp [c, this.mp c]
  · have c2 : ¬ offN (wsN M e b a0) a < wzN M e := fun q => c (this.mpr q)
    simp [c, c2]
theorem itr_cnt (p : Nat → Bool) : ∀ (n i c : Nat), itr (fun j (acc : Int32) => if p j then acc + 1 else acc) n i (nI c) = nI (c + ctN (fun k => p (i + k)) n) := by
  intro n
  induction n with
  | zero => intro i c; rfl
  | succ n ih =>
    intro i c
    have h1 := ctN_split (fun k => p (i + k)) 1 n
    rw [Nat.add_comm 1 n] at h1
    rw [h1]
    have h2 : (fun k => p (i + (1 + k))) = fun k => p (i + 1 + k) := by funext k; rw [Nat.add_assoc]
    rw [h2]
    simp only [itr]
    by_cases c1 : p i
    · rw [if_pos c1, nI_1, ih]
      congr 1
      have : ctN (fun k => p (i + k)) 1 = 1 := by simp [ctN, fb_sm, c1]
      omega
    · rw [if_neg c1, ih]
      congr 1
      have : ctN (fun k => p (i + k)) 1 = 0 := by simp [ctN, fb_sm, c1]
      omega
