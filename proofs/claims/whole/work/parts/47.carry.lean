/-! bounds are laid into a pointer -/
theorem msk_nI {M : Nat} (h8 : M ≤ 13) : mskI (nI M) = nI (2 ^ M - 1) := by
  have := p2_le h8
  have h2 : 0 < 2 ^ M := Nat.two_pow_pos M
  unfold mskI
  rw [one_shl h8]
  exact pk_sub (b := 1) (by omega)
theorem and_msk {M : Nat} (h8 : M ≤ 13) (n : Nat) : nI n &&& mskI (nI M) = nI (n % 2 ^ M) := by rw [msk_nI h8, fa_mask]
/-- B and T of an encoding -/
def botN (b e M : Nat) : Nat := dnN b e / 2 ^ e % 2 ^ M
def topN (t e M : Nat) : Nat := upN t e / 2 ^ e % 2 ^ M
def carX (h : aH) (p M b t : Nat) : aH := sI (sI (sI h p 3 (nI (lexN b t M))) p 4 (nI (botN b (lexN b t M) M))) p 5 (nI (topN t (lexN b t M) M))
section Ca
variable {h : aH} {m p : Nat}
theorem c_carry (hp : hK h p = some (.inl 6)) {b l M : Nat} (ht : b + l ≤ 4096) (h4 : 4 ≤ M) (h8 : M ≤ 8) : f_X6_carry p (nI b) (nI l) (nI M) h = some ((), carX h p M b (b + l)) := by
  have hl := lexN_le b (b + l) M
  generalize he : lexN b (b + l) M = e at hl
  have q1 := dnN_le b e
  have q2 := upN_le (b + l) e
  have q3 := p2_le (show e ≤ 13 by omega)
  have L := c_least (h := h) (b := b) (t := b + l) (M := M) (by omega) ht h4 h8
  rw [he] at L
  have k1 : hK (sI h p 3 (nI e)) p = some (.inl 6) := hp
  have k2 : ∀ v, hK (sI (sI h p 3 (nI e)) p 4 v) p = some (.inl 6) := fun _ => hp
  have e1 : hI (sI h p 3 (nI e)) p 3 = nI e := by simp [hI_sI]
  have e2 : ∀ v, hI (sI (sI h p 3 (nI e)) p 4 v) p 3 = nI e := by intro v; simp [hI_sI]
  have em : (1 <<< (nI M &&& 31) : Int32) - 1 = mskI (nI M) := rfl
  simp only [f_X6_carry, nm, nI_add, L, bd_s, ko_t hp, e1, p_down, p_up, dn_nI (show b < 2 ^ 31 by omega) (show e < 32 by omega), ko_t k1, shr_nI (show dnN b e < 2 ^ 31 by omega) (show e < 32 by omega), em, and_msk (show M ≤ 13 by omega), e2, up_nI (show b + l ≤ 8192 by omega) (show e ≤ 13 by omega), ko_t (k2 _), shr_nI (show upN (b + l) e < 2 ^ 31 by omega) (show e < 32 by omega), carX, he, botN, topN]
theorem c_stays {b l M : Nat} (ht : b + l ≤ 4096) (h4 : 4 ≤ M) (h8 : M ≤ 8) : f_X6_staysAsAsked (nI b) (nI l) (nI M) h = some (b2i (decide (dnN b (lexN b (b + l) M) = b) && decide (upN (b + l) (lexN b (b + l) M) = b + l)), h) := by
  have hl := lexN_le b (b + l) M
  generalize he : lexN b (b + l) M = e at hl
  have q1 := dnN_le b e
  have q2 := upN_le (b + l) e
  have q3 := p2_le (show e ≤ 13 by omega)
  have L := c_least (h := h) (b := b) (t := b + l) (M := M) (by omega) ht h4 h8
  rw [he] at L
  simp only [f_X6_staysAsAsked, f_X6_staysAsAsked_35, f_X6_staysAsAsked_36, nI_add, L, bd_s, p_down, p_up, dn_nI (show b < 2 ^ 31 by omega) (show e < 32 by omega), up_nI (show b + l ≤ 8192 by omega) (show e ≤ 13 by omega), z0_ok, z1_ok, nI_eq (show dnN b e < 2 ^ 31 by omega) (show b < 2 ^ 31 by omega), nI_eq (show upN (b + l) e < 2 ^ 31 by omega) (show b + l < 2 ^ 31 by omega)]
  by_cases c1 : dnN b e = b <;> by_cases c2 : upN (b + l) e = b + l <;> simp [c1, c2, b2i]
theorem m_encodes (S : MS h m) {b l M : Nat} (hM : hI h (m + 28) 4 = nI M) (ht : b + l ≤ 4096) (h4 : 4 ≤ M) (h8 : M ≤ 8) : f_X12_encodes m (nI b) (nI l) h = some ((), encM h m b (b + l) (lexN b (b + l) M)) := by
  simp only [f_X12_encodes, ko_t S.k, m_mantissa S, bd_s, hM, m_encodesBy S ht h4 h8]
theorem m_isExact (S : MS h m) {b l e : Nat} (e1 : hI h m 53 = nI (dnN b e)) (e2 : hI h m 54 = nI (upN (b + l) e)) (ht : b + l ≤ 4096) (he : e ≤ 13) : f_X12_isExact m (nI b) (nI l) h = some (b2i (decide (dnN b e = b) && decide (upN (b + l) e = b + l)), h) := by
  have q1 := dnN_le b e
  have q2 := upN_le (b + l) e
  have q3 := p2_le he
  simp only [f_X12_isExact, f_X12_isExact_22, f_X12_isExact_23, ko_t S.k, e1, e2, nI_add, z0_ok, z1_ok, nI_eq (show dnN b e < 2 ^ 31 by omega) (show b < 2 ^ 31 by omega), nI_eq (show upN (b + l) e < 2 ^ 31 by omega) (show b + l < 2 ^ 31 by omega)]
  by_cases c1 : dnN b e = b <;> by_cases c2 : upN (b + l) e = b + l <;> simp [c1, c2, b2i]
/-- the three ints of a pointer that its bounds are, in the reference's row -/
def layM (h : aH) (m k e b t M : Nat) : aH := sI (sI (sI h (m + 34) (k + 2) (nI e)) (m + 34) (k + 3) (nI (botN b e M))) (m + 34) (k + 4) (nI (topN t e M))
theorem m_laysBounds (S : MS h m) {k e b t M : Nat} (hk : k + 8 ≤ 1498) (hM : hI h (m + 28) 4 = nI M) (h8 : M ≤ 8) (e0 : hI h m 52 = nI e) (e1 : hI h m 53 = nI (dnN b e)) (e2 : hI h m 54 = nI (upN t e)) (hb : b ≤ 4096) (ht : t ≤ 4096) (he : e ≤ 13) : f_X12_laysBounds m (nI k) h = some ((), layM h m k e b t M) := by
  have q1 := dnN_le b e
  have q2 := upN_le t e
  have q3 := p2_le he
  have S1 : ∀ v, MS (sI h (m + 34) (k + 2) v) m := fun v => S.of rfl rfl
  have S2 : ∀ v w, MS (sI (sI h (m + 34) (k + 2) v) (m + 34) (k + 3) w) m := fun v w => S.of rfl rfl
  have a1 : ∀ v, hI (sI h (m + 34) (k + 2) v) m 53 = nI (dnN b e) := fun v => by rw [hI_sI, if_neg (by omega)]; exact e1
  have a2 : ∀ v, hI (sI h (m + 34) (k + 2) v) m 52 = nI e := fun v => by rw [hI_sI, if_neg (by omega)]; exact e0
  have a3 : ∀ v, hI (sI h (m + 34) (k + 2) v) (m + 28) 4 = nI M := fun v => by rw [hI_sI, if_neg (by omega)]; exact hM
  have b1 : ∀ v w, hI (sI (sI h (m + 34) (k + 2) v) (m + 34) (k + 3) w) m 54 = nI (upN t e) := fun v w => by rw [hI_sI, if_neg (by omega), hI_sI, if_neg (by omega)]; exact e2
  have b2 : ∀ v w, hI (sI (sI h (m + 34) (k + 2) v) (m + 34) (k + 3) w) m 52 = nI e := fun v w => by rw [hI_sI, if_neg (by omega), hI_sI, if_neg (by omega)]; exact e0
  have b3 : ∀ v w, hI (sI (sI h (m + 34) (k + 2) v) (m + 34) (k + 3) w) (m + 28) 4 = nI M := fun v w => by rw [hI_sI, if_neg (by omega), hI_sI, if_neg (by omega)]; exact hM
  simp only [f_X12_laysBounds, ko_t S.k, kr_t S.r47, ka_t S.k47, (nI_c k).2.1, (nI_c k).2.2.1, (nI_c k).2.2.2.1, chk_t (inb_nI (show k + 2 < 1498 by omega) (by omega)), tn_nI (show k + 2 < 2 ^ 31 by omega), chk_t (inb_nI (show k + 3 < 1498 by omega) (by omega)), tn_nI (show k + 3 < 2 ^ 31 by omega), chk_t (inb_nI (show k + 4 < 1498 by omega) (by omega)), tn_nI (show k + 4 < 2 ^ 31 by omega), nm, e0, a1, a2, m_modulo (S1 _), a3, bd_s, ka_t (S1 _).k47, ko_t (S1 _).k, kr_t (S1 _).r47, b1, b2, m_modulo (S2 _ _), b3, ka_t (S2 _ _).k47, shr_nI (show dnN b e < 2 ^ 31 by omega) (show e < 32 by omega), shr_nI (show upN t e < 2 ^ 31 by omega) (show e < 32 by omega), and_msk (show M ≤ 13 by omega), layM, botN, topN]
end Ca
