/-! encoding: the least exponent, on both sides -/
def okE (b t M e : Nat) : Bool := decide ((t + 2 ^ e - 1) / 2 ^ e - b / 2 ^ e ≤ 2 ^ (M - 1))
def lexN (b t M : Nat) : Nat := match fnd (okE b t M) (13 - M) 0 with | none => 13 - M | some e => e
def dnN (a e : Nat) : Nat := a / 2 ^ e * 2 ^ e
def upN (t e : Nat) : Nat := (t + 2 ^ e - 1) / 2 ^ e * 2 ^ e
theorem sh_amt {e : Nat} (he : e < 32) : ((nI e &&& 31).toBitVec.smod 32).toNat = e := by
  have : ∀ e, e < 32 → ((nI e &&& 31).toBitVec.smod 32).toNat = e := by decide +kernel
  exact this e he
theorem shr_nI {n e : Nat} (hn : n < 2 ^ 31) (he : e < 32) : nI n >>> (nI e &&& 31) = nI (n / 2 ^ e) := pk_shrN hn _ e (sh_amt he)
theorem shl_nI {n e : Nat} (he : e < 32) (hn : n * 2 ^ e < 2 ^ 32) : nI n <<< (nI e &&& 31) = nI (n * 2 ^ e) := pk_shlN _ e (sh_amt he) hn
theorem p2_le {e k : Nat} (h : e ≤ k) : 2 ^ e ≤ 2 ^ k := Nat.pow_le_pow_right (by omega) h
theorem one_shl {e : Nat} (he : e ≤ 13) : (1 : Int32) <<< (nI e &&& 31) = nI (2 ^ e) := by
  have h1 := p2_le he
  have := shl_nI (n := 1) (e := e) (by omega) (by omega)
  rw [Nat.one_mul] at this
  exact this
theorem dn_nI {n e : Nat} (hn : n < 2 ^ 31) (he : e < 32) : dnI (nI n) (nI e) = nI (dnN n e) := by
  have h1 : n / 2 ^ e * 2 ^ e ≤ n := Nat.div_mul_le_self n (2 ^ e)
  unfold dnI dnN
  rw [shr_nI hn he, shl_nI he (by omega)]
theorem up_nI {t e : Nat} (ht : t ≤ 8192) (he : e ≤ 13) : upI (nI t) (nI e) = nI (upN t e) := by
  have h1 := p2_le he
  have h2 : 0 < 2 ^ e := Nat.two_pow_pos e
  unfold upI
  rw [one_shl he, nI_add, show nI (t + 2 ^ e) - 1 = nI (t + 2 ^ e - 1) from pk_sub (b := 1) (by omega), dn_nI (by omega) (by omega)]
  rfl
theorem dnN_le (a e : Nat) : dnN a e ≤ a := Nat.div_mul_le_self a (2 ^ e)
theorem le_upN (t e : Nat) : t ≤ upN t e := by
  have h2 : 0 < 2 ^ e := Nat.two_pow_pos e
  have h3 := Nat.div_add_mod (t + 2 ^ e - 1) (2 ^ e)
  have h4 := Nat.mod_lt (t + 2 ^ e - 1) h2
  unfold upN
  rw [Nat.mul_comm] at h3
  omega
theorem upN_le (t e : Nat) : upN t e ≤ t + 2 ^ e - 1 := Nat.div_mul_le_self _ _
theorem okE_t {b t M e : Nat} (c : (t + 2 ^ e - 1) / 2 ^ e - b / 2 ^ e ≤ 2 ^ (M - 1)) : okE b t M e = true := by simpa [okE] using c
theorem okE_f {b t M e : Nat} (c : ¬ (t + 2 ^ e - 1) / 2 ^ e - b / 2 ^ e ≤ 2 ^ (M - 1)) : ¬ okE b t M e = true := by simpa [okE] using c
theorem okE_top {b t M : Nat} (hb : b ≤ t) (ht : t ≤ 4096) (h4 : 4 ≤ M) (h8 : M ≤ 8) : okE b t M (13 - M) = true := by
  have h1 : (t + 2 ^ (13 - M) - 1) / 2 ^ (13 - M) ≤ 2 ^ (M - 1) := by
    rw [Nat.div_le_iff_le_mul_add_pred (Nat.two_pow_pos _), Nat.mul_comm, ← Nat.pow_add, show M - 1 + (13 - M) = 12 by omega]
    omega
  exact okE_t (Nat.le_trans (Nat.sub_le _ _) h1)
theorem fnd_lt {p : Nat → Bool} : ∀ (k i j : Nat), fnd p k i = some j → i ≤ j ∧ j < i + k ∧ p j = true := by
  intro k
  induction k with
  | zero => intro i j h; cases h
  | succ k ih =>
    intro i j h
    simp only [fnd] at h
    by_cases hp : p i
    · rw [if_pos hp] at h
      cases h
      exact ⟨by omega, by omega, hp⟩
    · rw [if_neg hp] at h
      obtain ⟨h1, h2, h3⟩ := ih (i + 1) j h
      exact ⟨by omega, by omega, h3⟩
theorem lexN_le (b t M : Nat) : lexN b t M ≤ 13 - M := by
  unfold lexN
  cases e : fnd (okE b t M) (13 - M) 0 with
  | none => exact Nat.le_refl _
  | some j => have := fnd_lt _ _ _ e; simp only; omega
theorem lexN_ok {b t M : Nat} (hb : b ≤ t) (ht : t ≤ 4096) (h4 : 4 ≤ M) (h8 : M ≤ 8) : (t + 2 ^ lexN b t M - 1) / 2 ^ lexN b t M - b / 2 ^ lexN b t M ≤ 2 ^ (M - 1) := by
  have key : okE b t M (lexN b t M) = true := by
    unfold lexN
    cases e : fnd (okE b t M) (13 - M) 0 with
    | none => exact okE_top hb ht h4 h8
    | some j => exact (fnd_lt _ _ _ e).2.2
  simpa [okE] using key
section En
variable {h : aH} {m : Nat}
theorem c_least {b t M : Nat} (hb : b ≤ t) (ht : t ≤ 4096) (h4 : 4 ≤ M) (h8 : M ≤ 8) : f_X6_leastExponent (nI b) (nI t) (nI M) h = some (nI (lexN b t M), h) := by
  have L := loop_fnd (fun n i => f_X6_leastExponent_8 n (nI b) (nI t) (nI M) (nI (13 - M)) (nI i) h) (13 - M) (okE b t M) (fun j => (nI j, h)) (nI (13 - M), h) (fun n i hi => ?_) (fun n => ?_) (13 - M) 0 FU (by omega) (FU_gt (by omega))
  · have e0 : f_X6_leastExponent (nI b) (nI t) (nI M) h = f_X6_leastExponent_8 FU (nI b) (nI t) (nI M) (nI (13 - M)) (nI 0) h := by
      simp only [f_X6_leastExponent, nm]
      rw [show (13 : Int32) - nI M = nI (13 - M) from pk_sub (a := 13) (by omega)]
      rfl
    rw [e0]
    refine Eq.trans L ?_
    unfold lexN
    cases fnd (okE b t M) (13 - M) 0 <;> rfl
  · have h1 : ¬ nI (13 - M) ≤ nI i := nI_ge hi (by omega)
    have q1 := dnN_le b i
    have q2 := le_upN t i
    have q3 := upN_le t i
    have q4 := p2_le (show i ≤ 13 by omega)
    have e1 : nI (upN t i) - nI (dnN b i) = nI (upN t i - dnN b i) := pk_sub (by omega)
    have e2 : (upN t i - dnN b i) / 2 ^ i = (t + 2 ^ i - 1) / 2 ^ i - b / 2 ^ i := by
      unfold upN dnN
      rw [← Nat.sub_mul, Nat.mul_div_cancel _ (Nat.two_pow_pos i)]
    have e3 : nI M - 1 = nI (M - 1) := pk_sub (b := 1) (by omega)
    have q5 := p2_le (show M - 1 ≤ 7 by omega)
    have q6 : (t + 2 ^ i - 1) / 2 ^ i ≤ t + 2 ^ i - 1 := Nat.div_le_self _ _
    simp only [f_X6_leastExponent_8, b_X6_leastExponent_8, if_neg h1, p_up, p_down, bd_s, nm, up_nI (show t ≤ 8192 by omega) (show i ≤ 13 by omega), dn_nI (show b < 2 ^ 31 by omega) (show i < 32 by omega), e1, shr_nI (show upN t i - dnN b i < 2 ^ 31 by omega) (show i < 32 by omega), e2, e3, one_shl (show M - 1 ≤ 13 by omega), nI_1]
    have q7 : (t + 2 ^ i - 1) / 2 ^ i - b / 2 ^ i ≤ 20000 := Nat.le_trans (Nat.sub_le _ _) (Nat.le_trans q6 (by omega))
    by_cases c : (t + 2 ^ i - 1) / 2 ^ i - b / 2 ^ i ≤ 2 ^ (M - 1)
    · rw [if_neg (nI_nlt c (Nat.lt_of_le_of_lt q5 (by omega))), if_pos (okE_t c)]
    · rw [if_pos (nI_lt (Nat.not_le.mp c) (Nat.lt_of_le_of_lt q7 (by omega))), if_neg (okE_f c)]
  · simp only [f_X6_leastExponent_8, b_X6_leastExponent_8, if_pos (Int32.le_refl (nI (13 - M)))]
/-- what the reference keeps of an encoding -/
def encM (h : aH) (m b t e : Nat) : aH := sI (sI (sI h m 52 (nI e)) m 53 (nI (dnN b e))) m 54 (nI (upN t e))
theorem sI_sI (h : aH) (a i : Nat) (v w : Int32) : sI (sI h a i v) a i w = sI h a i w := by
  apply aH_ext
  · intro b; rfl
  · intro b j
    simp only [hI_sI]
    by_cases c : b = a ∧ j = i
    · rw [if_pos c, if_pos c]
    · rw [if_neg c, if_neg c, if_neg c]
  · intro b j; rfl
  · intro b j; rfl
  · rfl
  · rfl
theorem m_encodesBy (S : MS h m) {b l M : Nat} (ht : b + l ≤ 4096) (h4 : 4 ≤ M) (h8 : M ≤ 8) : f_X12_encodesBy m (nI M) (nI b) (nI l) h = some ((), encM h m b (b + l) (lexN b (b + l) M)) := by
  have e3 : nI M - 1 = nI (M - 1) := pk_sub (b := 1) (by omega)
  have q5 := p2_le (show M - 1 ≤ 7 by omega)
  have step : ∀ n i, i ≤ 13 - M → f_X12_encodesBy_12 (n + 1) m (nI b) (nI l) (nI (2 ^ (M - 1))) (sI h m 52 (nI i)) = if okE b (b + l) M i then some ((), encM h m b (b + l) i) else f_X12_encodesBy_12 n m (nI b) (nI l) (nI (2 ^ (M - 1))) (sI h m 52 (nI (i + 1))) := by
    intro n i hi
    have q4 := p2_le (show i ≤ 13 by omega)
    have q0 : 0 < 2 ^ i := Nat.two_pow_pos i
    have k0 : hK (sI h m 52 (nI i)) m = some (.inl 11) := S.k
    have e1 : hI (sI h m 52 (nI i)) m 52 = nI i := by simp [hI_sI]
    have e2 : ∀ v, hI (sI (sI h m 52 (nI i)) m 53 v) m 52 = nI i := by intro v; simp [hI_sI]
    have e4 : (nI b + nI l + (1 <<< (nI i &&& 31)) - 1) = nI (b + l + 2 ^ i - 1) := by
      rw [one_shl (by omega), nI_add, nI_add]
      exact pk_sub (b := 1) (by omega)
    have q6 : (b + l + 2 ^ i - 1) / 2 ^ i ≤ b + l + 2 ^ i - 1 := Nat.div_le_self _ _
    have q7 : b / 2 ^ i ≤ (b + l + 2 ^ i - 1) / 2 ^ i := Nat.div_le_div_right (by omega)
    have q8 := upN_le (b + l) i
    have q9 := dnN_le b i
    have e5 : nI ((b + l + 2 ^ i - 1) / 2 ^ i) <<< (nI i &&& 31) = nI (upN (b + l) i) := shl_nI (by omega) (by unfold upN at q8; omega)
    have e6 : nI (b / 2 ^ i) <<< (nI i &&& 31) = nI (dnN b i) := shl_nI (by omega) (by unfold dnN at q9; omega)
    simp only [f_X12_encodesBy_12, b_X12_encodesBy_12, ko_t k0, e1, e2, e4, nm, shr_nI (show b + l + 2 ^ i - 1 < 2 ^ 31 by omega) (show i < 32 by omega), shr_nI (show b < 2 ^ 31 by omega) (show i < 32 by omega), pk_sub q7, e5, e6, nI_1, sI_sI]
    have qa : (b + l + 2 ^ i - 1) / 2 ^ i - b / 2 ^ i ≤ 20000 := Nat.le_trans (Nat.sub_le _ _) (Nat.le_trans q6 (by omega))
    by_cases c : (b + l + 2 ^ i - 1) / 2 ^ i - b / 2 ^ i ≤ 2 ^ (M - 1)
    · rw [if_pos (nI_le c (Nat.lt_of_le_of_lt q5 (by omega))), if_pos (okE_t c)]
      rfl
    · rw [if_neg (nI_ge (Nat.not_le.mp c) (Nat.lt_of_le_of_lt qa (by omega))), if_neg (okE_f c)]
  have L := loop_fnd (fun n i => f_X12_encodesBy_12 n m (nI b) (nI l) (nI (2 ^ (M - 1))) (sI h m 52 (nI i))) (13 - M) (okE b (b + l) M) (fun j => ((), encM h m b (b + l) j)) ((), encM h m b (b + l) (13 - M)) (fun n i hi => step n i (by omega)) (fun n => by rw [step n (13 - M) (by omega), if_pos (okE_top (by omega) ht h4 h8)]) (13 - M) 0 FU (by omega) (FU_gt (by omega))
  simp only [f_X12_encodesBy, nm, ko_t S.k, e3, one_shl (show M - 1 ≤ 13 by omega)]
  refine Eq.trans L ?_
  unfold lexN
  cases fnd (okE b (b + l) M) (13 - M) 0 <;> rfl
end En
