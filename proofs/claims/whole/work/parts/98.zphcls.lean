/-! THE TEXTS: the class's formulas are the descent -/
def RP (tp : Nat → Nat) (n w x a u : Nat) (h : aH) (c : List Nat) (p : Option (Int32 × aH)) (r : tyR) : Prop := match r with
  | none => True
  | some (.inl e) => ∃ h1, p = some (nI 0, h1) ∧ hI h1 (x + 104) 0 = nI e.1 ∧ hI h1 (x + 104) 1 = nI e.2 ∧ PX x a u h h1
  | some (.inr q) => ∃ h1, p = some (nI 1, h1) ∧ ST h1 x a tp n w u (c ++ q.1) q.2 ∧ PX x a u h h1
section Rp
variable {h : aH} {x a n w u : Nat} {tp : Nat → Nat} {c c' : List Nat} {σ : tyT} {p : Option (Int32 × aH)} {r : tyR} {d : Nat} {t : Bool}
theorem rp_pre {h0 : aH} (q : PX x a u h0 h) (k : RP tp n w x a u h c p r) : RP tp n w x a u h0 c p r := by
  match r, k with
  | none, _ => trivial
  | some (.inl e), ⟨h1, a1, a2, a3, a4⟩ => exact ⟨h1, a1, a2, a3, q.trans a4⟩
  | some (.inr e), ⟨h1, a1, a2, a4⟩ => exact ⟨h1, a1, a2, q.trans a4⟩
theorem rp_bd {Z K : aH → Option (Int32 × aH)} {f : List Nat → tyT → tyR} (hZ : ∀ g, Z g = some (nI 0, g)) (g : gdR tp n w σ d t r) (k : RP tp n w x a u h c' p r) (kk : ∀ h1 c1 σ1, ST h1 x a tp n w u (c' ++ c1) σ1 → okS tp n σ1 → σ.1 < σ1.1 → c1.length + σ.1 ≤ σ1.1 → RP tp n w x a u h1 c (K h1) (f c1 σ1)) : RP tp n w x a u h c (bd p fun v g => if v = 0 then Z g else K g) (bR r f) := by
  match r, k, g with
  | none, _, g => exact g.elim
  | some (.inl e), ⟨h1, a1, a2, a3, a4⟩, _ =>
    refine ⟨h1, ?_, a2, a3, a4⟩
    rw [bd_t a1, if_pos (show nI 0 = (0 : Int32) from rfl)]; exact hZ h1
  | some (.inr e), ⟨h1, a1, a2, a4⟩, g =>
    refine rp_pre a4 ?_
    rw [bd_t a1, if_neg (show ¬ nI 1 = (0 : Int32) by decide)]
    exact kk h1 e.1 e.2 a2 g.1 g.2.1 g.2.2.1
theorem rp_ok {c1 : List Nat} (T : ST h x a tp n w u (c ++ c1) σ) : RP tp n w x a u h c (some (nI 1, h)) (ok c1 σ) := ⟨h, rfl, T, PX.refl⟩
theorem rp_fl {k q : Nat} : RP tp n w x a u h c (some (nI 0, sI (sI h (x + 104) 0 (nI k)) (x + 104) 1 (nI q))) (fl k q) := by
  refine ⟨_, rfl, ?_, ?_, (FX.sI (by unfold PZ; omega)).trans (FX.sI (by unfold PZ; omega)), rfl, rfl⟩
  · rw [hI_sI, if_neg (by omega), hI_sI, if_pos ⟨rfl, rfl⟩]
  · rw [hI_sI, if_pos ⟨rfl, rfl⟩]
theorem ST.S (T : ST h x a tp n w u c σ) : XS h x := T.1.1.1
theorem ST.A (T : ST h x a tp n w u c σ) : MA h a := T.1.1.1.ma T.2.2.2.1
theorem ST.v3 (T : ST h x a tp n w u c σ) : hI h (x + 105) 3 = nI σ.1 := T.1.2.2.1
/-- the fault at the token -/
theorem rp_flT {k : Nat} (T : ST h x a tp n w u c' σ) : RP tp n w x a u h c (bd (f_X5_fail (x + 104) (nI k) (hI h (x + 105) 3) h) fun v g => chk (narrow .boolean (.int v) = .int v) <| some (v, g)) (fl k σ.1) := by
  rw [T.v3, bd_t (c_failX T.S)]
  exact rp_fl
theorem c_sign (T : ST h x a tp n w u (c ++ c') σ) (tb : ∀ j, tp j ≤ 255) (hn : n ≤ 1600) {q : Nat} (hL : isL q = false) (hD : isD q = false) (hq : q ≤ 255) : RP tp n w x a u h c (f_X5_sign (x + 104) (nI q) h) (if isS tp n σ q = true then ok c' (nS tp n σ) else fl 1 σ.1) := by
  have S := T.S
  unfold f_X5_sign
  rw [ko_t S.k104, kr_t S.r104_2, ko_t S.k105, bd_t (c_isS T.1 tb hL hD hq)]
  by_cases z : isS tp n σ q = true
  · rw [if_pos z, z, if_neg (show ¬ b2i true = (0 : Int32) by decide), ko_t S.k104, kr_t S.r104_2, ko_t S.k105]
    obtain ⟨h1, e1, T1, p1⟩ := c_nxS T tb hn hL hD z
    rw [bd_t e1]
    exact rp_pre p1 (rp_ok T1)
  · rw [if_neg z, show isS tp n σ q = false by cases y : isS tp n σ q with | false => rfl | true => exact absurd y z, if_pos (show b2i false = (0 : Int32) by decide), ko_t S.k104, kr_t S.r104_2, ko_t S.k105]
    exact rp_flT T
/-- a bracket or what counts as one -/
theorem c_open {o : Nat} (T : ST h x a tp n w u (c ++ c') σ) (ho : o ≤ 6) {σ' : tyT} (nx : ∃ h1, f_X7_next (x + 105) h = some ((), h1) ∧ ST h1 x a tp n w u (c ++ c') σ' ∧ PX x a u h h1) : RP tp n w x a u h c (f_X5_opening (x + 104) (nI o) h) (if o < 6 then ok c' σ' else fl 4 σ.1) := by
  have S := T.S
  unfold f_X5_opening
  by_cases z : o < 6
  · rw [if_pos z, if_pos (show nI o < (6 : Int32) from nI_lt (b := 6) z (by omega)), ko_t S.k104, kr_t S.r104_2, ko_t S.k105]
    obtain ⟨h1, e1, T1, p1⟩ := nx
    rw [bd_t e1]
    exact rp_pre p1 (rp_ok T1)
  · rw [if_neg z, if_neg (show ¬ nI o < (6 : Int32) from nI_nlt (b := 6) (by omega) (by omega)), ko_t S.k104, kr_t S.r104_2, ko_t S.k105]
    exact rp_flT T
end Rp
/-- what is known of the descent one level down -/
def IHP (tp : Nat → Nat) (n w x a u f : Nat) : Prop := ∀ (t o : Nat) (σ : tyT) (h : aH) (c : List Nat), t ≤ 7 → o ≤ 6 → (t = 6 → isW tp n σ 23 = true ∨ isW tp n σ 24 = true) → hgt t + 8 * (6 - o) < f → ST h x a tp n w u c σ → RP tp n w x a u h c (f_P f t (x + 104) (nI o) h) (pD tp n w f t o σ) ∧ gdR tp n w σ (dpt t o) (decide (t ≤ 2)) (pD tp n w f t o σ)
section Lp
variable {x a n w u f o : Nat} {tp : Nat → Nat} {c : List Nat}
theorem ap3 (a b c d : List Nat) : a ++ b ++ c ++ d = a ++ (b ++ c ++ d) := by simp
theorem b2i_nf {b : Bool} (z : ¬ b = true) : b2i b = (0 : Int32) := by cases b with | false => rfl | true => exact absurd rfl z
theorem b2i_nt {b : Bool} (z : b = true) : ¬ b2i b = (0 : Int32) := by rw [z]; decide
theorem l_test (I : IHP tp n w x a u f) (tb : ∀ j, tp j ≤ 255) (hn : n ≤ 1600) (ho : o ≤ 6) (hf : hgt 1 + 8 * (6 - o) < f) : ∀ (m i k : Nat) (c1 : List Nat) (σ : tyT) (h : aH), i + m = 1600 → m < k → ST h x a tp n w u (c ++ c1) σ → RP tp n w x a u h c (f_X5_test_12 (f_P f) k (x + 104) (nI o) (nI i) h) (pTL tp n (pD tp n w f) o m c1 σ) := by
  intro m
  induction m with
  | zero =>
    intro i k c1 σ h hi hk T
    obtain ⟨k, rfl⟩ : ∃ j, k = j + 1 := ⟨k - 1, by omega⟩
    have hi : i = 1600 := by omega
    subst hi
    have e : f_X5_test_12 (f_P f) (k + 1) (x + 104) (nI o) (nI 1600) h = some (nI 1, h) := by simp (disch := omega) only [nm, bd_s, ko_K, ka_K, koK_t, kaK_t, kr_s, kn_s, kn_n, hK_sI, hR_sI, hK_sL, hR_sL, hI_sL, hL_sI, hL_sL, hI_sI, hN_sI, hN_sL, ch_G, ch_T, nb_0, nb_1, zb_G, d_T, d_F, d_eT, d_eF, b2i_t, b2i_f, tn_nI, fa_lit, fa_litL, m1_e, nI_add, pk_mul, pk_sub, nI_leI, nI_ltI, nI_eq, le_T, le_F, lt_T, lt_F, eq_T, eq_F, if_pos, if_neg, m1_le, m1_lt', m1_gt, m1_le', m1_eq, m1_qe, b2i_eq0, in_N, in_n, in_I, ↓reduceIte, Bool.true_eq_false, Bool.false_eq_true, reduceCtorEq, decide_eq_true_eq, decide_eq_false_iff_not, Nat.not_lt, Nat.not_le, not_true_eq_false, not_false_eq_true, true_and, and_true, and_self, false_and, and_false, true_or, or_true, false_or, or_false, f_X5_test_12, b_X5_test_12, f_X5_test_63]
    rw [e]
    exact rp_ok T
  | succ m ih =>
    intro i k c1 σ h hi hk T
    obtain ⟨k, rfl⟩ : ∃ j, k = j + 1 := ⟨k - 1, by omega⟩
    have S := T.S
    show RP tp n w x a u h c (b_X5_test_12 (f_P f) (f_X5_test_12 (f_P f) k) (x + 104) (nI o) (nI i) h) _
    unfold b_X5_test_12
    rw [if_neg (show ¬ (1600 : Int32) ≤ nI i from nI_ge (b := 1600) (by omega) (by omega)), ko_t S.k104, kr_t S.r104_2, ko_t S.k105, bd_t (show f_X7_isWord (x + 105) 19 h = _ from c_isW T.1 (i := 19) (by omega))]
    unfold pTL
    by_cases z : isW tp n σ 19 = true
    · rw [if_pos z, if_neg (b2i_nt z), ko_t S.k104, kr_t S.r104_2, ko_t S.k105]
      obtain ⟨h1, e1, T1, p1⟩ := c_nxW T tb hn z
      have ws := (nW_ok z).2
      rw [bd_t e1, ko_t T1.S.k104]
      refine rp_pre p1 ?_
      obtain ⟨R, G⟩ := I 1 o (nW tp n σ) h1 (c ++ c1) (by omega) ho (by omega) hf T1
      refine rp_bd (fun _ => rfl) G R (fun h2 c2 σ2 T2 o2 l2 s2 => ?_)
      have le := T.2.2.2.2.2.2
      obtain ⟨h3, e3, T3, p3⟩ := c_addO T2 (q := 11) (v := 19) (by simp at le ⊢; omega) hn (by decide)
      rw [ko_t T2.S.k104, kr_t T2.2.2.1, ko_t T2.A.k, bd_t e3]
      rw [ap3] at T3
      have := ih (i + 1) k (c1 ++ c2 ++ [11]) σ2 h3 (by omega) (by omega) T3
      rw [show nm (nI i + 1) (fun v => f_X5_test_12 (f_P f) k (x + 104) (nI o) v h3) = f_X5_test_12 (f_P f) k (x + 104) (nI o) (nI (i + 1)) h3 by unfold nm; rw [show nI i + 1 = nI (i + 1) from nI_add i 1]]
      exact rp_pre p3 this
    · rw [if_neg z, if_pos (b2i_nf z)]
      exact rp_ok T
theorem l_both (I : IHP tp n w x a u f) (tb : ∀ j, tp j ≤ 255) (hn : n ≤ 1600) (ho : o ≤ 6) (hf : hgt 2 + 8 * (6 - o) < f) : ∀ (m i k : Nat) (c1 : List Nat) (σ : tyT) (h : aH), i + m = 1600 → m < k → ST h x a tp n w u (c ++ c1) σ → RP tp n w x a u h c (f_X5_both_12 (f_P f) k (x + 104) (nI o) (nI i) h) (pBL tp n (pD tp n w f) o m c1 σ) := by
  intro m
  induction m with
  | zero =>
    intro i k c1 σ h hi hk T
    obtain ⟨k, rfl⟩ : ∃ j, k = j + 1 := ⟨k - 1, by omega⟩
    have hi : i = 1600 := by omega
    subst hi
    have e : f_X5_both_12 (f_P f) (k + 1) (x + 104) (nI o) (nI 1600) h = some (nI 1, h) := by simp (disch := omega) only [nm, bd_s, ko_K, ka_K, koK_t, kaK_t, kr_s, kn_s, kn_n, hK_sI, hR_sI, hK_sL, hR_sL, hI_sL, hL_sI, hL_sL, hI_sI, hN_sI, hN_sL, ch_G, ch_T, nb_0, nb_1, zb_G, d_T, d_F, d_eT, d_eF, b2i_t, b2i_f, tn_nI, fa_lit, fa_litL, m1_e, nI_add, pk_mul, pk_sub, nI_leI, nI_ltI, nI_eq, le_T, le_F, lt_T, lt_F, eq_T, eq_F, if_pos, if_neg, m1_le, m1_lt', m1_gt, m1_le', m1_eq, m1_qe, b2i_eq0, in_N, in_n, in_I, ↓reduceIte, Bool.true_eq_false, Bool.false_eq_true, reduceCtorEq, decide_eq_true_eq, decide_eq_false_iff_not, Nat.not_lt, Nat.not_le, not_true_eq_false, not_false_eq_true, true_and, and_true, and_self, false_and, and_false, true_or, or_true, false_or, or_false, f_X5_both_12, b_X5_both_12, f_X5_both_63]
    rw [e]
    exact rp_ok T
  | succ m ih =>
    intro i k c1 σ h hi hk T
    obtain ⟨k, rfl⟩ : ∃ j, k = j + 1 := ⟨k - 1, by omega⟩
    have S := T.S
    show RP tp n w x a u h c (b_X5_both_12 (f_P f) (f_X5_both_12 (f_P f) k) (x + 104) (nI o) (nI i) h) _
    unfold b_X5_both_12
    rw [if_neg (show ¬ (1600 : Int32) ≤ nI i from nI_ge (b := 1600) (by omega) (by omega)), ko_t S.k104, kr_t S.r104_2, ko_t S.k105, bd_t (show f_X7_isWord (x + 105) 20 h = _ from c_isW T.1 (i := 20) (by omega))]
    unfold pBL
    by_cases z : isW tp n σ 20 = true
    · rw [if_pos z, if_neg (b2i_nt z), ko_t S.k104, kr_t S.r104_2, ko_t S.k105]
      obtain ⟨h1, e1, T1, p1⟩ := c_nxW T tb hn z
      have ws := (nW_ok z).2
      rw [bd_t e1, ko_t T1.S.k104]
      refine rp_pre p1 ?_
      obtain ⟨R, G⟩ := I 2 o (nW tp n σ) h1 (c ++ c1) (by omega) ho (by omega) hf T1
      refine rp_bd (fun _ => rfl) G R (fun h2 c2 σ2 T2 o2 l2 s2 => ?_)
      have le := T.2.2.2.2.2.2
      obtain ⟨h3, e3, T3, p3⟩ := c_addO T2 (q := 10) (v := 20) (by simp at le ⊢; omega) hn (by decide)
      rw [ko_t T2.S.k104, kr_t T2.2.2.1, ko_t T2.A.k, bd_t e3]
      rw [ap3] at T3
      have := ih (i + 1) k (c1 ++ c2 ++ [10]) σ2 h3 (by omega) (by omega) T3
      rw [show nm (nI i + 1) (fun v => f_X5_both_12 (f_P f) k (x + 104) (nI o) v h3) = f_X5_both_12 (f_P f) k (x + 104) (nI o) (nI (i + 1)) h3 by unfold nm; rw [show nI i + 1 = nI (i + 1) from nI_add i 1]]
      exact rp_pre p3 this
    · rw [if_neg z, if_pos (b2i_nf z)]
      exact rp_ok T
end Lp
