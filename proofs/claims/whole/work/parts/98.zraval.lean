/-! QUESTIONS: what a formula says of a pointer, on the class's side -/
def fgQ (M : Nat) (N : tyN) (k c : Nat) : Int := if c = 47 then (k : Int) else if c = 48 then (N (8 * k + 2) : Int) else if c = 49 then (N (8 * k + 6) : Int) else if c = 50 then (N (8 * k) : Int) else fgT M N k c
def o1Q (M : Nat) (N : tyN) (k c : Nat) (v : Int) : Int := if c = 60 then (if 0 ≤ v ∧ v < 16 then (basN M (N (8 * v.toNat + 2)) (N (8 * v.toNat + 3)) (N (8 * v.toNat + 1)) : Int) else 0) else if (-4095 ≤ v ∧ v ≤ 4095) ∧ basI (nI M) (nI (N (8 * k + 2))) (nI (N (8 * k + 3))) ((nI (N (8 * k + 1)) + vI v) &&& 4095) = basI (nI M) (nI (N (8 * k + 2))) (nI (N (8 * k + 3))) (nI (N (8 * k + 1))) then 1 else 0
theorem alC_3 {c : Nat} (h : alC 3 c = true) : 43 ≤ c ∧ c ≤ 61 := by
  unfold alC at h
  rw [if_neg (by omega), if_neg (by omega), if_neg (by omega)] at h
  exact of_decide_eq_true h
theorem vI_s {v : Int} (h1 : -1000000 ≤ v) (h2 : v ≤ 1000000) : (-4095 ≤ vI v ∧ vI v ≤ 4095) ↔ (-4095 ≤ v ∧ v ≤ 4095) := by
  rw [show (-4095 : Int32) = vI (-4095) by decide, show (4095 : Int32) = vI 4095 by decide, vI_le (by omega) (by omega) (by omega) (by omega), vI_le (by omega) (by omega) (by omega) (by omega)]
section Av
variable {h : aH} {x r tl : Nat} {tp : Nat → Nat} {rf : Nat → Int32} {ft fp : Int32} {sd : Nat} {M mem sh : Nat} {ns : Nat → List Nat} {kd : Nat → Nat} {cd : Nat → List Nat} {N : tyN} {sl : Nat → tyN} {nx c cr : Nat} {rn : Nat} {rw_ : Nat → Nat} {on_ : Nat} {ob : Nat → Nat}
theorem fgQ_ok (q : okN M mem sh N) (h4 : 4 ≤ M) (h8 : M ≤ 8) {k : Nat} (hk : k < 16) (c : Nat) : OV false (fgQ M N k c) := by
  have a := fgT_ok q h4 h8 hk c
  have b : ∀ j, N j ≤ 4096 := q.1
  have b1 := b (8 * k + 2)
  have b2 := b (8 * k + 6)
  have b3 := b (8 * k)
  unfold fgQ
  by_cases c1 : c = 47
  · rw [if_pos c1]; exact ⟨by omega, by omega, fun z => by cases z⟩
  rw [if_neg c1]
  by_cases c2 : c = 48
  · rw [if_pos c2]; exact ⟨by omega, by omega, fun z => by cases z⟩
  rw [if_neg c2]
  by_cases c3 : c = 49
  · rw [if_pos c3]; exact ⟨by omega, by omega, fun z => by cases z⟩
  rw [if_neg c3]
  by_cases c4 : c = 50
  · rw [if_pos c4]; exact ⟨by omega, by omega, fun z => by cases z⟩
  rw [if_neg c4]
  exact a
theorem o1Q_ok {k c : Nat} {v : Int} : OV false (o1Q M N k c v) := by
  have l := basN_lt M (N (8 * v.toNat + 2)) (N (8 * v.toNat + 3)) (N (8 * v.toNat + 1))
  unfold o1Q
  by_cases c1 : c = 60
  · rw [if_pos c1]
    by_cases c2 : 0 ≤ v ∧ v < 16
    · rw [if_pos c2]; exact ⟨by omega, by omega, fun z => by cases z⟩
    · rw [if_neg c2]; exact ⟨by omega, by omega, fun z => by cases z⟩
  · rw [if_neg c1]
    split
    · exact ⟨by omega, by omega, fun z => by cases z⟩
    · exact ⟨by omega, by omega, fun z => by cases z⟩
theorem k_from {k : Nat} (S : XS h x) (R : RS h (x + 3) N) (q : okN M mem sh N) (h4 : 4 ≤ M) (h8 : M ≤ 8) (m5 : hI h (x + 83) 5 = nI M) {v : Int} (v1 : OV false v) : f_X0_ofOne (x + 83) (nI 17) (vI v) h = some (vI (o1Q M N k 60 v), h) := by
  have b1 := v1.1
  have b2 := v1.2.1
  have l0 : (vI v < (0 : Int32)) = (v < 0) := by rw [show (0 : Int32) = vI 0 by decide]; exact vI_lt (by omega) (by omega) (by omega) (by omega)
  have l1 : ((16 : Int32) ≤ vI v) = (16 ≤ v) := by rw [show (16 : Int32) = vI 16 by decide]; exact vI_le (by omega) (by omega) (by omega) (by omega)
  unfold f_X0_ofOne o1Q
  rw [if_neg (show ¬ nI 17 = (21 : Int32) by decide), if_pos (show nI 17 = (17 : Int32) from rfl), if_pos (show 60 = 60 from rfl)]
  by_cases c1 : v < 0
  · rw [if_pos (by rw [l0]; exact c1), if_neg (show ¬ (0 ≤ v ∧ v < 16) by omega)]
    rfl
  rw [if_neg (by rw [l0]; exact c1)]
  by_cases c2 : 16 ≤ v
  · rw [if_pos (by rw [l1]; exact c2), if_neg (show ¬ (0 ≤ v ∧ v < 16) by omega)]
    rfl
  rw [if_neg (by rw [l1]; exact c2), if_pos (show 0 ≤ v ∧ v < 16 by omega)]
  obtain ⟨n, rfl⟩ : ∃ n : Nat, v = n := ⟨v.toNat, by omega⟩
  have hn : n < 16 := by omega
  rw [← vI_n n, Int.toNat_natCast]
  have W := S.now
  have k1 : hK h (x + 4) = some (.inr (.object RX6, 32)) := W.k1
  have rp : hR h (x + 4) n = some (x + 3 + 7 + n) := W.rp (by omega)
  have kp := W.kp (k := n) (by omega)
  obtain ⟨p0, p1, p2, p3, p4, p5, p6, p7⟩ := R.cl (show n < 32 by omega) (q.fl hn)
  have okp := q.2.1 n (by omega)
  have pb := p_base (h := h) kp (nI M)
  rw [p3, p4, p2, bas_nI h4 h8 okp.2.2.1 okp.2.2.2.1 (by have := okp.2.1; omega)] at pb
  rw [ko_t S.k83, kr_t S.r83_0, ka_t k1, chk_t (inb_nI (show n < 32 by omega) (by omega)), tn_nI (by omega), kr_t rp, ko_t kp, m5, bd_t pb, vI_n (basN _ _ _ _)]
  rfl
theorem k_fits {k : Nat} (S : XS h x) (R : RS h (x + 3) N) (q : okN M mem sh N) (m5 : hI h (x + 83) 5 = nI M) (hk : k < 16) (r4 : hR h (x + 83) 4 = some (x + 3 + 7 + k)) {v : Int} (v1 : OV false v) : f_X0_ofOne (x + 83) (nI 18) (vI v) h = some (vI (o1Q M N k 61 v), h) := by
  have b1 := v1.1
  have b2 := v1.2.1
  have ss := vI_s b1 b2
  have W := S.now
  have kp := W.kp (k := k) (by omega)
  obtain ⟨p0, p1, p2, p3, p4, p5, p6, p7⟩ := R.cl (show k < 32 by omega) (q.fl hk)
  have t1 := p_keeps (h := h) kp (vI v) (nI M)
  rw [p2, p3, p4] at t1
  unfold f_X0_ofOne o1Q
  rw [if_neg (show ¬ nI 18 = (21 : Int32) by decide), if_neg (show ¬ nI 18 = (17 : Int32) by decide), if_neg (show ¬ 61 = 60 by omega), ko_t S.k83, r4, kn_s]
  by_cases hs : -4095 ≤ vI v ∧ vI v ≤ 4095
  · have hs2 := ss.mp hs
    rw [bd_t (c_isStep_t hs), if_neg (show ¬ nI 1 = (0 : Int32) by decide), ko_t S.k83, r4, kr_t rfl, ko_t kp, m5, bd_t t1]
    by_cases hf : basI (nI M) (nI (N (8 * k + 2))) (nI (N (8 * k + 3))) ((nI (N (8 * k + 1)) + vI v) &&& 4095) = basI (nI M) (nI (N (8 * k + 2))) (nI (N (8 * k + 3))) (nI (N (8 * k + 1)))
    · rw [b2i_d hf, if_neg (show ¬ nI 1 = (0 : Int32) by decide), if_pos ⟨hs2, hf⟩]
      rfl
    · rw [b2i_n hf, if_pos (show nI 0 = (0 : Int32) from rfl), if_neg (fun z => hf z.2)]
      rfl
  · have hs2 : ¬ (-4095 ≤ v ∧ v ≤ 4095) := fun z => hs (ss.mpr z)
    rw [bd_t (c_isStep_f hs), if_pos (show nI 0 = (0 : Int32) from rfl), if_neg (fun z => hs2 z.1)]
    rfl
/-- a formula that a question holds -/
theorem c_run2 {a : Nat} {al : Nat → Bool} {fg : Nat → Int} {o1 : Nat → Int → Int} {t : Bool} {l : List Nat} (S : XS h x) (ha : a = x + 92 ∨ a = x + 98) (hl : l.length ≤ 1600) (f4 : hI h (a + 4) 0 = nI 0) (f5 : hI h (a + 5) 0 = nI l.length) (hc : ∀ i, i < l.length → hI h (a + 3) i = ccI (l.getD i 0)) (ht : tyC al l [] = some [t]) (hf : ∀ c, al c = true → c ≤ 50 → OV false (fg c)) (ho : ∀ c v, al c = true → (c = 60 ∨ c = 61) → OV false v → OV false (o1 c v)) (gf : ∀ c, al c = true → 40 ≤ c → c ≤ 50 → opN c < 17 ∧ hI h (x + 84) (opN c) = vI (fg c)) (go : ∀ c v d f, al c = true → (c = 60 ∨ c = 61) → OV false v → f_X0_ofOne (x + 83) (nI (opN c)) (vI v) (WK h x d f) = some (vI (o1 c v), WK h x d f)) : ∃ d' f' v, f_X0_work (x + 83) a (nI 0) h = some (vI v, WK h x d' f') ∧ evL fg o1 l [] = [v] ∧ OV t v := by
  have A := S.ma ha
  obtain ⟨d', f', v, r1, r2, r3⟩ := c_work (h := h) (x := x) (a := a) (al := al) (fg := fg) (o1 := o1) S A ha hf ho gf go (e := l.length) hl l 0 FU [] (fun j => hI h (x + 85) j) [] t (Nat.zero_add _) (FU_gt (by omega)) (fun j hj => by rw [Nat.zero_add]; exact hc j hj) ht trivial (fun i hi => absurd hi (Nat.not_lt_zero _))
  refine ⟨d', f', v, ?_, r2, r3⟩
  rw [← r1]
  have w0 := WK_0 (h := h) (x := x)
  have A1 : MA (WK h x 0 (fun j => hI h (x + 85) j)) a := A.of rfl rfl
  have g2 : hI (WK h x 0 (fun j => hI h (x + 85) j)) (a + 4) 0 = nI 0 := by rw [WK_o (by omega) (by omega)]; exact f4
  have g3 : hI (WK h x 0 (fun j => hI h (x + 85) j)) (a + 5) 0 = nI l.length := by rw [WK_o (by omega) (by omega)]; exact f5
  have e16 : Int32.ofNat 1600 = nI 1600 := rfl
  have mi : ¬ nI 1600 < nI l.length := by rw [nI_ltI (by omega) (by omega)]; omega
  have mi : (nI 1600 < nI l.length) = False := eq_false mi
  show _ = f_X0_work_28 FU (x + 83) a (nI l.length) (nI 0) (WK h x 0 (fun j => hI h (x + 85) j))
  generalize WK h x 0 (fun j => hI h (x + 85) j) = h2 at *
  simp (disch := omega) only [nm, bd_s, ko_K, ka_K, koK_t, kaK_t, kr_s, kn_s, kn_n, hK_sI, hR_sI, hK_sL, hR_sL, hI_sL, hL_sI, hL_sL, hI_sI, hN_sI, hN_sL, ch_G, ch_T, nb_0, nb_1, zb_G, d_T, d_F, d_eT, d_eF, b2i_t, b2i_f, tn_nI, fa_lit, fa_litL, m1_e, nI_add, pk_mul, pk_sub, nI_leI, nI_ltI, nI_eq, le_T, le_F, lt_T, lt_F, eq_T, eq_F, if_pos, if_neg, m1_le, m1_lt', m1_gt, m1_le', m1_eq, m1_qe, b2i_eq0, in_N, in_n, in_I, ↓reduceIte, Bool.true_eq_false, Bool.false_eq_true, reduceCtorEq, decide_eq_true_eq, decide_eq_false_iff_not, Nat.not_lt, Nat.not_le, not_true_eq_false, not_false_eq_true, true_and, and_true, and_self, false_and, and_false, true_or, or_true, false_or, or_false, f_X0_work, S.k83, A.k, A.r8, A.k5, w0, A.r6, A.k3, e16, j_min, A1.k, A1.r7, A1.k4, g2, g3, mi]
theorem c_sb {k : Nat} (S : XS h x) (R : RS h (x + 3) N) (q : okN M mem sh N) (h4 : 4 ≤ M) (h8 : M ≤ 8) (hk : k < 16) : f_X0_setBounds (x + 83) (x + 3 + 7 + k) (nI M) h = some ((), sbH h x (nI M) (nI (N (8 * k + 1))) (nI (basN M (N (8 * k + 2)) (N (8 * k + 3)) (N (8 * k + 1)))) (nI (lnN M (N (8 * k + 2)) (N (8 * k + 3)) (N (8 * k + 4)))) (nI (N (8 * k + 5)))) := by
  have kp := S.now.kp (k := k) (by omega)
  have okp := q.2.1 k (by omega)
  obtain ⟨p0, p1, p2, p3, p4, p5, p6, p7⟩ := R.cl (show k < 32 by omega) (q.fl hk)
  have pb : ∀ v5 v : Int32, f_X6_base (x + 3 + 7 + k) (nI M) (sI (sI h (x + 83) 5 v5) (x + 84) 10 v) = some (nI (basN M (N (8 * k + 2)) (N (8 * k + 3)) (N (8 * k + 1))), sI (sI h (x + 83) 5 v5) (x + 84) 10 v) := by
    intro v5 v
    rw [p_base (h := sI (sI h (x + 83) 5 v5) (x + 84) 10 v) kp]
    rw [hI_sI, if_neg (by omega), hI_sI, if_neg (by omega), hI_sI, if_neg (by omega), hI_sI, if_neg (by omega), hI_sI, if_neg (by omega), hI_sI, if_neg (by omega), p3, p4, p2, bas_nI h4 h8 okp.2.2.1 okp.2.2.2.1 (by have := okp.2.1; omega)]
  have px : ∀ v5 v v' : Int32, f_X6_extent (x + 3 + 7 + k) (nI M) (sI (sI (sI h (x + 83) 5 v5) (x + 84) 10 v) (x + 84) 11 v') = some (nI (lnN M (N (8 * k + 2)) (N (8 * k + 3)) (N (8 * k + 4))), sI (sI (sI h (x + 83) 5 v5) (x + 84) 10 v) (x + 84) 11 v') := by
    intro v5 v v'
    rw [p_extent (h := sI (sI (sI h (x + 83) 5 v5) (x + 84) 10 v) (x + 84) 11 v') kp]
    rw [hI_sI, if_neg (by omega), hI_sI, if_neg (by omega), hI_sI, if_neg (by omega), hI_sI, if_neg (by omega), hI_sI, if_neg (by omega), hI_sI, if_neg (by omega), hI_sI, if_neg (by omega), hI_sI, if_neg (by omega), hI_sI, if_neg (by omega), p3, p4, p5, len_nI h4 h8 okp.2.2.1 okp.2.2.2.1]
    rfl
  simp (disch := omega) only [nm, bd_s, ko_K, ka_K, koK_t, kaK_t, kr_s, kn_s, kn_n, hK_sI, hR_sI, hK_sL, hR_sL, hI_sL, hL_sI, hL_sL, hI_sI, hN_sI, hN_sL, ch_G, ch_T, nb_0, nb_1, zb_G, d_T, d_F, d_eT, d_eF, b2i_t, b2i_f, tn_nI, fa_lit, fa_litL, m1_e, nI_add, pk_mul, pk_sub, nI_leI, nI_ltI, nI_eq, le_T, le_F, lt_T, lt_F, eq_T, eq_F, if_pos, if_neg, m1_le, m1_lt', m1_gt, m1_le', m1_eq, m1_qe, b2i_eq0, in_N, in_n, in_I, ↓reduceIte, Bool.true_eq_false, Bool.false_eq_true, reduceCtorEq, decide_eq_true_eq, decide_eq_false_iff_not, Nat.not_lt, Nat.not_le, not_true_eq_false, not_false_eq_true, true_and, and_true, and_self, false_and, and_false, true_or, or_true, false_or, or_false, f_X0_setBounds, S.k83, S.r83_1, S.k84, kp, p2, pb, px, p6]
  rfl
end Av
