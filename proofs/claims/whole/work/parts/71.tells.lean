/-! TELLING on both sides -/
def moN (pl : Nat → Bool) (st z al t : Nat) : Nat := max (al - lfN pl st z t) (lfN pl st z t)
theorem neg_stp {b : Nat} (hb : b < 64) : -nI (b + 1) = stp (63 - b) := by
  have : ∀ b, b < 64 → -nI (b + 1) = stp (63 - b) := by decide +kernel
  exact this b hb
theorem stp_64 {t : Nat} (ht : t < 128) : stp t + nI 64 = nI t := by
  have : ∀ t, t < 128 → stp t + nI 64 = nI t := by decide +kernel
  exact this t ht
theorem stp_up {a : Nat} (ha : a < 64) : nI a = stp (64 + a) := by
  have : ∀ a, a < 64 → nI a = stp (64 + a) := by decide +kernel
  exact this a ha
theorem lf_le (pl : Nat → Bool) (st z t : Nat) : lfN pl st z t ≤ 4096 := ctN_le _ _
section Tl
variable {h : aH} {y M e b a0 rn : Nat} {rw_ : Nat → Nat}
theorem AI.th (A : AI h y M e b a0 rn rw_) (v t : Int32) : AI (sI (sI h y 2 v) y 1 t) y M e b a0 rn rw_ := by
  obtain ⟨k0, r3, r4, k1, k2, e5, e6, e0, r16, hr⟩ := A
  refine ⟨k0, r3, r4, k1, k2, ?_, ?_, ?_, r16, fun i hi => ?_⟩
  · rw [hI_sI, if_neg (by omega), hI_sI, if_neg (by omega)]; exact e5
  · rw [hI_sI, if_neg (by omega), hI_sI, if_neg (by omega)]; exact e6
  · rw [hI_sI, if_neg (by omega), hI_sI, if_neg (by omega)]; exact e0
  · rw [hI_sI, if_neg (by omega), hI_sI, if_neg (by omega), hI_sI, if_neg (by omega), hI_sI, if_neg (by omega)]; exact hr i hi
theorem s_placesAt (A : AI h y M e b a0 rn rw_) (h4 : 4 ≤ M) (h8 : M ≤ 8) (he : e ≤ 13 - M) (hb : b < 2 ^ M) (ha0 : a0 < 4096) {o : Nat} (ho : o < 2 ^ 31) : f_X8_placesAt y (nI o) h = some (nI (paN (plP M e b a0 rn rw_) (wsN M e b a0) (wzN M e) o), h) := by
  have P := fun (t : Nat) (ht : t < 4096) => s_isPlace A h4 h8 he hb ha0 ht
  obtain ⟨k0, r3, r4, k1, k2, e5, e6, e0, r16, hr⟩ := A
  have w1 := wsN_lt M e b a0
  have w2 := wzN_le M e
  unfold paN
  by_cases c1 : wzN M e ≤ o
  · rw [if_pos (Or.inl c1)]
    simp (disch := omega) only [nm, bd_s, ko_K, ka_K, koK_t, kaK_t, kr_s, kn_s, kn_n, hK_sI, hR_sI, hK_sL, hR_sL, hI_sL, hL_sI, hL_sL, hI_sI, hN_sI, hN_sL, ch_G, ch_T, nb_0, nb_1, zb_G, d_T, d_F, d_eT, d_eF, b2i_t, b2i_f, tn_nI, fa_lit, fa_litL, m1_e, nI_add, pk_mul, pk_sub, nI_leI, nI_ltI, nI_eq, le_T, le_F, lt_T, lt_F, eq_T, eq_F, if_pos, if_neg, m1_le, m1_lt', m1_gt, m1_le', m1_eq, m1_qe, b2i_eq0, in_N, in_n, in_I, ↓reduceIte, Bool.true_eq_false, Bool.false_eq_true, reduceCtorEq, decide_eq_true_eq, decide_eq_false_iff_not, Nat.not_lt, Nat.not_le, not_true_eq_false, not_false_eq_true, true_and, and_true, and_self, false_and, and_false, true_or, or_true, false_or, or_false, f_X8_placesAt_22, f_X8_placesAt_46, f_X8_placesAt, k0, e6]
  · by_cases c2 : wzN M e = 4096
    · rw [if_pos (Or.inr c2)]
      simp (disch := omega) only [nm, bd_s, ko_K, ka_K, koK_t, kaK_t, kr_s, kn_s, kn_n, hK_sI, hR_sI, hK_sL, hR_sL, hI_sL, hL_sI, hL_sL, hI_sI, hN_sI, hN_sL, ch_G, ch_T, nb_0, nb_1, zb_G, d_T, d_F, d_eT, d_eF, b2i_t, b2i_f, tn_nI, fa_lit, fa_litL, m1_e, nI_add, pk_mul, pk_sub, nI_leI, nI_ltI, nI_eq, le_T, le_F, lt_T, lt_F, eq_T, eq_F, if_pos, if_neg, m1_le, m1_lt', m1_gt, m1_le', m1_eq, m1_qe, b2i_eq0, in_N, in_n, in_I, ↓reduceIte, Bool.true_eq_false, Bool.false_eq_true, reduceCtorEq, decide_eq_true_eq, decide_eq_false_iff_not, Nat.not_lt, Nat.not_le, not_true_eq_false, not_false_eq_true, true_and, and_true, and_self, false_and, and_false, true_or, or_true, false_or, or_false, f_X8_placesAt_22, f_X8_placesAt_46, f_X8_placesAt, k0, e6, c2]
    · rw [if_neg (by omega)]
      have p := P ((wsN M e b a0 + o) % 4096) (Nat.mod_lt _ (by omega))
      unfold ofP
      generalize plP M e b a0 rn rw_ ((wsN M e b a0 + o) % 4096) = z at *
      cases z
      · simp (disch := omega) only [nm, bd_s, ko_K, ka_K, koK_t, kaK_t, kr_s, kn_s, kn_n, hK_sI, hR_sI, hK_sL, hR_sL, hI_sL, hL_sI, hL_sL, hI_sI, hN_sI, hN_sL, ch_G, ch_T, nb_0, nb_1, zb_G, d_T, d_F, d_eT, d_eF, b2i_t, b2i_f, tn_nI, fa_lit, fa_litL, m1_e, nI_add, pk_mul, pk_sub, nI_leI, nI_ltI, nI_eq, le_T, le_F, lt_T, lt_F, eq_T, eq_F, if_pos, if_neg, m1_le, m1_lt', m1_gt, m1_le', m1_eq, m1_qe, b2i_eq0, in_N, in_n, in_I, ↓reduceIte, Bool.true_eq_false, Bool.false_eq_true, reduceCtorEq, decide_eq_true_eq, decide_eq_false_iff_not, Nat.not_lt, Nat.not_le, not_true_eq_false, not_false_eq_true, true_and, and_true, and_self, false_and, and_false, true_or, or_true, false_or, or_false, f_X8_placesAt_22, f_X8_placesAt_46, f_X8_placesAt, k0, e5, e6, an_4095, p]
      · simp (disch := omega) only [nm, bd_s, ko_K, ka_K, koK_t, kaK_t, kr_s, kn_s, kn_n, hK_sI, hR_sI, hK_sL, hR_sL, hI_sL, hL_sI, hL_sL, hI_sI, hN_sI, hN_sL, ch_G, ch_T, nb_0, nb_1, zb_G, d_T, d_F, d_eT, d_eF, b2i_t, b2i_f, tn_nI, fa_lit, fa_litL, m1_e, nI_add, pk_mul, pk_sub, nI_leI, nI_ltI, nI_eq, le_T, le_F, lt_T, lt_F, eq_T, eq_F, if_pos, if_neg, m1_le, m1_lt', m1_gt, m1_le', m1_eq, m1_qe, b2i_eq0, in_N, in_n, in_I, ↓reduceIte, Bool.true_eq_false, Bool.false_eq_true, reduceCtorEq, decide_eq_true_eq, decide_eq_false_iff_not, Nat.not_lt, Nat.not_le, not_true_eq_false, not_false_eq_true, true_and, and_true, and_self, false_and, and_false, true_or, or_true, false_or, or_false, f_X8_placesAt_22, f_X8_placesAt_46, f_X8_placesAt, k0, e5, e6, an_4095, p]
theorem pl_in (h4 : 4 ≤ M) (h8 : M ≤ 8) (he : e ≤ 13 - M) (hb : b < 2 ^ M) (ha0 : a0 < 4096) : ∀ o, o < 4096 → ofP (plP M e b a0 rn rw_) (wsN M e b a0) o = true → o < wzN M e := by
  intro o ho q
  have w1 := wsN_lt M e b a0
  unfold ofP plP at q
  rw [Bool.and_eq_true] at q
  have q1 := q.1
  rw [← in_d h4 h8 he hb (Nat.mod_lt _ (by omega)) ha0] at q1
  have q2 : offN (wsN M e b a0) ((wsN M e b a0 + o) % 4096) < wzN M e := by simpa using q1
  have : offN (wsN M e b a0) ((wsN M e b a0 + o) % 4096) = o := by unfold offN; omega
  omega
def TH (h : aH) (y v : Nat) (t : Int32) : aH := sI (sI h y 2 (nI v)) y 1 t
theorem TH_2 (h : aH) (y v : Nat) (t : Int32) : hI (TH h y v t) y 2 = nI v := by unfold TH; rw [hI_sI, if_neg (by omega), hI_sI, if_pos ⟨rfl, rfl⟩]
theorem TH_1 (h : aH) (y v : Nat) (t : Int32) : hI (TH h y v t) y 1 = t := by unfold TH; rw [hI_sI, if_pos ⟨rfl, rfl⟩]
theorem TH_s (h : aH) (y v w : Nat) (t u : Int32) : sI (sI (TH h y v t) y 2 (nI w)) y 1 u = TH h y w u := by
  unfold TH
  apply aH_ext
  · intro b; rfl
  · intro b j
    simp only [hI_sI]
    by_cases c1 : b = y ∧ j = 1
    · rw [if_pos c1, if_pos c1]
    · rw [if_neg c1, if_neg c1]
      by_cases c2 : b = y ∧ j = 2
      · rw [if_pos c2, if_pos c2, if_neg c1]
      · rw [if_neg c2, if_neg c1, if_neg c2, if_neg c2]
  · intro b j; rfl
  · intro b j; rfl
  · rfl
  · rfl
variable (A : AI h y M e b a0 rn rw_) (h4 : 4 ≤ M) (h8 : M ≤ 8) (he : e ≤ 13 - M) (hb : b < 2 ^ M) (ha0 : a0 < 4096)
theorem s_tell16 (A : AI h y M e b a0 rn rw_) (h4 : 4 ≤ M) (h8 : M ≤ 8) (he : e ≤ 13 - M) (hb : b < 2 ^ M) (ha0 : a0 < 4096) {al : Nat} (hal : al = ctN (plP M e b a0 rn rw_) 4096) : ∀ (d q v : Nat) (tt : Int32) (n : Nat), q + d = 64 → d < n → (q = 0 ∧ v = al + 1 ∨ ∃ t, FT (moN (plP M e b a0 rn rw_) (wsN M e b a0) (wzN M e) al) (64 - q) 64 t v ∧ tt = stp t) → ∃ v' t', f_X8_findTelling_16 n y (nI al) (nI (fb_sm (paN (plP M e b a0 rn rw_) (wsN M e b a0) (wzN M e)) q)) (nI (q + 1)) (TH h y v tt) = f_X8_findTelling_72 FU y (nI al) (nI 0) (nI 0) (TH h y v' (stp t')) ∧ FT (moN (plP M e b a0 rn rw_) (wsN M e b a0) (wzN M e) al) 0 64 t' v' := by
  have al4 : al ≤ 4096 := by rw [hal]; exact ctN_le _ _
  intro d
  induction d with
  | zero =>
    intro q v tt n hq hn hs
    obtain ⟨n, rfl⟩ : ∃ m, n = m + 1 := ⟨n - 1, by omega⟩
    rcases hs with hs | ⟨t, hs, rfl⟩
    · omega
    · refine ⟨v, t, ?_, by rw [show 64 - q = 0 by omega] at hs; exact hs⟩
      simp (disch := omega) only [nm, bd_s, ko_K, ka_K, koK_t, kaK_t, kr_s, kn_s, kn_n, hK_sI, hR_sI, hK_sL, hR_sL, hI_sL, hL_sI, hL_sL, hI_sI, hN_sI, hN_sL, ch_G, ch_T, nb_0, nb_1, zb_G, d_T, d_F, d_eT, d_eF, b2i_t, b2i_f, tn_nI, fa_lit, fa_litL, m1_e, nI_add, pk_mul, pk_sub, nI_leI, nI_ltI, nI_eq, le_T, le_F, lt_T, lt_F, eq_T, eq_F, if_pos, if_neg, m1_le, m1_lt', m1_gt, m1_le', m1_eq, m1_qe, b2i_eq0, in_N, in_n, in_I, ↓reduceIte, Bool.true_eq_false, Bool.false_eq_true, reduceCtorEq, decide_eq_true_eq, decide_eq_false_iff_not, Nat.not_lt, Nat.not_le, not_true_eq_false, not_false_eq_true, true_and, and_true, and_self, false_and, and_false, true_or, or_true, false_or, or_false, f_X8_findTelling_16, b_X8_findTelling_16]
  | succ d ih =>
    intro q v tt n hq hn hs
    obtain ⟨n, rfl⟩ : ∃ m, n = m + 1 := ⟨n - 1, by omega⟩
    have A1 : AI (TH h y v tt) y M e b a0 rn rw_ := A.th _ _
    have k0 := A1.1
    have pa := s_placesAt A1 h4 h8 he hb ha0 (show q < 2 ^ 31 by omega)
    have lb := lf_back (pl := plP M e b a0 rn rw_) (wsN_lt M e b a0) (wzN_or h4 h8 he) (pl_in h4 h8 he hb ha0) (show q + 1 ≤ 64 by omega)
    rw [← hal] at lb
    have sm : fb_sm (paN (plP M e b a0 rn rw_) (wsN M e b a0) (wzN M e)) (q + 1) = fb_sm (paN (plP M e b a0 rn rw_) (wsN M e b a0) (wzN M e)) q + paN (plP M e b a0 rn rw_) (wsN M e b a0) (wzN M e) q := rfl
    have t2 := TH_2 h y v tt
    have ng := neg_stp (show q < 64 by omega)
    have hv : v ≤ 4097 := by
      rcases hs with hs | ⟨t, hs, -⟩
      · omega
      · have := lf_le (plP M e b a0 rn rw_) (wsN M e b a0) (wzN M e) t
        have e3 := hs.2.2.1
        unfold moN at e3
        omega
    rw [show 64 - (q + 1) = 63 - q by omega] at lb
    have mo1 : moN (plP M e b a0 rn rw_) (wsN M e b a0) (wzN M e) al (63 - q) = max (fb_sm (paN (plP M e b a0 rn rw_) (wsN M e b a0) (wzN M e)) (q + 1)) (al - fb_sm (paN (plP M e b a0 rn rw_) (wsN M e b a0) (wzN M e)) (q + 1)) := by
      unfold moN; omega
    have nxt : ∀ (v2 : Nat) (tt2 : Int32), (∃ t, FT (moN (plP M e b a0 rn rw_) (wsN M e b a0) (wzN M e) al) (63 - q) 64 t v2 ∧ tt2 = stp t) → ∃ v' t', f_X8_findTelling_16 n y (nI al) (nI (fb_sm (paN (plP M e b a0 rn rw_) (wsN M e b a0) (wzN M e)) (q + 1))) (nI (q + 1 + 1)) (TH h y v2 tt2) = f_X8_findTelling_72 FU y (nI al) (nI 0) (nI 0) (TH h y v' (stp t')) ∧ FT (moN (plP M e b a0 rn rw_) (wsN M e b a0) (wzN M e) al) 0 64 t' v' := by
      intro v2 tt2 hh
      exact ih (q + 1) v2 tt2 n (by omega) (by omega) (Or.inr (by rw [show 64 - (q + 1) = 63 - q by omega]; exact hh))
    rw [sm] at mo1 nxt lb
    generalize fb_sm (paN (plP M e b a0 rn rw_) (wsN M e b a0) (wzN M e)) q = l0 at *
    generalize paN (plP M e b a0 rn rw_) (wsN M e b a0) (wzN M e) q = l1 at *
    have mv : f_J9_max_7cf53 (nI (l0 + l1)) (nI (al - (l0 + l1))) (TH h y v tt) = some (nI (moN (plP M e b a0 rn rw_) (wsN M e b a0) (wzN M e) al (63 - q)), TH h y v tt) := by
      rw [j_max, mo1]
      by_cases c : l0 + l1 < al - (l0 + l1)
      · rw [if_pos (nI_lt c (by omega)), Nat.max_eq_right (by omega)]
      · rw [if_neg (nI_nlt (by omega) (by omega)), Nat.max_eq_left (by omega)]
    have mob : moN (plP M e b a0 rn rw_) (wsN M e b a0) (wzN M e) al (63 - q) ≤ 4096 := by rw [mo1]; omega
    by_cases c : v < moN (plP M e b a0 rn rw_) (wsN M e b a0) (wzN M e) al (63 - q)
    · rcases hs with ⟨rfl, rfl⟩ | ⟨t, hs, rfl⟩
      · rw [mo1] at c; omega
      · obtain ⟨v', t', e1, e2⟩ := nxt v (stp t) ⟨t, (FT.dn (by rw [show 63 - q + 1 = 64 - q by omega]; exact hs)).2 (by omega), rfl⟩
        refine ⟨v', t', ?_, e2⟩
        simp (disch := omega) only [nm, bd_s, ko_K, ka_K, koK_t, kaK_t, kr_s, kn_s, kn_n, hK_sI, hR_sI, hK_sL, hR_sL, hI_sL, hL_sI, hL_sL, hI_sI, hN_sI, hN_sL, ch_G, ch_T, nb_0, nb_1, zb_G, d_T, d_F, d_eT, d_eF, b2i_t, b2i_f, tn_nI, fa_lit, fa_litL, m1_e, nI_add, pk_mul, pk_sub, nI_leI, nI_ltI, nI_eq, le_T, le_F, lt_T, lt_F, eq_T, eq_F, if_pos, if_neg, m1_le, m1_lt', m1_gt, m1_le', m1_eq, m1_qe, b2i_eq0, in_N, in_n, in_I, ↓reduceIte, Bool.true_eq_false, Bool.false_eq_true, reduceCtorEq, decide_eq_true_eq, decide_eq_false_iff_not, Nat.not_lt, Nat.not_le, not_true_eq_false, not_false_eq_true, true_and, and_true, and_self, false_and, and_false, true_or, or_true, false_or, or_false, f_X8_findTelling_16, b_X8_findTelling_16, f_X8_findTelling_62, Nat.add_sub_cancel, k0, pa, mv, t2, e1]
    · have hs2 : FT (moN (plP M e b a0 rn rw_) (wsN M e b a0) (wzN M e) al) (63 - q) 64 (63 - q) (moN (plP M e b a0 rn rw_) (wsN M e b a0) (wzN M e) al (63 - q)) := by
        rcases hs with ⟨rfl, rfl⟩ | ⟨t, hs, rfl⟩
        · exact FT.one _ 63
        · exact (FT.dn (by rw [show 63 - q + 1 = 64 - q by omega]; exact hs)).1 (by omega)
      obtain ⟨v', t', e1, e2⟩ := nxt _ (stp (63 - q)) ⟨63 - q, hs2, rfl⟩
      have ts := TH_s h y v (moN (plP M e b a0 rn rw_) (wsN M e b a0) (wzN M e) al (63 - q)) tt (stp (63 - q))
      refine ⟨v', t', ?_, e2⟩
      simp (disch := omega) only [nm, bd_s, ko_K, ka_K, koK_t, kaK_t, kr_s, kn_s, kn_n, hK_sI, hR_sI, hK_sL, hR_sL, hI_sL, hL_sI, hL_sL, hI_sI, hN_sI, hN_sL, ch_G, ch_T, nb_0, nb_1, zb_G, d_T, d_F, d_eT, d_eF, b2i_t, b2i_f, tn_nI, fa_lit, fa_litL, m1_e, nI_add, pk_mul, pk_sub, nI_leI, nI_ltI, nI_eq, le_T, le_F, lt_T, lt_F, eq_T, eq_F, if_pos, if_neg, m1_le, m1_lt', m1_gt, m1_le', m1_eq, m1_qe, b2i_eq0, in_N, in_n, in_I, ↓reduceIte, Bool.true_eq_false, Bool.false_eq_true, reduceCtorEq, decide_eq_true_eq, decide_eq_false_iff_not, Nat.not_lt, Nat.not_le, not_true_eq_false, not_false_eq_true, true_and, and_true, and_self, false_and, and_false, true_or, or_true, false_or, or_false, f_X8_findTelling_16, b_X8_findTelling_16, f_X8_findTelling_62, Nat.add_sub_cancel, k0, pa, mv, t2, ng, ts, e1]
theorem s_tell72 (A : AI h y M e b a0 rn rw_) (h4 : 4 ≤ M) (h8 : M ≤ 8) (he : e ≤ 13 - M) (hb : b < 2 ^ M) (ha0 : a0 < 4096) {al : Nat} (hal : al = ctN (plP M e b a0 rn rw_) 4096) : ∀ (d q v t n : Nat), q + d = 64 → d < n → FT (moN (plP M e b a0 rn rw_) (wsN M e b a0) (wzN M e) al) 0 (64 + q) t v → ∃ v' t', f_X8_findTelling_72 n y (nI al) (nI (fb_sm (fun i => if wzN M e < i then 0 else paN (plP M e b a0 rn rw_) (wsN M e b a0) (wzN M e) (wzN M e - i)) q)) (nI q) (TH h y v (stp t)) = some (b2i (decide (0 < al)), TH h y v' (stp t')) ∧ FT (moN (plP M e b a0 rn rw_) (wsN M e b a0) (wzN M e) al) 0 128 t' v' := by
  have al4 : al ≤ 4096 := by rw [hal]; exact ctN_le _ _
  intro d
  induction d with
  | zero =>
    intro q v t n hq hn hs
    obtain ⟨n, rfl⟩ : ∃ m, n = m + 1 := ⟨n - 1, by omega⟩
    refine ⟨v, t, ?_, by rw [show 64 + q = 128 by omega] at hs; exact hs⟩
    by_cases c : 0 < al
    · simp (disch := omega) only [nm, bd_s, ko_K, ka_K, koK_t, kaK_t, kr_s, kn_s, kn_n, hK_sI, hR_sI, hK_sL, hR_sL, hI_sL, hL_sI, hL_sL, hI_sI, hN_sI, hN_sL, ch_G, ch_T, nb_0, nb_1, zb_G, d_T, d_F, d_eT, d_eF, b2i_t, b2i_f, tn_nI, fa_lit, fa_litL, m1_e, nI_add, pk_mul, pk_sub, nI_leI, nI_ltI, nI_eq, le_T, le_F, lt_T, lt_F, eq_T, eq_F, if_pos, if_neg, m1_le, m1_lt', m1_gt, m1_le', m1_eq, m1_qe, b2i_eq0, in_N, in_n, in_I, ↓reduceIte, Bool.true_eq_false, Bool.false_eq_true, reduceCtorEq, decide_eq_true_eq, decide_eq_false_iff_not, Nat.not_lt, Nat.not_le, not_true_eq_false, not_false_eq_true, true_and, and_true, and_self, false_and, and_false, true_or, or_true, false_or, or_false, f_X8_findTelling_72, b_X8_findTelling_72, f_X8_findTelling_135, b2i_d c]
    · simp (disch := omega) only [nm, bd_s, ko_K, ka_K, koK_t, kaK_t, kr_s, kn_s, kn_n, hK_sI, hR_sI, hK_sL, hR_sL, hI_sL, hL_sI, hL_sL, hI_sI, hN_sI, hN_sL, ch_G, ch_T, nb_0, nb_1, zb_G, d_T, d_F, d_eT, d_eF, b2i_t, b2i_f, tn_nI, fa_lit, fa_litL, m1_e, nI_add, pk_mul, pk_sub, nI_leI, nI_ltI, nI_eq, le_T, le_F, lt_T, lt_F, eq_T, eq_F, if_pos, if_neg, m1_le, m1_lt', m1_gt, m1_le', m1_eq, m1_qe, b2i_eq0, in_N, in_n, in_I, ↓reduceIte, Bool.true_eq_false, Bool.false_eq_true, reduceCtorEq, decide_eq_true_eq, decide_eq_false_iff_not, Nat.not_lt, Nat.not_le, not_true_eq_false, not_false_eq_true, true_and, and_true, and_self, false_and, and_false, true_or, or_true, false_or, or_false, f_X8_findTelling_72, b_X8_findTelling_72, f_X8_findTelling_135, b2i_n c]
  | succ d ih =>
    intro q v t n hq hn hs
    obtain ⟨n, rfl⟩ : ∃ m, n = m + 1 := ⟨n - 1, by omega⟩
    have A1 : AI (TH h y v (stp t)) y M e b a0 rn rw_ := A.th _ _
    have k0 := A1.1
    have w2 := wzN_le M e
    have e6 : hI (TH h y v (stp t)) y 6 = nI (wzN M e) := A1.2.2.2.2.2.2.1
    have lb := lf_ahead (pl := plP M e b a0 rn rw_) (wsN_lt M e b a0) (wzN_or h4 h8 he) (pl_in h4 h8 he hb ha0) q (by omega)
    rw [← hal] at lb
    have sm : fb_sm (fun i => if wzN M e < i then 0 else paN (plP M e b a0 rn rw_) (wsN M e b a0) (wzN M e) (wzN M e - i)) (q + 1) = fb_sm (fun i => if wzN M e < i then 0 else paN (plP M e b a0 rn rw_) (wsN M e b a0) (wzN M e) (wzN M e - i)) q + (if wzN M e < q then 0 else paN (plP M e b a0 rn rw_) (wsN M e b a0) (wzN M e) (wzN M e - q)) := rfl
    have pa : f_X8_placesAt y (nI (wzN M e) - nI q) (TH h y v (stp t)) = some (nI (if wzN M e < q then 0 else paN (plP M e b a0 rn rw_) (wsN M e b a0) (wzN M e) (wzN M e - q)), TH h y v (stp t)) := by
      by_cases c : wzN M e < q
      · rw [if_pos c]
        have ngz : nI (wzN M e) - nI q < nI 0 := pk_sneg (by omega) c
        simp (disch := omega) only [nm, bd_s, ko_K, ka_K, koK_t, kaK_t, kr_s, kn_s, kn_n, hK_sI, hR_sI, hK_sL, hR_sL, hI_sL, hL_sI, hL_sL, hI_sI, hN_sI, hN_sL, ch_G, ch_T, nb_0, nb_1, zb_G, d_T, d_F, d_eT, d_eF, b2i_t, b2i_f, tn_nI, fa_lit, fa_litL, m1_e, nI_add, pk_mul, pk_sub, nI_leI, nI_ltI, nI_eq, le_T, le_F, lt_T, lt_F, eq_T, eq_F, if_pos, if_neg, m1_le, m1_lt', m1_gt, m1_le', m1_eq, m1_qe, b2i_eq0, in_N, in_n, in_I, ↓reduceIte, Bool.true_eq_false, Bool.false_eq_true, reduceCtorEq, decide_eq_true_eq, decide_eq_false_iff_not, Nat.not_lt, Nat.not_le, not_true_eq_false, not_false_eq_true, true_and, and_true, and_self, false_and, and_false, true_or, or_true, false_or, or_false, f_X8_placesAt_22, f_X8_placesAt_46, f_X8_placesAt, ng_lt' ngz, ng_le' ngz, ng_le ngz, ng_lt ngz, ng_eq ngz, ng_qe ngz, in_g ngz, in_gN ngz]
      · rw [if_neg c, pk_sub (by omega)]
        exact s_placesAt A1 h4 h8 he hb ha0 (by omega)
    have pa2 : ¬ wzN M e < q → f_X8_placesAt y (nI (wzN M e - q)) (TH h y v (stp t)) = some (nI (if wzN M e < q then 0 else paN (plP M e b a0 rn rw_) (wsN M e b a0) (wzN M e) (wzN M e - q)), TH h y v (stp t)) := by
      intro c
      rw [← pk_sub (show q ≤ wzN M e by omega)]; exact pa
    have t2 := TH_2 h y v (stp t)
    have ng := stp_up (show q < 64 by omega)
    have hv : v ≤ 4097 := by
      have := lf_le (plP M e b a0 rn rw_) (wsN M e b a0) (wzN M e) t
      have e3 := hs.2.2.1
      unfold moN at e3
      omega
    have mo1 : moN (plP M e b a0 rn rw_) (wsN M e b a0) (wzN M e) al (64 + q) = max (fb_sm (fun i => if wzN M e < i then 0 else paN (plP M e b a0 rn rw_) (wsN M e b a0) (wzN M e) (wzN M e - i)) (q + 1)) (al - fb_sm (fun i => if wzN M e < i then 0 else paN (plP M e b a0 rn rw_) (wsN M e b a0) (wzN M e) (wzN M e - i)) (q + 1)) := by
      unfold moN; omega
    have nxt := fun (v2 t3 : Nat) (hh : FT (moN (plP M e b a0 rn rw_) (wsN M e b a0) (wzN M e) al) 0 (64 + q + 1) t3 v2) => ih (q + 1) v2 t3 n (by omega) (by omega) hh
    rw [sm] at mo1 nxt lb
    generalize fb_sm (fun i => if wzN M e < i then 0 else paN (plP M e b a0 rn rw_) (wsN M e b a0) (wzN M e) (wzN M e - i)) q = l0 at *
    generalize (if wzN M e < q then 0 else paN (plP M e b a0 rn rw_) (wsN M e b a0) (wzN M e) (wzN M e - q)) = l1 at *
    have mv : f_J9_max_7cf53 (nI (l0 + l1)) (nI (al - (l0 + l1))) (TH h y v (stp t)) = some (nI (moN (plP M e b a0 rn rw_) (wsN M e b a0) (wzN M e) al (64 + q)), TH h y v (stp t)) := by
      rw [j_max, mo1]
      by_cases c : l0 + l1 < al - (l0 + l1)
      · rw [if_pos (nI_lt c (by omega)), Nat.max_eq_right (by omega)]
      · rw [if_neg (nI_nlt (by omega) (by omega)), Nat.max_eq_left (by omega)]
    have mob : moN (plP M e b a0 rn rw_) (wsN M e b a0) (wzN M e) al (64 + q) ≤ 4096 := by rw [mo1]; omega
    by_cases c : moN (plP M e b a0 rn rw_) (wsN M e b a0) (wzN M e) al (64 + q) < v
    · obtain ⟨v', t', e1, e2⟩ := nxt _ (64 + q) ((FT.up hs).1 c)
      have ts := TH_s h y v (moN (plP M e b a0 rn rw_) (wsN M e b a0) (wzN M e) al (64 + q)) (stp t) (nI q)
      rw [ng] at ts
      rw [← ng] at e1 ts
      refine ⟨v', t', ?_, e2⟩
      by_cases cz : wzN M e < q
      · simp (disch := omega) only [nm, bd_s, ko_K, ka_K, koK_t, kaK_t, kr_s, kn_s, kn_n, hK_sI, hR_sI, hK_sL, hR_sL, hI_sL, hL_sI, hL_sL, hI_sI, hN_sI, hN_sL, ch_G, ch_T, nb_0, nb_1, zb_G, d_T, d_F, d_eT, d_eF, b2i_t, b2i_f, tn_nI, fa_lit, fa_litL, m1_e, nI_add, pk_mul, pk_sub, nI_leI, nI_ltI, nI_eq, le_T, le_F, lt_T, lt_F, eq_T, eq_F, if_pos, if_neg, m1_le, m1_lt', m1_gt, m1_le', m1_eq, m1_qe, b2i_eq0, in_N, in_n, in_I, ↓reduceIte, Bool.true_eq_false, Bool.false_eq_true, reduceCtorEq, decide_eq_true_eq, decide_eq_false_iff_not, Nat.not_lt, Nat.not_le, not_true_eq_false, not_false_eq_true, true_and, and_true, and_self, false_and, and_false, true_or, or_true, false_or, or_false, f_X8_findTelling_72, b_X8_findTelling_72, f_X8_findTelling_120, k0, e6, pa, mv, t2, ts, e1]
      · have pa2 := pa2 cz
        simp (disch := omega) only [nm, bd_s, ko_K, ka_K, koK_t, kaK_t, kr_s, kn_s, kn_n, hK_sI, hR_sI, hK_sL, hR_sL, hI_sL, hL_sI, hL_sL, hI_sI, hN_sI, hN_sL, ch_G, ch_T, nb_0, nb_1, zb_G, d_T, d_F, d_eT, d_eF, b2i_t, b2i_f, tn_nI, fa_lit, fa_litL, m1_e, nI_add, pk_mul, pk_sub, nI_leI, nI_ltI, nI_eq, le_T, le_F, lt_T, lt_F, eq_T, eq_F, if_pos, if_neg, m1_le, m1_lt', m1_gt, m1_le', m1_eq, m1_qe, b2i_eq0, in_N, in_n, in_I, ↓reduceIte, Bool.true_eq_false, Bool.false_eq_true, reduceCtorEq, decide_eq_true_eq, decide_eq_false_iff_not, Nat.not_lt, Nat.not_le, not_true_eq_false, not_false_eq_true, true_and, and_true, and_self, false_and, and_false, true_or, or_true, false_or, or_false, f_X8_findTelling_72, b_X8_findTelling_72, f_X8_findTelling_120, k0, e6, pa2, mv, t2, ts, e1]
    · obtain ⟨v', t', e1, e2⟩ := nxt v t ((FT.up hs).2 c)
      refine ⟨v', t', ?_, e2⟩
      by_cases cz : wzN M e < q
      · simp (disch := omega) only [nm, bd_s, ko_K, ka_K, koK_t, kaK_t, kr_s, kn_s, kn_n, hK_sI, hR_sI, hK_sL, hR_sL, hI_sL, hL_sI, hL_sL, hI_sI, hN_sI, hN_sL, ch_G, ch_T, nb_0, nb_1, zb_G, d_T, d_F, d_eT, d_eF, b2i_t, b2i_f, tn_nI, fa_lit, fa_litL, m1_e, nI_add, pk_mul, pk_sub, nI_leI, nI_ltI, nI_eq, le_T, le_F, lt_T, lt_F, eq_T, eq_F, if_pos, if_neg, m1_le, m1_lt', m1_gt, m1_le', m1_eq, m1_qe, b2i_eq0, in_N, in_n, in_I, ↓reduceIte, Bool.true_eq_false, Bool.false_eq_true, reduceCtorEq, decide_eq_true_eq, decide_eq_false_iff_not, Nat.not_lt, Nat.not_le, not_true_eq_false, not_false_eq_true, true_and, and_true, and_self, false_and, and_false, true_or, or_true, false_or, or_false, f_X8_findTelling_72, b_X8_findTelling_72, f_X8_findTelling_120, k0, e6, pa, mv, t2, e1]
      · have pa2 := pa2 cz
        simp (disch := omega) only [nm, bd_s, ko_K, ka_K, koK_t, kaK_t, kr_s, kn_s, kn_n, hK_sI, hR_sI, hK_sL, hR_sL, hI_sL, hL_sI, hL_sL, hI_sI, hN_sI, hN_sL, ch_G, ch_T, nb_0, nb_1, zb_G, d_T, d_F, d_eT, d_eF, b2i_t, b2i_f, tn_nI, fa_lit, fa_litL, m1_e, nI_add, pk_mul, pk_sub, nI_leI, nI_ltI, nI_eq, le_T, le_F, lt_T, lt_F, eq_T, eq_F, if_pos, if_neg, m1_le, m1_lt', m1_gt, m1_le', m1_eq, m1_qe, b2i_eq0, in_N, in_n, in_I, ↓reduceIte, Bool.true_eq_false, Bool.false_eq_true, reduceCtorEq, decide_eq_true_eq, decide_eq_false_iff_not, Nat.not_lt, Nat.not_le, not_true_eq_false, not_false_eq_true, true_and, and_true, and_self, false_and, and_false, true_or, or_true, false_or, or_false, f_X8_findTelling_72, b_X8_findTelling_72, f_X8_findTelling_120, k0, e6, pa2, mv, t2, e1]
theorem s_telling (A : AI h y M e b a0 rn rw_) (h4 : 4 ≤ M) (h8 : M ≤ 8) (he : e ≤ 13 - M) (hb : b < 2 ^ M) (ha0 : a0 < 4096) : ∃ v t, f_X8_findTelling y h = some (b2i (decide (0 < ctN (plP M e b a0 rn rw_) 4096)), TH h y v (stp t)) ∧ FT (moN (plP M e b a0 rn rw_) (wsN M e b a0) (wzN M e) (ctN (plP M e b a0 rn rw_) 4096)) 0 128 t v := by
  have cp := s_countPlaces A h4 h8 he hb ha0
  have k0 := A.1
  obtain ⟨v1, t1, e1, f1⟩ := s_tell16 A h4 h8 he hb ha0 rfl 64 0 (ctN (plP M e b a0 rn rw_) 4096 + 1) (hI h y 1) FU (by omega) (FU_gt (by omega)) (Or.inl ⟨rfl, rfl⟩)
  obtain ⟨v2, t2, e2, f2⟩ := s_tell72 A h4 h8 he hb ha0 rfl 64 0 v1 t1 FU (by omega) (FU_gt (by omega)) f1
  refine ⟨v2, t2, ?_, f2⟩
  have e3 : sI h y 2 (nI (ctN (plP M e b a0 rn rw_) 4096 + 1)) = TH h y (ctN (plP M e b a0 rn rw_) 4096 + 1) (hI h y 1) := by
    unfold TH
    rw [sI_id (h := sI h y 2 (nI (ctN (plP M e b a0 rn rw_) 4096 + 1)))]
    rw [hI_sI, if_neg (by omega)]
  simp (disch := omega) only [nm, bd_s, ko_K, ka_K, koK_t, kaK_t, kr_s, kn_s, kn_n, hK_sI, hR_sI, hK_sL, hR_sL, hI_sL, hL_sI, hL_sL, hI_sI, hN_sI, hN_sL, ch_G, ch_T, nb_0, nb_1, zb_G, d_T, d_F, d_eT, d_eF, b2i_t, b2i_f, tn_nI, fa_lit, fa_litL, m1_e, nI_add, pk_mul, pk_sub, nI_leI, nI_ltI, nI_eq, le_T, le_F, lt_T, lt_F, eq_T, eq_F, if_pos, if_neg, m1_le, m1_lt', m1_gt, m1_le', m1_eq, m1_qe, b2i_eq0, in_N, in_n, in_I, ↓reduceIte, Bool.true_eq_false, Bool.false_eq_true, reduceCtorEq, decide_eq_true_eq, decide_eq_false_iff_not, Nat.not_lt, Nat.not_le, not_true_eq_false, not_false_eq_true, true_and, and_true, and_self, false_and, and_false, true_or, or_true, false_or, or_false, f_X8_findTelling, k0, cp, e3]
  exact e1.trans e2
end Tl
